/-! STRINGBUILDER: append over tb_at. -/
def tx_snoc (t : Nat → Nat) (n ch : Nat) (i : Nat) : Nat := if i = n then ch else t i
theorem fits_nI {ch : Nat} (h : ch < 128) : fits .byte (.int (nI ch)) = true := by
  rw [← i2b_nI h]
  exact pk_fb _
theorem tx_A {t : Nat → Int32} {tx : Nat → Nat} {n ch : Nat} (h : ∀ i : Nat, i < n → t i = nI (tx i)) : ∀ i : Nat, i < n + 1 → upd t n (nI ch) i = nI (tx_snoc tx n ch i) := by
  intro i hi
  unfold upd tx_snoc
  by_cases e : i = n
  · rw [if_pos e, if_pos e]
  · rw [if_neg e, if_neg e, h i (by omega)]
theorem tx_lt {tx : Nat → Nat} {n ch : Nat} (h : ∀ i : Nat, i < n → tx i < 128) (hc : ch < 128) : ∀ i : Nat, i < n + 1 → tx_snoc tx n ch i < 128 := by
  intro i hi
  unfold tx_snoc
  by_cases e : i = n
  · rw [if_pos e]; exact hc
  · rw [if_neg e]; exact h i (by omega)
theorem fit_upd {t : Nat → Int32} {n cap ch : Nat} (h : ∀ j : Nat, j < cap → fits .byte (.int (t j)) = true) (hc : ch < 128) : ∀ j : Nat, j < cap → fits .byte (.int (upd t n (nI ch) j)) = true := by
  intro j hj
  unfold upd
  by_cases e : j = n
  · rw [if_pos e]; exact fits_nI hc
  · rw [if_neg e]; exact h j hj
theorem fit_cpy {t : Nat → Int32} {cap N : Nat} (h : ∀ j : Nat, j < cap → fits .byte (.int (t j)) = true) : ∀ j : Nat, j < N → fits .byte (.int (va_cpy t (fun _ => 0) 0 0 cap j)) = true := by
  intro j _
  unfold va_cpy
  by_cases e : 0 ≤ j ∧ j < 0 + cap
  · rw [if_pos e]; exact h _ (by omega)
  · rw [if_neg e]; exact (by decide : fits .byte (.int 0) = true)
theorem cpy_at {t : Nat → Int32} {cap i : Nat} (h : i < cap) : va_cpy t (fun _ => 0) 0 0 cap i = t i := by
  unfold va_cpy
  rw [if_pos (by omega)]
  congr 1
  omega
