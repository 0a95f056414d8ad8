/-! STRINGBUILDER: append over tb_at. -/
def tx_snoc (t : Nat → Nat) (n ch : Nat) (i : Nat) : Nat := if i = n then ch else t i
theorem fits_nI {ch : Nat} (h : ch < 128) : fits .byte (.int (nI ch)) = true := by
  rw [← i2b_nI h]
  exact pk_fb _
