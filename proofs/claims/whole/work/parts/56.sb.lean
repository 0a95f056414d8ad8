/-! STRINGBUILDER: append over tb_at. -/
def tx_snoc (t : Nat → Nat) (n ch : Nat) (i : Nat) : Nat := if i = n then ch else t i
theorem fits_nI {ch : Nat} (h : ch < 128) : fits .byte (.int (nI ch)) = true := by
  rw [← i2b_nI h]
  exact pk_fb _
theorem tx_A {t : Nat → Int32} {tx : Nat → Nat} {n ch : Nat} (h : ∀ i : Nat, i < n → t i = nI (tx i)) : ∀ i : Nat, i < n + 1 → upd t n (nI ch) i = nI (tx_snoc tx n ch i) := by
  intro i hi
  unfold upd tx_snoc
  by_cases e : i = n
  · rw [if_pos e, if_pos e]
  · rw [if_neg e, if_neg e, h i (by omega)]
theorem tx_lt {tx : Nat → Nat} {n ch : Nat} (h : ∀ i : Nat, i < n → tx i < 128) (hc : ch < 128) : ∀ i : Nat, i < n + 1 → tx_snoc tx n ch i < 128 := by
  intro i hi
  unfold tx_snoc
  by_cases e : i = n
  · rw [if_pos e]; exact hc
  · rw [if_neg e]; exact h i (by omega)
theorem fit_upd {t : Nat → Int32} {n cap ch : Nat} (h : ∀ j : Nat, j < cap → fits .byte (.int (t j)) = true) (hc : ch < 128) : ∀ j : Nat, j < cap → fits .byte (.int (upd t n (nI ch) j)) = true := by
  intro j hj
  unfold upd
  by_cases e : j = n
  · rw [if_pos e]; exact fits_nI hc
  · rw [if_neg e]; exact h j hj
theorem fit_cpy {t : Nat → Int32} {cap N : Nat} (h : ∀ j : Nat, j < cap → fits .byte (.int (t j)) = true) : ∀ j : Nat, j < N → fits .byte (.int (va_cpy t (fun _ => 0) 0 0 cap j)) = true := by
  intro j _
  unfold va_cpy
  by_cases e : 0 ≤ j ∧ j < 0 + cap
  · rw [if_pos e]; exact h _ (by omega)
  · rw [if_neg e]; exact (by decide : fits .byte (.int 0) = true)
theorem cpy_at {t : Nat → Int32} {cap i : Nat} (h : i < cap) : va_cpy t (fun _ => 0) 0 0 cap i = t i := by
  unfold va_cpy
  rw [if_pos (by omega)]
  congr 1
  omega
set_option maxHeartbeats 4000000 in
set_option maxRecDepth 100000 in
theorem kS_appendA (l : Launch) (G : gx_T) (L : List Nat) (f : Nat → va_E) (h b cap n ch : Nat) (ml : Int32) (t : Nat → Int32) (hh : h ∈ L) (fh : f h = .inr (1, [.ref b, .int 0, .int ml, .int (nI n)])) (hb : b ∈ L) (fb : f b = .inl (G.2.1 0, cap, .inl t)) (hn : n < cap) (hch : ch < 128) (hset : (cap = 16 ∨ cap = 34 ∨ cap = 70 ∨ cap = 142 ∨ cap = 286)) (hfi : ∀ j : Nat, j < cap → fits .byte (.int (t j)) = true) (tx : Nat → Nat) (htx : ∀ i : Nat, i < n → t i = nI (tx i)) (hlt : ∀ i : Nat, i < n → tx i < 128) : gx_M l G yJ4_append_cf468 cJ4_append_cf468 2 (some (.object "java/lang/StringBuilder")) ({ frames := 5, cells := 1, slots := 400, locals := 131 } : Room) [.ref h, .int (nI ch)] (va_pl L f) (fun v u => v = some (.ref h) ∧ ∃ (L1 : List Nat) (f1 : Nat → va_E) (b1 cap1 : Nat), u = va_pl L1 f1 ∧ tb_at G L1 f1 h b1 cap1 (n + 1) (tx_snoc tx n ch) ∧ (∀ a ∈ L, a ∈ L1) ∧ (b1 = b ∨ b1 ∉ L) ∧ ∀ a ∈ L, a ≠ h → a ≠ b → f1 a = f a) := by
  refine gx_start (by decide +kernel) (Nat.le_of_ble_eq_true rfl) ?_
  intro p e s m args below meth c A ls C hr hnm hW hl
  have gX := C.x
  have gB := C.b
  have hl : lv_has ls 2 [(0, .ref h), (1, .int (nI ch))] := hl
  refine lv_aload_n gX gB dJ4_append_cf468_0 rfl (lv_at hl 0 rfl) ?_
  refine lv_iload_n gX gB dJ4_append_cf468_1 rfl (lv_at hl 1 rfl) ?_
  refine gx_callSU (wr := []) (rest := []) C hW sJ4_50 (kJ5_append_3fe6fA l G L f h b cap n ch ml t hh fh hb fb (by omega) hn hch) (gx_pl hh fh) rfl rfl ⟨(Nat.le_of_ble_eq_true rfl), (Nat.le_of_ble_eq_true rfl)⟩ hl.1 rfl (Nat.le_of_ble_eq_true rfl) dJ4_append_cf468_2 ⟨(Nat.le_of_ble_eq_true rfl), (Nat.le_of_ble_eq_true rfl)⟩ (fun v9 u9 H locs hp hW => ?_)
  obtain ⟨rfl, hap⟩ := hp
  have hW : gx_W G A s (u9) H locs := hW
  refine W.eq (g2 := F0 m 5 ls [.ref h]) rfl ?_
  refine W.widen (k := 1) (n := 400) (Nat.le_of_ble_eq_true rfl) (Nat.le_of_ble_eq_true rfl) ?_
  refine lv_pop gX gB dJ4_append_cf468_5 rfl ?_
  refine lv_aload_n gX gB dJ4_append_cf468_6 rfl (lv_at hl 0 rfl) ?_
  exact gx_aret C hr (Or.inl ⟨_, rfl⟩) hW (⟨rfl, by obtain ⟨f1, hu, e1, e2, e3⟩ := hap; exact ⟨L, f1, b, cap, hu, ⟨hh, hb, ml, _, e1, e2, hn, hset, fit_upd hfi hch, tx_A htx, tx_lt hlt hch⟩, fun _ h9 => h9, Or.inl rfl, fun a _ k1 k2 => e3 a k1 k2⟩⟩) (Nat.le_of_ble_eq_true rfl) (Nat.le_of_ble_eq_true rfl) dJ4_append_cf468_7
set_option maxHeartbeats 4000000 in
set_option maxRecDepth 100000 in
theorem kS_appendB (l : Launch) (G : gx_T) (L : List Nat) (f : Nat → va_E) (h b cap n ch : Nat) (ml : Int32) (t : Nat → Int32) (hh : h ∈ L) (fh : f h = .inr (1, [.ref b, .int 0, .int ml, .int (nI cap)])) (hb : b ∈ L) (fb : f b = .inl (G.2.1 0, cap, .inl t)) (hn : n = cap) (hn2 : n < 200) (hch : ch < 128) (hset : (cap = 16 ∨ cap = 34 ∨ cap = 70 ∨ cap = 142 ∨ cap = 286)) (hfi : ∀ j : Nat, j < cap → fits .byte (.int (t j)) = true) (tx : Nat → Nat) (htx : ∀ i : Nat, i < n → t i = nI (tx i)) (hlt : ∀ i : Nat, i < n → tx i < 128) : gx_M l G yJ4_append_cf468 cJ4_append_cf468 2 (some (.object "java/lang/StringBuilder")) ({ frames := 5, cells := 1, slots := 400, locals := 131 } : Room) [.ref h, .int (nI ch)] (va_pl L f) (fun v u => v = some (.ref h) ∧ ∃ (L1 : List Nat) (f1 : Nat → va_E) (b1 cap1 : Nat), u = va_pl L1 f1 ∧ tb_at G L1 f1 h b1 cap1 (n + 1) (tx_snoc tx n ch) ∧ (∀ a ∈ L, a ∈ L1) ∧ (b1 = b ∨ b1 ∉ L) ∧ ∀ a ∈ L, a ≠ h → a ≠ b → f1 a = f a) := by
  refine gx_start (by decide +kernel) (Nat.le_of_ble_eq_true rfl) ?_
  intro p e s m args below meth c A ls C hr hnm hW hl
  have gX := C.x
  have gB := C.b
  have hl : lv_has ls 2 [(0, .ref h), (1, .int (nI ch))] := hl
  refine lv_aload_n gX gB dJ4_append_cf468_0 rfl (lv_at hl 0 rfl) ?_
  refine lv_iload_n gX gB dJ4_append_cf468_1 rfl (lv_at hl 1 rfl) ?_
  refine gx_callSU (wr := []) (rest := []) C hW sJ4_50 (kJ5_append_3fe6fB l G L f h b cap ml t hh fh hb fb (by omega) hfi ch hch) (gx_pl hh fh) rfl rfl ⟨(Nat.le_of_ble_eq_true rfl), (Nat.le_of_ble_eq_true rfl)⟩ hl.1 rfl (Nat.le_of_ble_eq_true rfl) dJ4_append_cf468_2 ⟨(Nat.le_of_ble_eq_true rfl), (Nat.le_of_ble_eq_true rfl)⟩ (fun v9 u9 H locs hp hW => ?_)
  obtain ⟨rfl, hap⟩ := hp
  have hW : gx_W G A s (u9) H locs := hW
  refine W.eq (g2 := F0 m 5 ls [.ref h]) rfl ?_
  refine W.widen (k := 1) (n := 400) (Nat.le_of_ble_eq_true rfl) (Nat.le_of_ble_eq_true rfl) ?_
  refine lv_pop gX gB dJ4_append_cf468_5 rfl ?_
  refine lv_aload_n gX gB dJ4_append_cf468_6 rfl (lv_at hl 0 rfl) ?_
  exact gx_aret C hr (Or.inl ⟨_, rfl⟩) hW (⟨rfl, by subst hn; obtain ⟨q, f1, hq, hu, e1, e2, e3⟩ := hap; exact ⟨L ++ [q], f1, q, _, hu, ⟨List.mem_append_left _ hh, List.mem_append_right _ List.mem_cons_self, ml, _, e1, e2, by omega, by omega, fit_upd (fit_cpy hfi) hch, tx_A (fun i hi => (cpy_at hi).trans (htx i hi)), tx_lt hlt hch⟩, fun _ h9 => List.mem_append_left _ h9, Or.inr hq, fun a ha k1 k2 => e3 a k1 (fun zz => hq (by rw [← zz]; exact ha))⟩⟩) (Nat.le_of_ble_eq_true rfl) (Nat.le_of_ble_eq_true rfl) dJ4_append_cf468_7
theorem kS_append (l : Launch) (G : gx_T) (L : List Nat) (f : Nat → va_E) (q b cap n : Nat) (t : Nat → Nat) (h : tb_at G L f q b cap n t) (hn : n < 200) (ch : Nat) (hch : ch < 128) : gx_M l G yJ4_append_cf468 cJ4_append_cf468 2 (some (.object "java/lang/StringBuilder")) ({ frames := 5, cells := 1, slots := 400, locals := 131 } : Room) [.ref q, .int (nI ch)] (va_pl L f) (fun v u => v = some (.ref q) ∧ ∃ (L1 : List Nat) (f1 : Nat → va_E) (b1 cap1 : Nat), u = va_pl L1 f1 ∧ tb_at G L1 f1 q b1 cap1 (n + 1) (tx_snoc t n ch) ∧ (∀ a ∈ L, a ∈ L1) ∧ (b1 = b ∨ b1 ∉ L) ∧ ∀ a ∈ L, a ≠ q → a ≠ b → f1 a = f a) := by
  obtain ⟨h1, h2, ml, g, h3, h4, h5, h6, h7, h8, h9⟩ := h
  rcases Nat.lt_or_ge n cap with hc | hc
  · exact kS_appendA l G L f q b cap n ch ml g h1 h3 h2 h4 hc hch h6 h7 t h8 h9
  · have e : n = cap := by omega
    exact kS_appendB l G L f q b cap n ch ml g h1 (by rw [← e]; exact h3) h2 h4 e hn hch h6 h7 t h8 h9
