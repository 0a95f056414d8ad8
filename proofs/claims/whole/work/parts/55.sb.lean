/-! STRINGBUILDER: the contracts over tb_at. -/
/-- a builder q, its row b of cap bytes, n characters t -/
def tb_at (G : gx_T) (L : List Nat) (f : Nat → va_E) (q b cap n : Nat) (t : Nat → Nat) : Prop := q ∈ L ∧ b ∈ L ∧ ∃ (ml : Int32) (g : Nat → Int32), f q = .inr (1, [.ref b, .int 0, .int ml, .int (nI n)]) ∧ f b = .inl (G.2.1 0, cap, .inl g) ∧ n ≤ cap ∧ (cap = 16 ∨ cap = 34 ∨ cap = 70 ∨ cap = 142 ∨ cap = 286) ∧ (∀ j : Nat, j < cap → fits .byte (.int (g j)) = true) ∧ (∀ i : Nat, i < n → g i = nI (t i)) ∧ ∀ i : Nat, i < n → t i < 128
theorem tb_at.kept {G : gx_T} {L L' : List Nat} {f f' : Nat → va_E} {q b cap n : Nat} {t : Nat → Nat} (h : tb_at G L f q b cap n t) (hL : ∀ a ∈ L, a ∈ L') (hq : f' q = f q) (hb : f' b = f b) : tb_at G L' f' q b cap n t := by
  obtain ⟨h1, h2, ml, g, h3, h4, h5⟩ := h
  exact ⟨hL _ h1, hL _ h2, ml, g, by rw [hq]; exact h3, by rw [hb]; exact h4, h5⟩
theorem kS_length (l : Launch) (G : gx_T) (L : List Nat) (f : Nat → va_E) (q b cap n : Nat) (t : Nat → Nat) (h : tb_at G L f q b cap n t) : gx_M l G yJ4_length_8abf5 cJ4_length_8abf5 1 (some .int) ({ frames := 1, cells := 0, slots := 0, locals := 20 } : Room) [.ref q] (va_pl L f) (fun v u => v = some (.int (nI n)) ∧ u = va_pl L f) := by
  obtain ⟨h1, h2, ml, g, h3, h4, h5⟩ := h
  exact kJ4_length_8abf5 l G L f q b ml (nI n) h1 h3
set_option maxHeartbeats 4000000 in
set_option maxRecDepth 100000 in
theorem kJ4_append_cf468A (l : Launch) (G : gx_T) (L : List Nat) (f : Nat → va_E) (h b cap n ch : Nat) (ml : Int32) (t : Nat → Int32) (hh : h ∈ L) (fh : f h = .inr (1, [.ref b, .int 0, .int ml, .int (nI n)])) (hb : b ∈ L) (fb : f b = .inl (G.2.1 0, cap, .inl t)) (hcap : cap ≤ 1000) (hn : n < cap) (hch : ch < 128) : gx_M l G yJ4_append_cf468 cJ4_append_cf468 2 (some (.object "java/lang/StringBuilder")) ({ frames := 5, cells := 1, slots := 400, locals := 131 } : Room) [.ref h, .int (nI ch)] (va_pl L f) (fun v u => v = some (.ref h) ∧ ∃ f1 : Nat → va_E, u = va_pl L f1 ∧ f1 h = .inr (1, [.ref b, .int 0, .int ml, .int (nI (n + 1))]) ∧ f1 b = .inl (G.2.1 0, cap, .inl (upd t n (nI ch))) ∧ ∀ a, a ≠ h → a ≠ b → f1 a = f a) := by
  refine gx_start (by decide +kernel) (Nat.le_of_ble_eq_true rfl) ?_
  intro p e s m args below meth c A ls C hr hnm hW hl
  have gX := C.x
  have gB := C.b
  have hl : lv_has ls 2 [(0, .ref h), (1, .int (nI ch))] := hl
  refine lv_aload_n gX gB dJ4_append_cf468_0 rfl (lv_at hl 0 rfl) ?_
  refine lv_iload_n gX gB dJ4_append_cf468_1 rfl (lv_at hl 1 rfl) ?_
  refine gx_callSU (wr := []) (rest := []) C hW sJ4_50 (kJ5_append_3fe6fA l G L f h b cap n ch ml t hh fh hb fb hcap hn hch) (gx_pl hh fh) rfl rfl ⟨(Nat.le_of_ble_eq_true rfl), (Nat.le_of_ble_eq_true rfl)⟩ hl.1 rfl (Nat.le_of_ble_eq_true rfl) dJ4_append_cf468_2 ⟨(Nat.le_of_ble_eq_true rfl), (Nat.le_of_ble_eq_true rfl)⟩ (fun v9 u9 H locs hp hW => ?_)
  obtain ⟨rfl, hap⟩ := hp
  have hW : gx_W G A s (u9) H locs := hW
  refine W.eq (g2 := F0 m 5 ls [.ref h]) rfl ?_
  refine W.widen (k := 1) (n := 400) (Nat.le_of_ble_eq_true rfl) (Nat.le_of_ble_eq_true rfl) ?_
  refine lv_pop gX gB dJ4_append_cf468_5 rfl ?_
  refine lv_aload_n gX gB dJ4_append_cf468_6 rfl (lv_at hl 0 rfl) ?_
  exact gx_aret C hr (Or.inl ⟨_, rfl⟩) hW (⟨rfl, hap⟩) (Nat.le_of_ble_eq_true rfl) (Nat.le_of_ble_eq_true rfl) dJ4_append_cf468_7
set_option maxHeartbeats 4000000 in
set_option maxRecDepth 100000 in
theorem kJ4_append_cf468B (l : Launch) (G : gx_T) (L : List Nat) (f : Nat → va_E) (h b cap : Nat) (ml : Int32) (t : Nat → Int32) (hh : h ∈ L) (fh : f h = .inr (1, [.ref b, .int 0, .int ml, .int (nI cap)])) (hb : b ∈ L) (fb : f b = .inl (G.2.1 0, cap, .inl t)) (hcap : cap ≤ 190) (hfi : ∀ j : Nat, j < cap → fits .byte (.int (t j)) = true) (ch : Nat) (hch : ch < 128) : gx_M l G yJ4_append_cf468 cJ4_append_cf468 2 (some (.object "java/lang/StringBuilder")) ({ frames := 5, cells := 1, slots := 400, locals := 131 } : Room) [.ref h, .int (nI ch)] (va_pl L f) (fun v u => v = some (.ref h) ∧ ∃ (q : Nat) (f1 : Nat → va_E), q ∉ L ∧ u = va_pl (L ++ [q]) f1 ∧ f1 h = .inr (1, [.ref q, .int 0, .int ml, .int (nI (cap + 1))]) ∧ f1 q = .inl (G.2.1 0, cap + max 1 (cap + 2), .inl (upd (va_cpy t (fun _ => 0) 0 0 cap) cap (nI ch))) ∧ ∀ a, a ≠ h → a ≠ q → f1 a = f a) := by
  refine gx_start (by decide +kernel) (Nat.le_of_ble_eq_true rfl) ?_
  intro p e s m args below meth c A ls C hr hnm hW hl
  have gX := C.x
  have gB := C.b
  have hl : lv_has ls 2 [(0, .ref h), (1, .int (nI ch))] := hl
  refine lv_aload_n gX gB dJ4_append_cf468_0 rfl (lv_at hl 0 rfl) ?_
  refine lv_iload_n gX gB dJ4_append_cf468_1 rfl (lv_at hl 1 rfl) ?_
  refine gx_callSU (wr := []) (rest := []) C hW sJ4_50 (kJ5_append_3fe6fB l G L f h b cap ml t hh fh hb fb hcap hfi ch hch) (gx_pl hh fh) rfl rfl ⟨(Nat.le_of_ble_eq_true rfl), (Nat.le_of_ble_eq_true rfl)⟩ hl.1 rfl (Nat.le_of_ble_eq_true rfl) dJ4_append_cf468_2 ⟨(Nat.le_of_ble_eq_true rfl), (Nat.le_of_ble_eq_true rfl)⟩ (fun v9 u9 H locs hp hW => ?_)
  obtain ⟨rfl, hap⟩ := hp
  have hW : gx_W G A s (u9) H locs := hW
  refine W.eq (g2 := F0 m 5 ls [.ref h]) rfl ?_
  refine W.widen (k := 1) (n := 400) (Nat.le_of_ble_eq_true rfl) (Nat.le_of_ble_eq_true rfl) ?_
  refine lv_pop gX gB dJ4_append_cf468_5 rfl ?_
  refine lv_aload_n gX gB dJ4_append_cf468_6 rfl (lv_at hl 0 rfl) ?_
  exact gx_aret C hr (Or.inl ⟨_, rfl⟩) hW (⟨rfl, hap⟩) (Nat.le_of_ble_eq_true rfl) (Nat.le_of_ble_eq_true rfl) dJ4_append_cf468_7
