/-! ARRAYLIST, raw: what each method does to a list (modCount, row, size) and its row. -/
set_option maxHeartbeats 4000000 in
set_option maxRecDepth 100000 in
theorem kJxa1e45_init_da8c8 (l : Launch) (G : gx_T) (ws : va_W) (h : Nat) : gx_M l G yJxa1e45_init_da8c8 cJxa1e45_init_da8c8 1 none ({ frames := 1, cells := 0, slots := 0, locals := 20 } : Room) [.ref h] (ws) (fun v u => v = none ∧ u = ws) := by
  refine gx_start (by decide +kernel) (Nat.le_of_ble_eq_true rfl) ?_
  intro p e s m args below meth c A ls C hr hnm hW hl
  have gX := C.x
  have gB := C.b
  have hl : lv_has ls 1 [(0, .ref h)] := hl
  refine lv_aload_n gX gB dJxa1e45_init_da8c8_0 rfl (lv_at hl 0 rfl) ?_
  refine gx_obj C (tq_1 51 (by decide +kernel) rfl) hl.1 dJxa1e45_init_da8c8_1 (Nat.le_of_ble_eq_true rfl) (Nat.le_of_ble_eq_true rfl) ?_
  exact gx_vret C hr hW (⟨rfl, rfl⟩) (Nat.le_of_ble_eq_true rfl) (Nat.le_of_ble_eq_true rfl) dJxa1e45_init_da8c8_4
set_option maxHeartbeats 4000000 in
set_option maxRecDepth 100000 in
theorem kJxc12de_init_da8c8 (l : Launch) (G : gx_T) (L : List Nat) (f : Nat → va_E) (h : Nat) (hh : h ∈ L) (fh : f h = .inr (4, [.int 0, .null, .int 0])) : gx_M l G yJxc12de_init_da8c8 cJxc12de_init_da8c8 1 none ({ frames := 2, cells := 0, slots := 0, locals := 40 } : Room) [.ref h] (va_pl L f) (fun v u => v = none ∧ u = va_pl L (va_up f h (.inr (4, [.int 0, .null, .int 0])))) := by
  refine gx_start (by decide +kernel) (Nat.le_of_ble_eq_true rfl) ?_
  intro p e s m args below meth c A ls C hr hnm hW hl
  have gX := C.x
  have gB := C.b
  have hl : lv_has ls 1 [(0, .ref h)] := hl
  refine lv_aload_n gX gB dJxc12de_init_da8c8_0 rfl (lv_at hl 0 rfl) ?_
  refine gx_callI (wr := []) (rest := []) C hW sJxc12de_1 (kJxa1e45_init_da8c8 l G (va_pl L f) h) rfl ⟨(Nat.le_of_ble_eq_true rfl), (Nat.le_of_ble_eq_true rfl)⟩ hl.1 rfl (Nat.le_of_ble_eq_true rfl) dJxc12de_init_da8c8_1 ⟨(Nat.le_of_ble_eq_true rfl), (Nat.le_of_ble_eq_true rfl)⟩ (fun v9 u9 H locs hp hW => ?_)
  obtain ⟨rfl, hu⟩ := hp
  rw [hu] at hW
  have hW : gx_W G A s (va_pl L f) H locs := hW
  refine W.eq (g2 := F0 m 4 ls []) rfl ?_
  refine W.widen (k := 0) (n := 0) (Nat.le_of_ble_eq_true rfl) (Nat.le_of_ble_eq_true rfl) ?_
  refine lv_aload_n gX gB dJxc12de_init_da8c8_4 rfl (lv_at hl 0 rfl) ?_
  refine lv_iconst (v := 0) gX gB dJxc12de_init_da8c8_5 (by decide) ?_
  refine gx_put C hW clJx4a65c fJxc12de_7 hh fh (Or.inl rfl) rfl rfl (Nat.le_of_ble_eq_true rfl) dJxc12de_init_da8c8_6 (fun H locs hW => ?_)
  obtain ⟨f11, hf11⟩ : ∃ zz, zz = va_up f h (.inr (4, [.int 0, .null, .int 0])) := ⟨_, rfl⟩
  have hW : gx_W G A s (va_pl L f11) H locs := by rw [hf11]; exact hW
  have f11_h : f11 h = .inr (4, [.int 0, .null, .int 0]) := by rw [hf11]; exact va_up_self _ _ _
  exact gx_vret C hr hW (⟨rfl, by rw [hf11]⟩) (Nat.le_of_ble_eq_true rfl) (Nat.le_of_ble_eq_true rfl) dJxc12de_init_da8c8_9
set_option maxHeartbeats 4000000 in
set_option maxRecDepth 100000 in
theorem kJx4a65c_init_da8c8 (l : Launch) (G : gx_T) (L : List Nat) (f : Nat → va_E) (h : Nat) (hh : h ∈ L) (fh : f h = .inr (4, [.int 0, .null, .int 0])) : gx_M l G yJx4a65c_init_da8c8 cJx4a65c_init_da8c8 1 none ({ frames := 3, cells := 0, slots := 0, locals := 60 } : Room) [.ref h] (va_pl L f) (fun v u => v = none ∧ u = va_pl L (va_up f h (.inr (4, [.int 0, .ref (G.2.2 0), .int 0])))) := by
  refine gx_start (by decide +kernel) (Nat.le_of_ble_eq_true rfl) ?_
  intro p e s m args below meth c A ls C hr hnm hW hl
  have gX := C.x
  have gB := C.b
  have hl : lv_has ls 1 [(0, .ref h)] := hl
  refine lv_aload_n gX gB dJx4a65c_init_da8c8_0 rfl (lv_at hl 0 rfl) ?_
  refine gx_callI (wr := []) (rest := []) C hW sJx4a65c_1 (kJxc12de_init_da8c8 l G L f h hh fh) rfl ⟨(Nat.le_of_ble_eq_true rfl), (Nat.le_of_ble_eq_true rfl)⟩ hl.1 rfl (Nat.le_of_ble_eq_true rfl) dJx4a65c_init_da8c8_1 ⟨(Nat.le_of_ble_eq_true rfl), (Nat.le_of_ble_eq_true rfl)⟩ (fun v9 u9 H locs hp hW => ?_)
  obtain ⟨rfl, hu⟩ := hp
  rw [hu] at hW
  have hW : gx_W G A s (va_pl L (va_up f h (.inr (4, [.int 0, .null, .int 0])))) H locs := hW
  refine W.eq (g2 := F0 m 4 ls []) rfl ?_
  refine W.widen (k := 0) (n := 0) (Nat.le_of_ble_eq_true rfl) (Nat.le_of_ble_eq_true rfl) ?_
  refine lv_aload_n gX gB dJx4a65c_init_da8c8_4 rfl (lv_at hl 0 rfl) ?_
  refine gx_getsE C hW (tq_1 52 (by decide +kernel) rfl) dJx4a65c_init_da8c8_5 ?_
  refine gx_put C hW clJx4a65c fJx4a65c_9 hh (va_up_self f h (.inr (4, [.int 0, .null, .int 0]))) (Or.inl rfl) rfl rfl (Nat.le_of_ble_eq_true rfl) dJx4a65c_init_da8c8_8 (fun H locs hW => ?_)
  obtain ⟨f12, hf12⟩ : ∃ zz, zz = va_up (va_up f h (.inr (4, [.int 0, .null, .int 0]))) h (.inr (4, [.int 0, .ref (G.2.2 0), .int 0])) := ⟨_, rfl⟩
  have hW : gx_W G A s (va_pl L f12) H locs := by rw [hf12]; exact hW
  have f12_h : f12 h = .inr (4, [.int 0, .ref (G.2.2 0), .int 0]) := by rw [hf12]; exact va_up_self _ _ _
  exact gx_vret C hr hW (⟨rfl, by rw [hf12, bx_uu]⟩) (Nat.le_of_ble_eq_true rfl) (Nat.le_of_ble_eq_true rfl) dJx4a65c_init_da8c8_11
set_option maxHeartbeats 4000000 in
set_option maxRecDepth 100000 in
theorem kJx4a65c_size_8abf5 (l : Launch) (G : gx_T) (L : List Nat) (f : Nat → va_E) (h b : Nat) (mc k : Int32) (hh : h ∈ L) (fh : f h = .inr (4, [.int mc, .ref b, .int k])) : gx_M l G yJx4a65c_size_8abf5 cJx4a65c_size_8abf5 1 (some .int) ({ frames := 0, cells := 0, slots := 0, locals := 0 } : Room) [.ref h] (va_pl L f) (fun v u => v = some (.int k) ∧ u = va_pl L f) := by
  refine gx_start (by decide +kernel) (Nat.le_of_ble_eq_true rfl) ?_
  intro p e s m args below meth c A ls C hr hnm hW hl
  have gX := C.x
  have gB := C.b
  have hl : lv_has ls 1 [(0, .ref h)] := hl
  refine lv_aload_n gX gB dJx4a65c_size_8abf5_0 rfl (lv_at hl 0 rfl) ?_
  refine gx_get C hW fJx4a65c_48 (gx_pl hh fh) rfl dJx4a65c_size_8abf5_1 ?_
  exact gx_iret C hr hW (⟨rfl, rfl⟩) (Nat.le_of_ble_eq_true rfl) (Nat.le_of_ble_eq_true rfl) dJx4a65c_size_8abf5_4
set_option maxHeartbeats 4000000 in
set_option maxRecDepth 100000 in
theorem kJx4a65c_isEmpty_aae02 (l : Launch) (G : gx_T) (L : List Nat) (f : Nat → va_E) (h b : Nat) (mc k : Int32) (hh : h ∈ L) (fh : f h = .inr (4, [.int mc, .ref b, .int k])) : gx_M l G yJx4a65c_isEmpty_aae02 cJx4a65c_isEmpty_aae02 1 (some .boolean) ({ frames := 0, cells := 0, slots := 0, locals := 0 } : Room) [.ref h] (va_pl L f) (fun v u => v = some (.int (gx_b (k = 0))) ∧ u = va_pl L f) := by
  refine gx_start (by decide +kernel) (Nat.le_of_ble_eq_true rfl) ?_
  intro p e s m args below meth c A ls C hr hnm hW hl
  have gX := C.x
  have gB := C.b
  have hl : lv_has ls 1 [(0, .ref h)] := hl
  refine lv_aload_n gX gB dJx4a65c_isEmpty_aae02_0 rfl (lv_at hl 0 rfl) ?_
  refine gx_get C hW fJx4a65c_48 (gx_pl hh fh) rfl dJx4a65c_isEmpty_aae02_1 ?_
  refine lv_if_ne (tgt := 11) gX gB dJx4a65c_isEmpty_aae02_4 (by decide) (fun c4 => ?_) (fun c4 => ?_)
  · refine lv_iconst (v := 0) gX gB dJx4a65c_isEmpty_aae02_11 (by decide) ?_
    exact gx_zret C hr (by decide) hW (⟨by simp [gx_b, c4], rfl⟩) (Nat.le_of_ble_eq_true rfl) (Nat.le_of_ble_eq_true rfl) dJx4a65c_isEmpty_aae02_12
  · refine lv_iconst (v := 1) gX gB dJx4a65c_isEmpty_aae02_7 (by decide) ?_
    refine lv_goto (tgt := 12) gX gB dJx4a65c_isEmpty_aae02_8 (by decide) ?_
    exact gx_zret C hr (by decide) hW (⟨by simp [gx_b, c4], rfl⟩) (Nat.le_of_ble_eq_true rfl) (Nat.le_of_ble_eq_true rfl) dJx4a65c_isEmpty_aae02_12
set_option maxHeartbeats 4000000 in
set_option maxRecDepth 100000 in
theorem kJ3_checkIndex_8e157N (l : Launch) (G : gx_T) (ws : va_W) (j n t : Nat) (hj : j < n) (hn : n < 2 ^ 31) : gx_M l G yJ3_checkIndex_8e157 cJ3_checkIndex_8e157 3 (some .int) ({ frames := 0, cells := 0, slots := 0, locals := 0 } : Room) [.int (nI j), .int (nI n), .null] (ws) (fun v u => v = some (.int (nI j)) ∧ u = ws) := by
  refine gx_start (by decide +kernel) (Nat.le_of_ble_eq_true rfl) ?_
  intro p e s m args below meth c A ls C hr hnm hW hl
  have gX := C.x
  have gB := C.b
  have hl : lv_has ls 3 [(0, .int (nI j)), (1, .int (nI n)), (2, .null)] := hl
  refine lv_iload_n gX gB dJ3_checkIndex_8e157_0 rfl (lv_at hl 0 rfl) ?_
  refine lv_if_lt (tgt := 9) gX gB dJ3_checkIndex_8e157_1 (by decide) (fun h9 => absurd (show (nI j) < (0 : Int32) from h9) (nI_pos (by omega))) (fun _ => ?_)
  refine lv_iload_n gX gB dJ3_checkIndex_8e157_4 rfl (lv_at hl 0 rfl) ?_
  refine lv_iload_n gX gB dJ3_checkIndex_8e157_5 rfl (lv_at hl 1 rfl) ?_
  refine lv_icmp_lt (tgt := 16) gX gB dJ3_checkIndex_8e157_6 (by decide) (fun _ => ?_) (fun h9 => absurd (show (nI j) < (nI n) from nI_lt hj (by omega)) h9)
  refine lv_iload_n gX gB dJ3_checkIndex_8e157_16 rfl (lv_at hl 0 rfl) ?_
  exact gx_iret C hr hW (⟨rfl, rfl⟩) (Nat.le_of_ble_eq_true rfl) (Nat.le_of_ble_eq_true rfl) dJ3_checkIndex_8e157_17
set_option maxHeartbeats 4000000 in
set_option maxRecDepth 100000 in
theorem kJ3_checkIndex_8e157R (l : Launch) (G : gx_T) (ws : va_W) (j n t : Nat) (hj : j < n) (hn : n < 2 ^ 31) : gx_M l G yJ3_checkIndex_8e157 cJ3_checkIndex_8e157 3 (some .int) ({ frames := 0, cells := 0, slots := 0, locals := 0 } : Room) [.int (nI j), .int (nI n), .ref t] (ws) (fun v u => v = some (.int (nI j)) ∧ u = ws) := by
  refine gx_start (by decide +kernel) (Nat.le_of_ble_eq_true rfl) ?_
  intro p e s m args below meth c A ls C hr hnm hW hl
  have gX := C.x
  have gB := C.b
  have hl : lv_has ls 3 [(0, .int (nI j)), (1, .int (nI n)), (2, .ref t)] := hl
  refine lv_iload_n gX gB dJ3_checkIndex_8e157_0 rfl (lv_at hl 0 rfl) ?_
  refine lv_if_lt (tgt := 9) gX gB dJ3_checkIndex_8e157_1 (by decide) (fun h9 => absurd (show (nI j) < (0 : Int32) from h9) (nI_pos (by omega))) (fun _ => ?_)
  refine lv_iload_n gX gB dJ3_checkIndex_8e157_4 rfl (lv_at hl 0 rfl) ?_
  refine lv_iload_n gX gB dJ3_checkIndex_8e157_5 rfl (lv_at hl 1 rfl) ?_
  refine lv_icmp_lt (tgt := 16) gX gB dJ3_checkIndex_8e157_6 (by decide) (fun _ => ?_) (fun h9 => absurd (show (nI j) < (nI n) from nI_lt hj (by omega)) h9)
  refine lv_iload_n gX gB dJ3_checkIndex_8e157_16 rfl (lv_at hl 0 rfl) ?_
  exact gx_iret C hr hW (⟨rfl, rfl⟩) (Nat.le_of_ble_eq_true rfl) (Nat.le_of_ble_eq_true rfl) dJ3_checkIndex_8e157_17
set_option maxHeartbeats 4000000 in
set_option maxRecDepth 100000 in
theorem kJ15_checkIndex_7cf53 (l : Launch) (G : gx_T) (ws : va_W) (j n : Nat) (hj : j < n) (hn : n < 2 ^ 31) : gx_M l G yJ15_checkIndex_7cf53 cJ15_checkIndex_7cf53 2 (some .int) ({ frames := 1, cells := 0, slots := 0, locals := 22 } : Room) [.int (nI j), .int (nI n)] (ws) (fun v u => v = some (.int (nI j)) ∧ u = ws) := by
  refine gx_start (by decide +kernel) (Nat.le_of_ble_eq_true rfl) ?_
  intro p e s m args below meth c A ls C hr hnm hW hl
  have gX := C.x
  have gB := C.b
  have hl : lv_has ls 2 [(0, .int (nI j)), (1, .int (nI n))] := hl
  refine lv_iload_n gX gB dJ15_checkIndex_7cf53_0 rfl (lv_at hl 0 rfl) ?_
  refine lv_iload_n gX gB dJ15_checkIndex_7cf53_1 rfl (lv_at hl 1 rfl) ?_
  refine lv_null gX gB dJ15_checkIndex_7cf53_2 ?_
  refine gx_callS (wr := []) (rest := []) C hW sJ15_105 (kJ3_checkIndex_8e157N l G ws j n 0 hj hn) rfl ⟨(Nat.le_of_ble_eq_true rfl), (Nat.le_of_ble_eq_true rfl)⟩ hl.1 rfl (Nat.le_of_ble_eq_true rfl) dJ15_checkIndex_7cf53_3 ⟨(Nat.le_of_ble_eq_true rfl), (Nat.le_of_ble_eq_true rfl)⟩ (fun v9 u9 H locs hp hW => ?_)
  obtain ⟨rfl, hu⟩ := hp
  rw [hu] at hW
  have hW : gx_W G A s (ws) H locs := hW
  refine W.eq (g2 := F0 m 6 ls [.int (nI j)]) rfl ?_
  refine W.widen (k := 0) (n := 0) (Nat.le_of_ble_eq_true rfl) (Nat.le_of_ble_eq_true rfl) ?_
  exact gx_iret C hr hW (⟨rfl, rfl⟩) (Nat.le_of_ble_eq_true rfl) (Nat.le_of_ble_eq_true rfl) dJ15_checkIndex_7cf53_6
set_option maxHeartbeats 4000000 in
set_option maxRecDepth 100000 in
theorem kJx4a65c_elementData_915e3 (l : Launch) (G : gx_T) (L : List Nat) (f : Nat → va_E) (h b n j w : Nat) (mc k : Int32) (g : Nat → Option Nat) (hh : h ∈ L) (fh : f h = .inr (4, [.int mc, .ref b, .int k])) (hb : b ∈ L) (fb : f b = .inl (G.2.1 3, n, .inr (.inr (.inr (.inr g))))) (hj : j < n) (hn : n < 2 ^ 31) (hg : g j = some w) : gx_M l G yJx4a65c_elementData_915e3 cJx4a65c_elementData_915e3 2 (some (.object "java/lang/Object")) ({ frames := 0, cells := 0, slots := 0, locals := 0 } : Room) [.ref h, .int (nI j)] (va_pl L f) (fun v u => v = some (.ref w) ∧ u = va_pl L f) := by
  refine gx_start (by decide +kernel) (Nat.le_of_ble_eq_true rfl) ?_
  intro p e s m args below meth c A ls C hr hnm hW hl
  have gX := C.x
  have gB := C.b
  have hl : lv_has ls 2 [(0, .ref h), (1, .int (nI j))] := hl
  refine lv_aload_n gX gB dJx4a65c_elementData_915e3_0 rfl (lv_at hl 0 rfl) ?_
  refine gx_get C hW fJx4a65c_9 (gx_pl hh fh) rfl dJx4a65c_elementData_915e3_1 ?_
  refine lv_iload_n gX gB dJx4a65c_elementData_915e3_4 rfl (lv_at hl 1 rfl) ?_
  refine gx_aaldS C hW (gx_pl hb fb) rfl hj hn hg dJx4a65c_elementData_915e3_5 ?_
  exact gx_aret C hr (Or.inl ⟨_, rfl⟩) hW (⟨rfl, rfl⟩) (Nat.le_of_ble_eq_true rfl) (Nat.le_of_ble_eq_true rfl) dJx4a65c_elementData_915e3_6
set_option maxHeartbeats 4000000 in
set_option maxRecDepth 100000 in
theorem kJx4a65c_get_915e3 (l : Launch) (G : gx_T) (L : List Nat) (f : Nat → va_E) (h b n c0 j w : Nat) (mc : Int32) (g : Nat → Option Nat) (hh : h ∈ L) (fh : f h = .inr (4, [.int mc, .ref b, .int (nI c0)])) (hb : b ∈ L) (fb : f b = .inl (G.2.1 3, n, .inr (.inr (.inr (.inr g))))) (hj : j < c0) (hc : c0 ≤ n) (hn : n < 2 ^ 31) (hg : g j = some w) : gx_M l G yJx4a65c_get_915e3 cJx4a65c_get_915e3 2 (some (.object "java/lang/Object")) ({ frames := 2, cells := 0, slots := 0, locals := 43 } : Room) [.ref h, .int (nI j)] (va_pl L f) (fun v u => v = some (.ref w) ∧ u = va_pl L f) := by
  refine gx_start (by decide +kernel) (Nat.le_of_ble_eq_true rfl) ?_
  intro p e s m args below meth c A ls C hr hnm hW hl
  have gX := C.x
  have gB := C.b
  have hl : lv_has ls 2 [(0, .ref h), (1, .int (nI j))] := hl
  refine lv_iload_n gX gB dJx4a65c_get_915e3_0 rfl (lv_at hl 1 rfl) ?_
  refine lv_aload_n gX gB dJx4a65c_get_915e3_1 rfl (lv_at hl 0 rfl) ?_
  refine gx_get C hW fJx4a65c_48 (gx_pl hh fh) rfl dJx4a65c_get_915e3_2 ?_
  refine gx_callS (wr := []) (rest := []) C hW sJx4a65c_118 (kJ15_checkIndex_7cf53 l G (va_pl L f) j c0 hj (by omega)) rfl ⟨(Nat.le_of_ble_eq_true rfl), (Nat.le_of_ble_eq_true rfl)⟩ hl.1 rfl (Nat.le_of_ble_eq_true rfl) dJx4a65c_get_915e3_5 ⟨(Nat.le_of_ble_eq_true rfl), (Nat.le_of_ble_eq_true rfl)⟩ (fun v9 u9 H locs hp hW => ?_)
  obtain ⟨rfl, hu⟩ := hp
  rw [hu] at hW
  have hW : gx_W G A s (va_pl L f) H locs := hW
  refine W.eq (g2 := F0 m 8 ls [.int (nI j)]) rfl ?_
  refine W.widen (k := 0) (n := 0) (Nat.le_of_ble_eq_true rfl) (Nat.le_of_ble_eq_true rfl) ?_
  refine lv_pop gX gB dJx4a65c_get_915e3_8 rfl ?_
  refine lv_aload_n gX gB dJx4a65c_get_915e3_9 rfl (lv_at hl 0 rfl) ?_
  refine lv_iload_n gX gB dJx4a65c_get_915e3_10 rfl (lv_at hl 1 rfl) ?_
  refine gx_callV (wr := []) (rest := []) C hW sJx4a65c_123 (kJx4a65c_elementData_915e3 l G L f h b n j w mc (nI c0) g hh fh hb fb (by omega) hn hg) (gx_pl hh fh) rfl rfl ⟨(Nat.le_of_ble_eq_true rfl), (Nat.le_of_ble_eq_true rfl)⟩ hl.1 rfl (Nat.le_of_ble_eq_true rfl) dJx4a65c_get_915e3_11 ⟨(Nat.le_of_ble_eq_true rfl), (Nat.le_of_ble_eq_true rfl)⟩ (fun v9 u9 H locs hp hW => ?_)
  obtain ⟨rfl, hu⟩ := hp
  rw [hu] at hW
  have hW : gx_W G A s (va_pl L f) H locs := hW
  refine W.eq (g2 := F0 m 14 ls [.ref w]) rfl ?_
  refine W.widen (k := 0) (n := 0) (Nat.le_of_ble_eq_true rfl) (Nat.le_of_ble_eq_true rfl) ?_
  exact gx_aret C hr (Or.inl ⟨_, rfl⟩) hW (⟨rfl, rfl⟩) (Nat.le_of_ble_eq_true rfl) (Nat.le_of_ble_eq_true rfl) dJx4a65c_get_915e3_14
theorem gx_maxN {a b : Nat} (ha : a < 2 ^ 31) (hb : b < 2 ^ 31) : (if nI a < nI b then nI b else nI a) = nI (max a b) := by
  by_cases h : a < b
  · rw [if_pos (nI_lt h hb), Nat.max_eq_right (Nat.le_of_lt h)]
  · rw [if_neg (nI_nlt (Nat.not_lt.mp h) ha), Nat.max_eq_left (Nat.not_lt.mp h)]
theorem gx_minN {a b : Nat} (ha : a < 2 ^ 31) (hb : b < 2 ^ 31) : (if nI b < nI a then nI b else nI a) = nI (min a b) := by
  by_cases h : b < a
  · rw [if_pos (nI_lt h ha), Nat.min_eq_right (Nat.le_of_lt h)]
  · rw [if_neg (nI_nlt (Nat.not_lt.mp h) hb), Nat.min_eq_left (Nat.not_lt.mp h)]
set_option maxHeartbeats 4000000 in
set_option maxRecDepth 100000 in
theorem kJ8_newLength_cabcc (l : Launch) (G : gx_T) (ws : va_W) (n a b : Nat) (h0 : 0 < n + max a b) (h1 : n ≤ 100000000) (h2 : a ≤ 100000000) (h3 : b ≤ 100000000) : gx_M l G yJ8_newLength_cabcc cJ8_newLength_cabcc 4 (some .int) ({ frames := 1, cells := 0, slots := 0, locals := 40 } : Room) [.int (nI n), .int (nI a), .int (nI b)] (ws) (fun v u => v = some (.int (nI (n + max a b))) ∧ u = ws) := by
  refine gx_start (by decide +kernel) (Nat.le_of_ble_eq_true rfl) ?_
  intro p e s m args below meth c A ls C hr hnm hW hl
  have gX := C.x
  have gB := C.b
  have hl : lv_has ls 4 [(0, .int (nI n)), (1, .int (nI a)), (2, .int (nI b))] := hl
  refine lv_iload_n gX gB dJ8_newLength_cabcc_0 rfl (lv_at hl 0 rfl) ?_
  refine lv_iload_n gX gB dJ8_newLength_cabcc_1 rfl (lv_at hl 1 rfl) ?_
  refine lv_iload_n gX gB dJ8_newLength_cabcc_2 rfl (lv_at hl 2 rfl) ?_
  refine gx_mmax C (tq_1 183 (by decide +kernel) rfl) hl.1 (Nat.le_of_ble_eq_true rfl) (Nat.le_of_ble_eq_true rfl) (Nat.le_of_ble_eq_true rfl) (Nat.le_of_ble_eq_true rfl) dJ8_newLength_cabcc_3 ?_
  refine gx_topi (show (if (nI a) < (nI b) then (nI b) else (nI a)) = nI (max a b) from gx_maxN (by omega) (by omega)) ?_
  refine lv_iadd gX gB dJ8_newLength_cabcc_6 ?_
  refine gx_topi (show ((nI n) + (nI (max a b))) = nI (n + max a b) from nI_add n (max a b)) ?_
  refine lv_istore_n (lv' := [(3, .int (nI (n + max a b))), (0, .int (nI n)), (1, .int (nI a)), (2, .int (nI b))]) gX gB dJ8_newLength_cabcc_7 rfl hl (by decide) rfl (fun ls hl => ?_)
  refine lv_iconst (v := 0) gX gB dJ8_newLength_cabcc_8 (by decide) ?_
  refine lv_iload_n gX gB dJ8_newLength_cabcc_9 rfl (lv_at hl 0 rfl) ?_
  refine lv_icmp_ge (tgt := 21) gX gB dJ8_newLength_cabcc_10 (by decide) (fun h9 => absurd (show (nI (n + max a b)) ≤ 0 from h9) (fun z => absurd z (nI_nle (n := n + max a b) (by omega) (by omega)))) (fun _ => ?_)
  refine lv_iload_n gX gB dJ8_newLength_cabcc_13 rfl (lv_at hl 0 rfl) ?_
  refine gx_ldci (v := 2147483639) C (tq_1 186 (by decide +kernel) rfl) dJ8_newLength_cabcc_14 ?_
  refine lv_icmp_gt (tgt := 21) gX gB dJ8_newLength_cabcc_16 (by decide) (fun h9 => absurd (show (2147483639 : Int32) < (nI (n + max a b)) from h9) (fun z => absurd ((nI_ltI (a := 2147483639) (b := n + max a b) (by decide) (by omega)).mp z) (by omega))) (fun _ => ?_)
  refine lv_iload_n gX gB dJ8_newLength_cabcc_19 rfl (lv_at hl 0 rfl) ?_
  exact gx_iret C hr hW (⟨rfl, rfl⟩) (Nat.le_of_ble_eq_true rfl) (Nat.le_of_ble_eq_true rfl) dJ8_newLength_cabcc_20
