/-! STRING: checkIndex; BUILDER: charAt. -/
set_option maxHeartbeats 4000000 in
set_option maxRecDepth 100000 in
theorem kJ0_checkIndex_df160 (l : Launch) (G : gx_T) (ws : va_W) (j n : Nat) (hj : j < n) (hn : n < 2 ^ 31) : gx_M l G yJ0_checkIndex_df160 cJ0_checkIndex_df160 2 none ({ frames := 1, cells := 0, slots := 0, locals := 22 } : Room) [.int (nI j), .int (nI n)] (ws) (fun v u => v = none ∧ u = ws) := by
  refine gx_start (by decide +kernel) (Nat.le_of_ble_eq_true rfl) ?_
  intro p e s m args below meth c A ls C hr hnm hW hl
  have gX := C.x
  have gB := C.b
  have hl : lv_has ls 2 [(0, .int (nI j)), (1, .int (nI n))] := hl
  refine lv_iload_n gX gB dJ0_checkIndex_df160_0 rfl (lv_at hl 0 rfl) ?_
  refine lv_iload_n gX gB dJ0_checkIndex_df160_1 rfl (lv_at hl 1 rfl) ?_
  refine gx_getsF C hW (tq_1 234 (by decide +kernel) rfl) dJ0_checkIndex_df160_2 ?_ (fun t9 => ?_)
  · refine gx_callS (wr := []) (rest := []) C hW sJ0_1059 (kJ3_checkIndex_8e157N l G ws j n 0 hj hn) rfl ⟨(Nat.le_of_ble_eq_true rfl), (Nat.le_of_ble_eq_true rfl)⟩ hl.1 rfl (Nat.le_of_ble_eq_true rfl) dJ0_checkIndex_df160_5 ⟨(Nat.le_of_ble_eq_true rfl), (Nat.le_of_ble_eq_true rfl)⟩ (fun v9 u9 H locs hp hW => ?_)
    obtain ⟨rfl, hu⟩ := hp
    rw [hu] at hW
    have hW : gx_W G A s (ws) H locs := hW
    refine W.eq (g2 := F0 m 8 ls [.int (nI j)]) rfl ?_
    refine W.widen (k := 0) (n := 0) (Nat.le_of_ble_eq_true rfl) (Nat.le_of_ble_eq_true rfl) ?_
    refine lv_pop gX gB dJ0_checkIndex_df160_8 rfl ?_
    exact gx_vret C hr hW (⟨rfl, rfl⟩) (Nat.le_of_ble_eq_true rfl) (Nat.le_of_ble_eq_true rfl) dJ0_checkIndex_df160_9
  · refine gx_callS (wr := []) (rest := []) C hW sJ0_1059 (kJ3_checkIndex_8e157R l G ws j n t9 hj hn) rfl ⟨(Nat.le_of_ble_eq_true rfl), (Nat.le_of_ble_eq_true rfl)⟩ hl.1 rfl (Nat.le_of_ble_eq_true rfl) dJ0_checkIndex_df160_5 ⟨(Nat.le_of_ble_eq_true rfl), (Nat.le_of_ble_eq_true rfl)⟩ (fun v9 u9 H locs hp hW => ?_)
    obtain ⟨rfl, hu⟩ := hp
    rw [hu] at hW
    have hW : gx_W G A s (ws) H locs := hW
    refine W.eq (g2 := F0 m 8 ls [.int (nI j)]) rfl ?_
    refine W.widen (k := 0) (n := 0) (Nat.le_of_ble_eq_true rfl) (Nat.le_of_ble_eq_true rfl) ?_
    refine lv_pop gX gB dJ0_checkIndex_df160_8 rfl ?_
    exact gx_vret C hr hW (⟨rfl, rfl⟩) (Nat.le_of_ble_eq_true rfl) (Nat.le_of_ble_eq_true rfl) dJ0_checkIndex_df160_9
