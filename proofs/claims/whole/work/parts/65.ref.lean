/-! THE REFERENCE: leaves, part, drawer, person. -/
set_option maxHeartbeats 4000000 in
set_option maxRecDepth 100000 in
theorem kX6_isIn (l : Launch) (G : gx_T) (ws : va_W) (x a b : Int64) : gx_M l G yX6_isIn cX6_isIn 6 (some .boolean) ({ frames := 0, cells := 0, slots := 0, locals := 0 } : Room) [.long x, .long a, .long b] (ws) (fun v u => v = some (.int (gx_b (in_rng a b x))) ∧ u = ws) := by
  refine gx_start (by decide +kernel) (Nat.le_of_ble_eq_true rfl) ?_
  intro p e s m args below meth c A ls C hr hnm hW hl
  have gX := C.x
  have gB := C.b
  have hl : lv_has ls 6 [(0, .long x), (2, .long a), (4, .long b)] := hl
  refine lv_lload_n gX gB dX6_isIn_0 rfl (lv_at hl 0 rfl) ?_
  refine lv_lload_n gX gB dX6_isIn_1 rfl (lv_at hl 1 rfl) ?_
  refine gx_lc_lt (tgt := 17) C dX6_isIn_2 dX6_isIn_3 (by decide) (fun c2 => ?_) (fun c2 => ?_)
  · refine lv_iconst (v := 0) gX gB dX6_isIn_17 (by decide) ?_
    exact gx_zret C hr (by decide) hW (⟨by simp [gx_b, c2], rfl⟩) (Nat.le_of_ble_eq_true rfl) (Nat.le_of_ble_eq_true rfl) dX6_isIn_18
  · refine lv_lload_n gX gB dX6_isIn_6 rfl (lv_at hl 0 rfl) ?_
    refine lv_lload gX gB dX6_isIn_7 (lv_at hl 2 rfl) ?_
    refine gx_lc_gt (tgt := 17) C dX6_isIn_9 dX6_isIn_10 (by decide) (fun c9 => ?_) (fun c9 => ?_)
    · refine lv_iconst (v := 0) gX gB dX6_isIn_17 (by decide) ?_
      exact gx_zret C hr (by decide) hW (⟨by simp [gx_b, c2, c9], rfl⟩) (Nat.le_of_ble_eq_true rfl) (Nat.le_of_ble_eq_true rfl) dX6_isIn_18
    · refine lv_iconst (v := 1) gX gB dX6_isIn_13 (by decide) ?_
      refine lv_goto (tgt := 18) gX gB dX6_isIn_14 (by decide) ?_
      exact gx_zret C hr (by decide) hW (⟨by simp [gx_b, c2, c9], rfl⟩) (Nat.le_of_ble_eq_true rfl) (Nat.le_of_ble_eq_true rfl) dX6_isIn_18
set_option maxHeartbeats 4000000 in
set_option maxRecDepth 100000 in
theorem kX6_isPlace (l : Launch) (G : gx_T) (ws : va_W) (x : Int64) : gx_M l G yX6_isPlace cX6_isPlace 2 (some .boolean) ({ frames := 0, cells := 0, slots := 0, locals := 0 } : Room) [.long x] (ws) (fun v u => v = some (.int (gx_b (pl_ok x))) ∧ u = ws) := by
  refine gx_start (by decide +kernel) (Nat.le_of_ble_eq_true rfl) ?_
  intro p e s m args below meth c A ls C hr hnm hW hl
  have gX := C.x
  have gB := C.b
  have hl : lv_has ls 2 [(0, .long x)] := hl
  refine lv_lload_n gX gB dX6_isPlace_0 rfl (lv_at hl 0 rfl) ?_
  refine gx_ldc2 (v := (-100000)) C (tq_5 95 (by decide +kernel) rfl) dX6_isPlace_1 ?_
  refine gx_lc_lt (tgt := 20) C dX6_isPlace_4 dX6_isPlace_5 (by decide) (fun c4 => ?_) (fun c4 => ?_)
  · refine lv_iconst (v := 0) gX gB dX6_isPlace_20 (by decide) ?_
    exact gx_zret C hr (by decide) hW (⟨by simp [gx_b, in_rng, c4], rfl⟩) (Nat.le_of_ble_eq_true rfl) (Nat.le_of_ble_eq_true rfl) dX6_isPlace_21
  · refine lv_lload_n gX gB dX6_isPlace_8 rfl (lv_at hl 0 rfl) ?_
    refine gx_ldc2 (v := 100000) C (tq_5 96 (by decide +kernel) rfl) dX6_isPlace_9 ?_
    refine gx_lc_gt (tgt := 20) C dX6_isPlace_12 dX6_isPlace_13 (by decide) (fun c12 => ?_) (fun c12 => ?_)
    · refine lv_iconst (v := 0) gX gB dX6_isPlace_20 (by decide) ?_
      exact gx_zret C hr (by decide) hW (⟨by simp [gx_b, in_rng, c4, c12], rfl⟩) (Nat.le_of_ble_eq_true rfl) (Nat.le_of_ble_eq_true rfl) dX6_isPlace_21
    · refine lv_iconst (v := 1) gX gB dX6_isPlace_16 (by decide) ?_
      refine lv_goto (tgt := 21) gX gB dX6_isPlace_17 (by decide) ?_
      exact gx_zret C hr (by decide) hW (⟨by simp [gx_b, in_rng, c4, c12], rfl⟩) (Nat.le_of_ble_eq_true rfl) (Nat.le_of_ble_eq_true rfl) dX6_isPlace_21
set_option maxHeartbeats 4000000 in
set_option maxRecDepth 100000 in
theorem kX6_thrown (l : Launch) (G : gx_T) (ad : Nat → Nat) (cd : Int32) (pn fn dn cn sn tn : Nat) (ex ey eg : Int64) (at0 fl : Int32) (px py pz gr ou fx fy : Nat → Int64) (od cr ty to_ dr : Nat → Int32) : gx_M l G yX6_thrown cX6_thrown 1 (some .int) ({ frames := 0, cells := 0, slots := 0, locals := 0 } : Room) [.ref (ad 0)] ([(ad 0, .inr (11, [.int cd, .int (nI pn), .ref (ad 1), .ref (ad 2), .ref (ad 3), .ref (ad 4), .ref (ad 5), .int (nI fn), .ref (ad 6), .ref (ad 7), .int (nI dn), .ref (ad 8), .long ex, .long ey, .long eg, .int (nI cn), .ref (ad 9), .ref (ad 10), .int (nI sn), .int at0, .int fl, .int (nI tn), .ref (ad 11), .ref (ad 12)])), (ad 1, .inl (G.2.1 2, 16, .inr (.inl px))), (ad 2, .inl (G.2.1 2, 16, .inr (.inl py))), (ad 3, .inl (G.2.1 2, 16, .inr (.inl pz))), (ad 4, .inl (G.2.1 2, 16, .inr (.inl gr))), (ad 5, .inl (G.2.1 2, 16, .inr (.inl ou))), (ad 6, .inl (G.2.1 2, 12, .inr (.inl fx))), (ad 7, .inl (G.2.1 2, 12, .inr (.inl fy))), (ad 8, .inl (G.2.1 1, 8, .inl od)), (ad 9, .inl (G.2.1 1, 12, .inl cr)), (ad 10, .inl (G.2.1 1, 200, .inl ty)), (ad 11, .inl (G.2.1 1, 48, .inl to_)), (ad 12, .inl (G.2.1 1, 48, .inl dr))]) (fun v u => v = some (.int cd) ∧ u = [(ad 0, .inr (11, [.int cd, .int (nI pn), .ref (ad 1), .ref (ad 2), .ref (ad 3), .ref (ad 4), .ref (ad 5), .int (nI fn), .ref (ad 6), .ref (ad 7), .int (nI dn), .ref (ad 8), .long ex, .long ey, .long eg, .int (nI cn), .ref (ad 9), .ref (ad 10), .int (nI sn), .int at0, .int fl, .int (nI tn), .ref (ad 11), .ref (ad 12)])), (ad 1, .inl (G.2.1 2, 16, .inr (.inl px))), (ad 2, .inl (G.2.1 2, 16, .inr (.inl py))), (ad 3, .inl (G.2.1 2, 16, .inr (.inl pz))), (ad 4, .inl (G.2.1 2, 16, .inr (.inl gr))), (ad 5, .inl (G.2.1 2, 16, .inr (.inl ou))), (ad 6, .inl (G.2.1 2, 12, .inr (.inl fx))), (ad 7, .inl (G.2.1 2, 12, .inr (.inl fy))), (ad 8, .inl (G.2.1 1, 8, .inl od)), (ad 9, .inl (G.2.1 1, 12, .inl cr)), (ad 10, .inl (G.2.1 1, 200, .inl ty)), (ad 11, .inl (G.2.1 1, 48, .inl to_)), (ad 12, .inl (G.2.1 1, 48, .inl dr))]) := by
  refine gx_start (by decide +kernel) (Nat.le_of_ble_eq_true rfl) ?_
  intro p e s m args below meth c A ls C hr hnm hW hl
  have gX := C.x
  have gB := C.b
  have hl : lv_has ls 1 [(0, .ref (ad 0))] := hl
  refine lv_aload_n gX gB dX6_thrown_0 rfl (lv_at hl 0 rfl) ?_
  refine gx_get C hW fX6_47 ⟨0, rfl⟩ rfl dX6_thrown_1 ?_
  exact gx_iret C hr hW (⟨rfl, rfl⟩) (Nat.le_of_ble_eq_true rfl) (Nat.le_of_ble_eq_true rfl) dX6_thrown_4
set_option maxHeartbeats 4000000 in
set_option maxRecDepth 100000 in
theorem kX6_gap (l : Launch) (G : gx_T) (ad : Nat → Nat) (cd : Int32) (pn fn dn cn sn tn : Nat) (ex ey eg : Int64) (at0 fl : Int32) (px py pz gr ou fx fy : Nat → Int64) (od cr ty to_ dr : Nat → Int32) (x : Int64) : gx_M l G yX6_gap cX6_gap 3 (some .int) ({ frames := 0, cells := 0, slots := 0, locals := 0 } : Room) [.ref (ad 0), .long x] ([(ad 0, .inr (11, [.int cd, .int (nI pn), .ref (ad 1), .ref (ad 2), .ref (ad 3), .ref (ad 4), .ref (ad 5), .int (nI fn), .ref (ad 6), .ref (ad 7), .int (nI dn), .ref (ad 8), .long ex, .long ey, .long eg, .int (nI cn), .ref (ad 9), .ref (ad 10), .int (nI sn), .int at0, .int fl, .int (nI tn), .ref (ad 11), .ref (ad 12)])), (ad 1, .inl (G.2.1 2, 16, .inr (.inl px))), (ad 2, .inl (G.2.1 2, 16, .inr (.inl py))), (ad 3, .inl (G.2.1 2, 16, .inr (.inl pz))), (ad 4, .inl (G.2.1 2, 16, .inr (.inl gr))), (ad 5, .inl (G.2.1 2, 16, .inr (.inl ou))), (ad 6, .inl (G.2.1 2, 12, .inr (.inl fx))), (ad 7, .inl (G.2.1 2, 12, .inr (.inl fy))), (ad 8, .inl (G.2.1 1, 8, .inl od)), (ad 9, .inl (G.2.1 1, 12, .inl cr)), (ad 10, .inl (G.2.1 1, 200, .inl ty)), (ad 11, .inl (G.2.1 1, 48, .inl to_)), (ad 12, .inl (G.2.1 1, 48, .inl dr))]) (fun v u => v = some (.int (gp_of x)) ∧ u = [(ad 0, .inr (11, [.int 0, .int (nI pn), .ref (ad 1), .ref (ad 2), .ref (ad 3), .ref (ad 4), .ref (ad 5), .int (nI fn), .ref (ad 6), .ref (ad 7), .int (nI dn), .ref (ad 8), .long ex, .long ey, .long eg, .int (nI cn), .ref (ad 9), .ref (ad 10), .int (nI sn), .int at0, .int fl, .int (nI tn), .ref (ad 11), .ref (ad 12)])), (ad 1, .inl (G.2.1 2, 16, .inr (.inl px))), (ad 2, .inl (G.2.1 2, 16, .inr (.inl py))), (ad 3, .inl (G.2.1 2, 16, .inr (.inl pz))), (ad 4, .inl (G.2.1 2, 16, .inr (.inl gr))), (ad 5, .inl (G.2.1 2, 16, .inr (.inl ou))), (ad 6, .inl (G.2.1 2, 12, .inr (.inl fx))), (ad 7, .inl (G.2.1 2, 12, .inr (.inl fy))), (ad 8, .inl (G.2.1 1, 8, .inl od)), (ad 9, .inl (G.2.1 1, 12, .inl cr)), (ad 10, .inl (G.2.1 1, 200, .inl ty)), (ad 11, .inl (G.2.1 1, 48, .inl to_)), (ad 12, .inl (G.2.1 1, 48, .inl dr))]) := by
  refine gx_start (by decide +kernel) (Nat.le_of_ble_eq_true rfl) ?_
  intro p e s m args below meth c A ls C hr hnm hW hl
  have gX := C.x
  have gB := C.b
  have hl : lv_has ls 3 [(0, .ref (ad 0)), (1, .long x)] := hl
  refine lv_aload_n gX gB dX6_gap_0 rfl (lv_at hl 0 rfl) ?_
  refine lv_iconst (v := 0) gX gB dX6_gap_1 (by decide) ?_
  refine gx_putE C hW clX6 fX6_47 0 rfl (Or.inl rfl) rfl rfl (Nat.le_of_ble_eq_true rfl) dX6_gap_2 (fun H locs hW => ?_)
  have hW : gx_W G A s ([(ad 0, .inr (11, [.int 0, .int (nI pn), .ref (ad 1), .ref (ad 2), .ref (ad 3), .ref (ad 4), .ref (ad 5), .int (nI fn), .ref (ad 6), .ref (ad 7), .int (nI dn), .ref (ad 8), .long ex, .long ey, .long eg, .int (nI cn), .ref (ad 9), .ref (ad 10), .int (nI sn), .int at0, .int fl, .int (nI tn), .ref (ad 11), .ref (ad 12)])), (ad 1, .inl (G.2.1 2, 16, .inr (.inl px))), (ad 2, .inl (G.2.1 2, 16, .inr (.inl py))), (ad 3, .inl (G.2.1 2, 16, .inr (.inl pz))), (ad 4, .inl (G.2.1 2, 16, .inr (.inl gr))), (ad 5, .inl (G.2.1 2, 16, .inr (.inl ou))), (ad 6, .inl (G.2.1 2, 12, .inr (.inl fx))), (ad 7, .inl (G.2.1 2, 12, .inr (.inl fy))), (ad 8, .inl (G.2.1 1, 8, .inl od)), (ad 9, .inl (G.2.1 1, 12, .inl cr)), (ad 10, .inl (G.2.1 1, 200, .inl ty)), (ad 11, .inl (G.2.1 1, 48, .inl to_)), (ad 12, .inl (G.2.1 1, 48, .inl dr))]) H locs := hW
  refine lv_lload_n gX gB dX6_gap_5 rfl (lv_at hl 1 rfl) ?_
  refine gx_ldc2 (v := 5) C (tq_5 238 (by decide +kernel) rfl) dX6_gap_6 ?_
  refine gx_lc_le (tgt := 25) C dX6_gap_9 dX6_gap_10 (by decide) (fun c9 => ?_) (fun c9 => ?_)
  · refine lv_lload_n gX gB dX6_gap_25 rfl (lv_at hl 1 rfl) ?_
    refine gx_ldc2 (v := 89) C (tq_6 0 (by decide +kernel) rfl) dX6_gap_26 ?_
    refine gx_lc_le (tgt := 45) C dX6_gap_29 dX6_gap_30 (by decide) (fun c29 => ?_) (fun c29 => ?_)
    · refine lv_iconst (v := 0) gX gB dX6_gap_45 (by decide) ?_
      exact gx_iret C hr hW (⟨by simp [gx_b, gp_of, Int64.not_lt.mpr c9, Int64.not_lt.mpr c29], rfl⟩) (Nat.le_of_ble_eq_true rfl) (Nat.le_of_ble_eq_true rfl) dX6_gap_46
    · refine lv_lload_n gX gB dX6_gap_33 rfl (lv_at hl 1 rfl) ?_
      refine gx_ldc2 (v := 230) C (tq_6 1 (by decide +kernel) rfl) dX6_gap_34 ?_
      refine gx_lc_ge (tgt := 45) C dX6_gap_37 dX6_gap_38 (by decide) (fun c37 => ?_) (fun c37 => ?_)
      · refine lv_iconst (v := 0) gX gB dX6_gap_45 (by decide) ?_
        exact gx_iret C hr hW (⟨by simp [gx_b, gp_of, Int64.not_lt.mpr c9, Int64.not_le.mp c29, Int64.not_lt.mpr c37], rfl⟩) (Nat.le_of_ble_eq_true rfl) (Nat.le_of_ble_eq_true rfl) dX6_gap_46
      · refine lv_iconst (v := 2) gX gB dX6_gap_41 (by decide) ?_
        refine lv_goto (tgt := 46) gX gB dX6_gap_42 (by decide) ?_
        exact gx_iret C hr hW (⟨by simp [gx_b, gp_of, Int64.not_lt.mpr c9, Int64.not_le.mp c29, Int64.not_le.mp c37], rfl⟩) (Nat.le_of_ble_eq_true rfl) (Nat.le_of_ble_eq_true rfl) dX6_gap_46
  · refine lv_lload_n gX gB dX6_gap_13 rfl (lv_at hl 1 rfl) ?_
    refine gx_ldc2 (v := 25) C (tq_5 239 (by decide +kernel) rfl) dX6_gap_14 ?_
    refine gx_lc_ge (tgt := 25) C dX6_gap_17 dX6_gap_18 (by decide) (fun c17 => ?_) (fun c17 => ?_)
    · refine lv_lload_n gX gB dX6_gap_25 rfl (lv_at hl 1 rfl) ?_
      refine gx_ldc2 (v := 89) C (tq_6 0 (by decide +kernel) rfl) dX6_gap_26 ?_
      refine gx_lc_le (tgt := 45) C dX6_gap_29 dX6_gap_30 (by decide) (fun c29 => ?_) (fun c29 => ?_)
      · refine lv_iconst (v := 0) gX gB dX6_gap_45 (by decide) ?_
        exact gx_iret C hr hW (⟨by simp [gx_b, gp_of, Int64.not_le.mp c9, Int64.not_lt.mpr c17, Int64.not_lt.mpr c29], rfl⟩) (Nat.le_of_ble_eq_true rfl) (Nat.le_of_ble_eq_true rfl) dX6_gap_46
      · refine lv_lload_n gX gB dX6_gap_33 rfl (lv_at hl 1 rfl) ?_
        refine gx_ldc2 (v := 230) C (tq_6 1 (by decide +kernel) rfl) dX6_gap_34 ?_
        refine gx_lc_ge (tgt := 45) C dX6_gap_37 dX6_gap_38 (by decide) (fun c37 => ?_) (fun c37 => ?_)
        · refine lv_iconst (v := 0) gX gB dX6_gap_45 (by decide) ?_
          exact gx_iret C hr hW (⟨by simp [gx_b, gp_of, Int64.not_le.mp c9, Int64.not_lt.mpr c17, Int64.not_le.mp c29, Int64.not_lt.mpr c37], rfl⟩) (Nat.le_of_ble_eq_true rfl) (Nat.le_of_ble_eq_true rfl) dX6_gap_46
        · refine lv_iconst (v := 2) gX gB dX6_gap_41 (by decide) ?_
          refine lv_goto (tgt := 46) gX gB dX6_gap_42 (by decide) ?_
          exact gx_iret C hr hW (⟨by simp [gx_b, gp_of, Int64.not_le.mp c9, Int64.not_lt.mpr c17, Int64.not_le.mp c29, Int64.not_le.mp c37], rfl⟩) (Nat.le_of_ble_eq_true rfl) (Nat.le_of_ble_eq_true rfl) dX6_gap_46
    · refine lv_iconst (v := 1) gX gB dX6_gap_21 (by decide) ?_
      refine lv_goto (tgt := 46) gX gB dX6_gap_22 (by decide) ?_
      exact gx_iret C hr hW (⟨by simp [gx_b, gp_of, Int64.not_le.mp c9, Int64.not_le.mp c17], rfl⟩) (Nat.le_of_ble_eq_true rfl) (Nat.le_of_ble_eq_true rfl) dX6_gap_46
set_option maxHeartbeats 4000000 in
set_option maxRecDepth 100000 in
theorem kX6_part (l : Launch) (G : gx_T) (ad : Nat → Nat) (cd : Int32) (pn fn dn cn sn tn : Nat) (ex ey eg : Int64) (at0 fl : Int32) (px py pz gr ou fx fy : Nat → Int64) (od cr ty to_ dr : Nat → Int32) (hpn : pn ≤ 16) (x y z w : Int64) : gx_M l G yX6_part cX6_part 10 (some .int) ({ frames := 1, cells := 0, slots := 0, locals := 25 } : Room) [.ref (ad 0), .long x, .long y, .long z, .long w] ([(ad 0, .inr (11, [.int cd, .int (nI pn), .ref (ad 1), .ref (ad 2), .ref (ad 3), .ref (ad 4), .ref (ad 5), .int (nI fn), .ref (ad 6), .ref (ad 7), .int (nI dn), .ref (ad 8), .long ex, .long ey, .long eg, .int (nI cn), .ref (ad 9), .ref (ad 10), .int (nI sn), .int at0, .int fl, .int (nI tn), .ref (ad 11), .ref (ad 12)])), (ad 1, .inl (G.2.1 2, 16, .inr (.inl px))), (ad 2, .inl (G.2.1 2, 16, .inr (.inl py))), (ad 3, .inl (G.2.1 2, 16, .inr (.inl pz))), (ad 4, .inl (G.2.1 2, 16, .inr (.inl gr))), (ad 5, .inl (G.2.1 2, 16, .inr (.inl ou))), (ad 6, .inl (G.2.1 2, 12, .inr (.inl fx))), (ad 7, .inl (G.2.1 2, 12, .inr (.inl fy))), (ad 8, .inl (G.2.1 1, 8, .inl od)), (ad 9, .inl (G.2.1 1, 12, .inl cr)), (ad 10, .inl (G.2.1 1, 200, .inl ty)), (ad 11, .inl (G.2.1 1, 48, .inl to_)), (ad 12, .inl (G.2.1 1, 48, .inl dr))]) (fun v u => (pt_code pn x y z w = 0 ∧ v = some (.int (nI pn)) ∧ u = [(ad 0, .inr (11, [.int 0, .int (nI (pn + 1)), .ref (ad 1), .ref (ad 2), .ref (ad 3), .ref (ad 4), .ref (ad 5), .int (nI fn), .ref (ad 6), .ref (ad 7), .int (nI dn), .ref (ad 8), .long ex, .long ey, .long eg, .int (nI cn), .ref (ad 9), .ref (ad 10), .int (nI sn), .int at0, .int fl, .int (nI tn), .ref (ad 11), .ref (ad 12)])), (ad 1, .inl (G.2.1 2, 16, .inr (.inl (vp_updL px pn x)))), (ad 2, .inl (G.2.1 2, 16, .inr (.inl (vp_updL py pn y)))), (ad 3, .inl (G.2.1 2, 16, .inr (.inl (vp_updL pz pn z)))), (ad 4, .inl (G.2.1 2, 16, .inr (.inl (vp_updL gr pn w)))), (ad 5, .inl (G.2.1 2, 16, .inr (.inl ou))), (ad 6, .inl (G.2.1 2, 12, .inr (.inl fx))), (ad 7, .inl (G.2.1 2, 12, .inr (.inl fy))), (ad 8, .inl (G.2.1 1, 8, .inl od)), (ad 9, .inl (G.2.1 1, 12, .inl cr)), (ad 10, .inl (G.2.1 1, 200, .inl ty)), (ad 11, .inl (G.2.1 1, 48, .inl to_)), (ad 12, .inl (G.2.1 1, 48, .inl dr))]) ∨ (¬ pt_code pn x y z w = 0 ∧ v = some (.int 0) ∧ u = [(ad 0, .inr (11, [.int (pt_code pn x y z w), .int (nI pn), .ref (ad 1), .ref (ad 2), .ref (ad 3), .ref (ad 4), .ref (ad 5), .int (nI fn), .ref (ad 6), .ref (ad 7), .int (nI dn), .ref (ad 8), .long ex, .long ey, .long eg, .int (nI cn), .ref (ad 9), .ref (ad 10), .int (nI sn), .int at0, .int fl, .int (nI tn), .ref (ad 11), .ref (ad 12)])), (ad 1, .inl (G.2.1 2, 16, .inr (.inl px))), (ad 2, .inl (G.2.1 2, 16, .inr (.inl py))), (ad 3, .inl (G.2.1 2, 16, .inr (.inl pz))), (ad 4, .inl (G.2.1 2, 16, .inr (.inl gr))), (ad 5, .inl (G.2.1 2, 16, .inr (.inl ou))), (ad 6, .inl (G.2.1 2, 12, .inr (.inl fx))), (ad 7, .inl (G.2.1 2, 12, .inr (.inl fy))), (ad 8, .inl (G.2.1 1, 8, .inl od)), (ad 9, .inl (G.2.1 1, 12, .inl cr)), (ad 10, .inl (G.2.1 1, 200, .inl ty)), (ad 11, .inl (G.2.1 1, 48, .inl to_)), (ad 12, .inl (G.2.1 1, 48, .inl dr))])) := by
  refine gx_start (by decide +kernel) (Nat.le_of_ble_eq_true rfl) ?_
  intro p e s m args below meth c A ls C hr hnm hW hl
  have gX := C.x
  have gB := C.b
  have hl : lv_has ls 10 [(0, .ref (ad 0)), (1, .long x), (3, .long y), (5, .long z), (7, .long w)] := hl
  refine lv_lload_n gX gB dX6_part_0 rfl (lv_at hl 1 rfl) ?_
  refine gx_callS (wr := []) (rest := []) C hW sX6_55 (kX6_isPlace l G ([(ad 0, .inr (11, [.int cd, .int (nI pn), .ref (ad 1), .ref (ad 2), .ref (ad 3), .ref (ad 4), .ref (ad 5), .int (nI fn), .ref (ad 6), .ref (ad 7), .int (nI dn), .ref (ad 8), .long ex, .long ey, .long eg, .int (nI cn), .ref (ad 9), .ref (ad 10), .int (nI sn), .int at0, .int fl, .int (nI tn), .ref (ad 11), .ref (ad 12)])), (ad 1, .inl (G.2.1 2, 16, .inr (.inl px))), (ad 2, .inl (G.2.1 2, 16, .inr (.inl py))), (ad 3, .inl (G.2.1 2, 16, .inr (.inl pz))), (ad 4, .inl (G.2.1 2, 16, .inr (.inl gr))), (ad 5, .inl (G.2.1 2, 16, .inr (.inl ou))), (ad 6, .inl (G.2.1 2, 12, .inr (.inl fx))), (ad 7, .inl (G.2.1 2, 12, .inr (.inl fy))), (ad 8, .inl (G.2.1 1, 8, .inl od)), (ad 9, .inl (G.2.1 1, 12, .inl cr)), (ad 10, .inl (G.2.1 1, 200, .inl ty)), (ad 11, .inl (G.2.1 1, 48, .inl to_)), (ad 12, .inl (G.2.1 1, 48, .inl dr))]) x) rfl ⟨(Nat.le_of_ble_eq_true rfl), (Nat.le_of_ble_eq_true rfl)⟩ hl.1 rfl (Nat.le_of_ble_eq_true rfl) dX6_part_1 ⟨(Nat.le_of_ble_eq_true rfl), (Nat.le_of_ble_eq_true rfl)⟩ (fun v9 u9 H locs hp hW => ?_)
  obtain ⟨rfl, hu⟩ := hp
  rw [hu] at hW
  have hW : gx_W G A s ([(ad 0, .inr (11, [.int cd, .int (nI pn), .ref (ad 1), .ref (ad 2), .ref (ad 3), .ref (ad 4), .ref (ad 5), .int (nI fn), .ref (ad 6), .ref (ad 7), .int (nI dn), .ref (ad 8), .long ex, .long ey, .long eg, .int (nI cn), .ref (ad 9), .ref (ad 10), .int (nI sn), .int at0, .int fl, .int (nI tn), .ref (ad 11), .ref (ad 12)])), (ad 1, .inl (G.2.1 2, 16, .inr (.inl px))), (ad 2, .inl (G.2.1 2, 16, .inr (.inl py))), (ad 3, .inl (G.2.1 2, 16, .inr (.inl pz))), (ad 4, .inl (G.2.1 2, 16, .inr (.inl gr))), (ad 5, .inl (G.2.1 2, 16, .inr (.inl ou))), (ad 6, .inl (G.2.1 2, 12, .inr (.inl fx))), (ad 7, .inl (G.2.1 2, 12, .inr (.inl fy))), (ad 8, .inl (G.2.1 1, 8, .inl od)), (ad 9, .inl (G.2.1 1, 12, .inl cr)), (ad 10, .inl (G.2.1 1, 200, .inl ty)), (ad 11, .inl (G.2.1 1, 48, .inl to_)), (ad 12, .inl (G.2.1 1, 48, .inl dr))]) H locs := hW
  refine W.eq (g2 := F0 m 4 ls [.int (gx_b (pl_ok x))]) rfl ?_
  refine W.widen (k := 0) (n := 0) (Nat.le_of_ble_eq_true rfl) (Nat.le_of_ble_eq_true rfl) ?_
  refine lv_if_eq (tgt := 38) gX gB dX6_part_4 (by decide) (fun c4 => ?_) (fun c4 => ?_)
  · refine lv_iconst (v := 0) gX gB dX6_part_38 (by decide) ?_
    refine lv_istore (lv' := [(9, .int 0), (0, .ref (ad 0)), (1, .long x), (3, .long y), (5, .long z), (7, .long w)]) gX gB dX6_part_39 hl (by decide) rfl (fun ls hl => ?_)
    refine lv_aload_n gX gB dX6_part_41 rfl (lv_at hl 1 rfl) ?_
    refine lv_aload_n gX gB dX6_part_42 rfl (lv_at hl 1 rfl) ?_
    refine gx_get C hW fX6_65 ⟨0, rfl⟩ rfl dX6_part_43 ?_
    refine lv_bipush (v := 16) gX gB dX6_part_46 (by decide) ?_
    rcases (by omega : pn = 16 ∨ pn < 16) with hp16 | hp16
    · have hp1 : pt_code pn x y z w = 1 := pt_1 (by rw [hp16]; decide)
      refine lv_icmp_ne (tgt := 55) gX gB dX6_part_48 (by decide) (fun h9 => absurd (show ¬ (nI pn) = (16 : Int32) from h9) (fun zz => zz (congrArg nI hp16))) (fun _ => ?_)
      refine lv_iconst (v := 1) gX gB dX6_part_51 (by decide) ?_
      refine lv_goto (tgt := 65) gX gB dX6_part_52 (by decide) ?_
      refine gx_putE C hW clX6 fX6_47 0 rfl (Or.inl rfl) rfl rfl (Nat.le_of_ble_eq_true rfl) dX6_part_65 (fun H locs hW => ?_)
      have hW : gx_W G A s ([(ad 0, .inr (11, [.int 1, .int (nI pn), .ref (ad 1), .ref (ad 2), .ref (ad 3), .ref (ad 4), .ref (ad 5), .int (nI fn), .ref (ad 6), .ref (ad 7), .int (nI dn), .ref (ad 8), .long ex, .long ey, .long eg, .int (nI cn), .ref (ad 9), .ref (ad 10), .int (nI sn), .int at0, .int fl, .int (nI tn), .ref (ad 11), .ref (ad 12)])), (ad 1, .inl (G.2.1 2, 16, .inr (.inl px))), (ad 2, .inl (G.2.1 2, 16, .inr (.inl py))), (ad 3, .inl (G.2.1 2, 16, .inr (.inl pz))), (ad 4, .inl (G.2.1 2, 16, .inr (.inl gr))), (ad 5, .inl (G.2.1 2, 16, .inr (.inl ou))), (ad 6, .inl (G.2.1 2, 12, .inr (.inl fx))), (ad 7, .inl (G.2.1 2, 12, .inr (.inl fy))), (ad 8, .inl (G.2.1 1, 8, .inl od)), (ad 9, .inl (G.2.1 1, 12, .inl cr)), (ad 10, .inl (G.2.1 1, 200, .inl ty)), (ad 11, .inl (G.2.1 1, 48, .inl to_)), (ad 12, .inl (G.2.1 1, 48, .inl dr))]) H locs := hW
      refine lv_aload_n gX gB dX6_part_68 rfl (lv_at hl 1 rfl) ?_
      refine gx_get C hW fX6_47 ⟨0, rfl⟩ rfl dX6_part_69 ?_
      refine lv_if_le (tgt := 77) gX gB dX6_part_72 (by decide) (fun h9 => absurd (show 1 ≤ (0 : Int32) from h9) (by decide)) (fun _ => ?_)
      refine lv_iconst (v := 0) gX gB dX6_part_75 (by decide) ?_
      exact gx_iret C hr hW (Or.inr ⟨by rw [hp1]; decide, rfl, by rw [hp1]⟩) (Nat.le_of_ble_eq_true rfl) (Nat.le_of_ble_eq_true rfl) dX6_part_76
    · have hp17 : nI pn < 16 := (nI_ltI (b := 16) (by omega) (by decide)).mpr hp16
      have hp1 : pt_code pn x y z w = 2 := pt_2 hp17 (fun zz => gx_b0.mp c4 zz.1)
      refine lv_icmp_ne (tgt := 55) gX gB dX6_part_48 (by decide) (fun _ => ?_) (fun h9 => absurd h9 (show ¬ (nI pn) = (16 : Int32) from fun zz => absurd ((nI_eq (b := 16) (by omega) (by decide)).mp zz) (by omega)))
      refine lv_iload gX gB dX6_part_55 (lv_at hl 0 rfl) ?_
      refine lv_if_eq (tgt := 64) gX gB dX6_part_57 (by decide) (fun _ => ?_) (fun h9 => absurd (show 0 = (0 : Int32) from by decide) h9)
      refine lv_iconst (v := 2) gX gB dX6_part_64 (by decide) ?_
      refine gx_putE C hW clX6 fX6_47 0 rfl (Or.inl rfl) rfl rfl (Nat.le_of_ble_eq_true rfl) dX6_part_65 (fun H locs hW => ?_)
      have hW : gx_W G A s ([(ad 0, .inr (11, [.int 2, .int (nI pn), .ref (ad 1), .ref (ad 2), .ref (ad 3), .ref (ad 4), .ref (ad 5), .int (nI fn), .ref (ad 6), .ref (ad 7), .int (nI dn), .ref (ad 8), .long ex, .long ey, .long eg, .int (nI cn), .ref (ad 9), .ref (ad 10), .int (nI sn), .int at0, .int fl, .int (nI tn), .ref (ad 11), .ref (ad 12)])), (ad 1, .inl (G.2.1 2, 16, .inr (.inl px))), (ad 2, .inl (G.2.1 2, 16, .inr (.inl py))), (ad 3, .inl (G.2.1 2, 16, .inr (.inl pz))), (ad 4, .inl (G.2.1 2, 16, .inr (.inl gr))), (ad 5, .inl (G.2.1 2, 16, .inr (.inl ou))), (ad 6, .inl (G.2.1 2, 12, .inr (.inl fx))), (ad 7, .inl (G.2.1 2, 12, .inr (.inl fy))), (ad 8, .inl (G.2.1 1, 8, .inl od)), (ad 9, .inl (G.2.1 1, 12, .inl cr)), (ad 10, .inl (G.2.1 1, 200, .inl ty)), (ad 11, .inl (G.2.1 1, 48, .inl to_)), (ad 12, .inl (G.2.1 1, 48, .inl dr))]) H locs := hW
      refine lv_aload_n gX gB dX6_part_68 rfl (lv_at hl 1 rfl) ?_
      refine gx_get C hW fX6_47 ⟨0, rfl⟩ rfl dX6_part_69 ?_
      refine lv_if_le (tgt := 77) gX gB dX6_part_72 (by decide) (fun h9 => absurd (show 2 ≤ (0 : Int32) from h9) (by decide)) (fun _ => ?_)
      refine lv_iconst (v := 0) gX gB dX6_part_75 (by decide) ?_
      exact gx_iret C hr hW (Or.inr ⟨by rw [hp1]; decide, rfl, by rw [hp1]⟩) (Nat.le_of_ble_eq_true rfl) (Nat.le_of_ble_eq_true rfl) dX6_part_76
  · refine lv_lload_n gX gB dX6_part_7 rfl (lv_at hl 2 rfl) ?_
    refine gx_callS (wr := []) (rest := []) C hW sX6_55 (kX6_isPlace l G ([(ad 0, .inr (11, [.int cd, .int (nI pn), .ref (ad 1), .ref (ad 2), .ref (ad 3), .ref (ad 4), .ref (ad 5), .int (nI fn), .ref (ad 6), .ref (ad 7), .int (nI dn), .ref (ad 8), .long ex, .long ey, .long eg, .int (nI cn), .ref (ad 9), .ref (ad 10), .int (nI sn), .int at0, .int fl, .int (nI tn), .ref (ad 11), .ref (ad 12)])), (ad 1, .inl (G.2.1 2, 16, .inr (.inl px))), (ad 2, .inl (G.2.1 2, 16, .inr (.inl py))), (ad 3, .inl (G.2.1 2, 16, .inr (.inl pz))), (ad 4, .inl (G.2.1 2, 16, .inr (.inl gr))), (ad 5, .inl (G.2.1 2, 16, .inr (.inl ou))), (ad 6, .inl (G.2.1 2, 12, .inr (.inl fx))), (ad 7, .inl (G.2.1 2, 12, .inr (.inl fy))), (ad 8, .inl (G.2.1 1, 8, .inl od)), (ad 9, .inl (G.2.1 1, 12, .inl cr)), (ad 10, .inl (G.2.1 1, 200, .inl ty)), (ad 11, .inl (G.2.1 1, 48, .inl to_)), (ad 12, .inl (G.2.1 1, 48, .inl dr))]) y) rfl ⟨(Nat.le_of_ble_eq_true rfl), (Nat.le_of_ble_eq_true rfl)⟩ hl.1 rfl (Nat.le_of_ble_eq_true rfl) dX6_part_8 ⟨(Nat.le_of_ble_eq_true rfl), (Nat.le_of_ble_eq_true rfl)⟩ (fun v9 u9 H locs hp hW => ?_)
    obtain ⟨rfl, hu⟩ := hp
    rw [hu] at hW
    have hW : gx_W G A s ([(ad 0, .inr (11, [.int cd, .int (nI pn), .ref (ad 1), .ref (ad 2), .ref (ad 3), .ref (ad 4), .ref (ad 5), .int (nI fn), .ref (ad 6), .ref (ad 7), .int (nI dn), .ref (ad 8), .long ex, .long ey, .long eg, .int (nI cn), .ref (ad 9), .ref (ad 10), .int (nI sn), .int at0, .int fl, .int (nI tn), .ref (ad 11), .ref (ad 12)])), (ad 1, .inl (G.2.1 2, 16, .inr (.inl px))), (ad 2, .inl (G.2.1 2, 16, .inr (.inl py))), (ad 3, .inl (G.2.1 2, 16, .inr (.inl pz))), (ad 4, .inl (G.2.1 2, 16, .inr (.inl gr))), (ad 5, .inl (G.2.1 2, 16, .inr (.inl ou))), (ad 6, .inl (G.2.1 2, 12, .inr (.inl fx))), (ad 7, .inl (G.2.1 2, 12, .inr (.inl fy))), (ad 8, .inl (G.2.1 1, 8, .inl od)), (ad 9, .inl (G.2.1 1, 12, .inl cr)), (ad 10, .inl (G.2.1 1, 200, .inl ty)), (ad 11, .inl (G.2.1 1, 48, .inl to_)), (ad 12, .inl (G.2.1 1, 48, .inl dr))]) H locs := hW
    refine W.eq (g2 := F0 m 11 ls [.int (gx_b (pl_ok y))]) rfl ?_
    refine W.widen (k := 0) (n := 0) (Nat.le_of_ble_eq_true rfl) (Nat.le_of_ble_eq_true rfl) ?_
    refine lv_if_eq (tgt := 38) gX gB dX6_part_11 (by decide) (fun c11 => ?_) (fun c11 => ?_)
    · refine lv_iconst (v := 0) gX gB dX6_part_38 (by decide) ?_
      refine lv_istore (lv' := [(9, .int 0), (0, .ref (ad 0)), (1, .long x), (3, .long y), (5, .long z), (7, .long w)]) gX gB dX6_part_39 hl (by decide) rfl (fun ls hl => ?_)
      refine lv_aload_n gX gB dX6_part_41 rfl (lv_at hl 1 rfl) ?_
      refine lv_aload_n gX gB dX6_part_42 rfl (lv_at hl 1 rfl) ?_
      refine gx_get C hW fX6_65 ⟨0, rfl⟩ rfl dX6_part_43 ?_
      refine lv_bipush (v := 16) gX gB dX6_part_46 (by decide) ?_
      rcases (by omega : pn = 16 ∨ pn < 16) with hp16 | hp16
      · have hp1 : pt_code pn x y z w = 1 := pt_1 (by rw [hp16]; decide)
        refine lv_icmp_ne (tgt := 55) gX gB dX6_part_48 (by decide) (fun h9 => absurd (show ¬ (nI pn) = (16 : Int32) from h9) (fun zz => zz (congrArg nI hp16))) (fun _ => ?_)
        refine lv_iconst (v := 1) gX gB dX6_part_51 (by decide) ?_
        refine lv_goto (tgt := 65) gX gB dX6_part_52 (by decide) ?_
        refine gx_putE C hW clX6 fX6_47 0 rfl (Or.inl rfl) rfl rfl (Nat.le_of_ble_eq_true rfl) dX6_part_65 (fun H locs hW => ?_)
        have hW : gx_W G A s ([(ad 0, .inr (11, [.int 1, .int (nI pn), .ref (ad 1), .ref (ad 2), .ref (ad 3), .ref (ad 4), .ref (ad 5), .int (nI fn), .ref (ad 6), .ref (ad 7), .int (nI dn), .ref (ad 8), .long ex, .long ey, .long eg, .int (nI cn), .ref (ad 9), .ref (ad 10), .int (nI sn), .int at0, .int fl, .int (nI tn), .ref (ad 11), .ref (ad 12)])), (ad 1, .inl (G.2.1 2, 16, .inr (.inl px))), (ad 2, .inl (G.2.1 2, 16, .inr (.inl py))), (ad 3, .inl (G.2.1 2, 16, .inr (.inl pz))), (ad 4, .inl (G.2.1 2, 16, .inr (.inl gr))), (ad 5, .inl (G.2.1 2, 16, .inr (.inl ou))), (ad 6, .inl (G.2.1 2, 12, .inr (.inl fx))), (ad 7, .inl (G.2.1 2, 12, .inr (.inl fy))), (ad 8, .inl (G.2.1 1, 8, .inl od)), (ad 9, .inl (G.2.1 1, 12, .inl cr)), (ad 10, .inl (G.2.1 1, 200, .inl ty)), (ad 11, .inl (G.2.1 1, 48, .inl to_)), (ad 12, .inl (G.2.1 1, 48, .inl dr))]) H locs := hW
        refine lv_aload_n gX gB dX6_part_68 rfl (lv_at hl 1 rfl) ?_
        refine gx_get C hW fX6_47 ⟨0, rfl⟩ rfl dX6_part_69 ?_
        refine lv_if_le (tgt := 77) gX gB dX6_part_72 (by decide) (fun h9 => absurd (show 1 ≤ (0 : Int32) from h9) (by decide)) (fun _ => ?_)
        refine lv_iconst (v := 0) gX gB dX6_part_75 (by decide) ?_
        exact gx_iret C hr hW (Or.inr ⟨by rw [hp1]; decide, rfl, by rw [hp1]⟩) (Nat.le_of_ble_eq_true rfl) (Nat.le_of_ble_eq_true rfl) dX6_part_76
      · have hp17 : nI pn < 16 := (nI_ltI (b := 16) (by omega) (by decide)).mpr hp16
        have hp1 : pt_code pn x y z w = 2 := pt_2 hp17 (fun zz => gx_b0.mp c11 zz.2.1)
        refine lv_icmp_ne (tgt := 55) gX gB dX6_part_48 (by decide) (fun _ => ?_) (fun h9 => absurd h9 (show ¬ (nI pn) = (16 : Int32) from fun zz => absurd ((nI_eq (b := 16) (by omega) (by decide)).mp zz) (by omega)))
        refine lv_iload gX gB dX6_part_55 (lv_at hl 0 rfl) ?_
        refine lv_if_eq (tgt := 64) gX gB dX6_part_57 (by decide) (fun _ => ?_) (fun h9 => absurd (show 0 = (0 : Int32) from by decide) h9)
        refine lv_iconst (v := 2) gX gB dX6_part_64 (by decide) ?_
        refine gx_putE C hW clX6 fX6_47 0 rfl (Or.inl rfl) rfl rfl (Nat.le_of_ble_eq_true rfl) dX6_part_65 (fun H locs hW => ?_)
        have hW : gx_W G A s ([(ad 0, .inr (11, [.int 2, .int (nI pn), .ref (ad 1), .ref (ad 2), .ref (ad 3), .ref (ad 4), .ref (ad 5), .int (nI fn), .ref (ad 6), .ref (ad 7), .int (nI dn), .ref (ad 8), .long ex, .long ey, .long eg, .int (nI cn), .ref (ad 9), .ref (ad 10), .int (nI sn), .int at0, .int fl, .int (nI tn), .ref (ad 11), .ref (ad 12)])), (ad 1, .inl (G.2.1 2, 16, .inr (.inl px))), (ad 2, .inl (G.2.1 2, 16, .inr (.inl py))), (ad 3, .inl (G.2.1 2, 16, .inr (.inl pz))), (ad 4, .inl (G.2.1 2, 16, .inr (.inl gr))), (ad 5, .inl (G.2.1 2, 16, .inr (.inl ou))), (ad 6, .inl (G.2.1 2, 12, .inr (.inl fx))), (ad 7, .inl (G.2.1 2, 12, .inr (.inl fy))), (ad 8, .inl (G.2.1 1, 8, .inl od)), (ad 9, .inl (G.2.1 1, 12, .inl cr)), (ad 10, .inl (G.2.1 1, 200, .inl ty)), (ad 11, .inl (G.2.1 1, 48, .inl to_)), (ad 12, .inl (G.2.1 1, 48, .inl dr))]) H locs := hW
        refine lv_aload_n gX gB dX6_part_68 rfl (lv_at hl 1 rfl) ?_
        refine gx_get C hW fX6_47 ⟨0, rfl⟩ rfl dX6_part_69 ?_
        refine lv_if_le (tgt := 77) gX gB dX6_part_72 (by decide) (fun h9 => absurd (show 2 ≤ (0 : Int32) from h9) (by decide)) (fun _ => ?_)
        refine lv_iconst (v := 0) gX gB dX6_part_75 (by decide) ?_
        exact gx_iret C hr hW (Or.inr ⟨by rw [hp1]; decide, rfl, by rw [hp1]⟩) (Nat.le_of_ble_eq_true rfl) (Nat.le_of_ble_eq_true rfl) dX6_part_76
    · refine lv_lload gX gB dX6_part_14 (lv_at hl 3 rfl) ?_
      refine gx_callS (wr := []) (rest := []) C hW sX6_55 (kX6_isPlace l G ([(ad 0, .inr (11, [.int cd, .int (nI pn), .ref (ad 1), .ref (ad 2), .ref (ad 3), .ref (ad 4), .ref (ad 5), .int (nI fn), .ref (ad 6), .ref (ad 7), .int (nI dn), .ref (ad 8), .long ex, .long ey, .long eg, .int (nI cn), .ref (ad 9), .ref (ad 10), .int (nI sn), .int at0, .int fl, .int (nI tn), .ref (ad 11), .ref (ad 12)])), (ad 1, .inl (G.2.1 2, 16, .inr (.inl px))), (ad 2, .inl (G.2.1 2, 16, .inr (.inl py))), (ad 3, .inl (G.2.1 2, 16, .inr (.inl pz))), (ad 4, .inl (G.2.1 2, 16, .inr (.inl gr))), (ad 5, .inl (G.2.1 2, 16, .inr (.inl ou))), (ad 6, .inl (G.2.1 2, 12, .inr (.inl fx))), (ad 7, .inl (G.2.1 2, 12, .inr (.inl fy))), (ad 8, .inl (G.2.1 1, 8, .inl od)), (ad 9, .inl (G.2.1 1, 12, .inl cr)), (ad 10, .inl (G.2.1 1, 200, .inl ty)), (ad 11, .inl (G.2.1 1, 48, .inl to_)), (ad 12, .inl (G.2.1 1, 48, .inl dr))]) z) rfl ⟨(Nat.le_of_ble_eq_true rfl), (Nat.le_of_ble_eq_true rfl)⟩ hl.1 rfl (Nat.le_of_ble_eq_true rfl) dX6_part_16 ⟨(Nat.le_of_ble_eq_true rfl), (Nat.le_of_ble_eq_true rfl)⟩ (fun v9 u9 H locs hp hW => ?_)
      obtain ⟨rfl, hu⟩ := hp
      rw [hu] at hW
      have hW : gx_W G A s ([(ad 0, .inr (11, [.int cd, .int (nI pn), .ref (ad 1), .ref (ad 2), .ref (ad 3), .ref (ad 4), .ref (ad 5), .int (nI fn), .ref (ad 6), .ref (ad 7), .int (nI dn), .ref (ad 8), .long ex, .long ey, .long eg, .int (nI cn), .ref (ad 9), .ref (ad 10), .int (nI sn), .int at0, .int fl, .int (nI tn), .ref (ad 11), .ref (ad 12)])), (ad 1, .inl (G.2.1 2, 16, .inr (.inl px))), (ad 2, .inl (G.2.1 2, 16, .inr (.inl py))), (ad 3, .inl (G.2.1 2, 16, .inr (.inl pz))), (ad 4, .inl (G.2.1 2, 16, .inr (.inl gr))), (ad 5, .inl (G.2.1 2, 16, .inr (.inl ou))), (ad 6, .inl (G.2.1 2, 12, .inr (.inl fx))), (ad 7, .inl (G.2.1 2, 12, .inr (.inl fy))), (ad 8, .inl (G.2.1 1, 8, .inl od)), (ad 9, .inl (G.2.1 1, 12, .inl cr)), (ad 10, .inl (G.2.1 1, 200, .inl ty)), (ad 11, .inl (G.2.1 1, 48, .inl to_)), (ad 12, .inl (G.2.1 1, 48, .inl dr))]) H locs := hW
      refine W.eq (g2 := F0 m 19 ls [.int (gx_b (pl_ok z))]) rfl ?_
      refine W.widen (k := 0) (n := 0) (Nat.le_of_ble_eq_true rfl) (Nat.le_of_ble_eq_true rfl) ?_
      refine lv_if_eq (tgt := 38) gX gB dX6_part_19 (by decide) (fun c19 => ?_) (fun c19 => ?_)
      · refine lv_iconst (v := 0) gX gB dX6_part_38 (by decide) ?_
        refine lv_istore (lv' := [(9, .int 0), (0, .ref (ad 0)), (1, .long x), (3, .long y), (5, .long z), (7, .long w)]) gX gB dX6_part_39 hl (by decide) rfl (fun ls hl => ?_)
        refine lv_aload_n gX gB dX6_part_41 rfl (lv_at hl 1 rfl) ?_
        refine lv_aload_n gX gB dX6_part_42 rfl (lv_at hl 1 rfl) ?_
        refine gx_get C hW fX6_65 ⟨0, rfl⟩ rfl dX6_part_43 ?_
        refine lv_bipush (v := 16) gX gB dX6_part_46 (by decide) ?_
        rcases (by omega : pn = 16 ∨ pn < 16) with hp16 | hp16
        · have hp1 : pt_code pn x y z w = 1 := pt_1 (by rw [hp16]; decide)
          refine lv_icmp_ne (tgt := 55) gX gB dX6_part_48 (by decide) (fun h9 => absurd (show ¬ (nI pn) = (16 : Int32) from h9) (fun zz => zz (congrArg nI hp16))) (fun _ => ?_)
          refine lv_iconst (v := 1) gX gB dX6_part_51 (by decide) ?_
          refine lv_goto (tgt := 65) gX gB dX6_part_52 (by decide) ?_
          refine gx_putE C hW clX6 fX6_47 0 rfl (Or.inl rfl) rfl rfl (Nat.le_of_ble_eq_true rfl) dX6_part_65 (fun H locs hW => ?_)
          have hW : gx_W G A s ([(ad 0, .inr (11, [.int 1, .int (nI pn), .ref (ad 1), .ref (ad 2), .ref (ad 3), .ref (ad 4), .ref (ad 5), .int (nI fn), .ref (ad 6), .ref (ad 7), .int (nI dn), .ref (ad 8), .long ex, .long ey, .long eg, .int (nI cn), .ref (ad 9), .ref (ad 10), .int (nI sn), .int at0, .int fl, .int (nI tn), .ref (ad 11), .ref (ad 12)])), (ad 1, .inl (G.2.1 2, 16, .inr (.inl px))), (ad 2, .inl (G.2.1 2, 16, .inr (.inl py))), (ad 3, .inl (G.2.1 2, 16, .inr (.inl pz))), (ad 4, .inl (G.2.1 2, 16, .inr (.inl gr))), (ad 5, .inl (G.2.1 2, 16, .inr (.inl ou))), (ad 6, .inl (G.2.1 2, 12, .inr (.inl fx))), (ad 7, .inl (G.2.1 2, 12, .inr (.inl fy))), (ad 8, .inl (G.2.1 1, 8, .inl od)), (ad 9, .inl (G.2.1 1, 12, .inl cr)), (ad 10, .inl (G.2.1 1, 200, .inl ty)), (ad 11, .inl (G.2.1 1, 48, .inl to_)), (ad 12, .inl (G.2.1 1, 48, .inl dr))]) H locs := hW
          refine lv_aload_n gX gB dX6_part_68 rfl (lv_at hl 1 rfl) ?_
          refine gx_get C hW fX6_47 ⟨0, rfl⟩ rfl dX6_part_69 ?_
          refine lv_if_le (tgt := 77) gX gB dX6_part_72 (by decide) (fun h9 => absurd (show 1 ≤ (0 : Int32) from h9) (by decide)) (fun _ => ?_)
          refine lv_iconst (v := 0) gX gB dX6_part_75 (by decide) ?_
          exact gx_iret C hr hW (Or.inr ⟨by rw [hp1]; decide, rfl, by rw [hp1]⟩) (Nat.le_of_ble_eq_true rfl) (Nat.le_of_ble_eq_true rfl) dX6_part_76
        · have hp17 : nI pn < 16 := (nI_ltI (b := 16) (by omega) (by decide)).mpr hp16
          have hp1 : pt_code pn x y z w = 2 := pt_2 hp17 (fun zz => gx_b0.mp c19 zz.2.2.1)
          refine lv_icmp_ne (tgt := 55) gX gB dX6_part_48 (by decide) (fun _ => ?_) (fun h9 => absurd h9 (show ¬ (nI pn) = (16 : Int32) from fun zz => absurd ((nI_eq (b := 16) (by omega) (by decide)).mp zz) (by omega)))
          refine lv_iload gX gB dX6_part_55 (lv_at hl 0 rfl) ?_
          refine lv_if_eq (tgt := 64) gX gB dX6_part_57 (by decide) (fun _ => ?_) (fun h9 => absurd (show 0 = (0 : Int32) from by decide) h9)
          refine lv_iconst (v := 2) gX gB dX6_part_64 (by decide) ?_
          refine gx_putE C hW clX6 fX6_47 0 rfl (Or.inl rfl) rfl rfl (Nat.le_of_ble_eq_true rfl) dX6_part_65 (fun H locs hW => ?_)
          have hW : gx_W G A s ([(ad 0, .inr (11, [.int 2, .int (nI pn), .ref (ad 1), .ref (ad 2), .ref (ad 3), .ref (ad 4), .ref (ad 5), .int (nI fn), .ref (ad 6), .ref (ad 7), .int (nI dn), .ref (ad 8), .long ex, .long ey, .long eg, .int (nI cn), .ref (ad 9), .ref (ad 10), .int (nI sn), .int at0, .int fl, .int (nI tn), .ref (ad 11), .ref (ad 12)])), (ad 1, .inl (G.2.1 2, 16, .inr (.inl px))), (ad 2, .inl (G.2.1 2, 16, .inr (.inl py))), (ad 3, .inl (G.2.1 2, 16, .inr (.inl pz))), (ad 4, .inl (G.2.1 2, 16, .inr (.inl gr))), (ad 5, .inl (G.2.1 2, 16, .inr (.inl ou))), (ad 6, .inl (G.2.1 2, 12, .inr (.inl fx))), (ad 7, .inl (G.2.1 2, 12, .inr (.inl fy))), (ad 8, .inl (G.2.1 1, 8, .inl od)), (ad 9, .inl (G.2.1 1, 12, .inl cr)), (ad 10, .inl (G.2.1 1, 200, .inl ty)), (ad 11, .inl (G.2.1 1, 48, .inl to_)), (ad 12, .inl (G.2.1 1, 48, .inl dr))]) H locs := hW
          refine lv_aload_n gX gB dX6_part_68 rfl (lv_at hl 1 rfl) ?_
          refine gx_get C hW fX6_47 ⟨0, rfl⟩ rfl dX6_part_69 ?_
          refine lv_if_le (tgt := 77) gX gB dX6_part_72 (by decide) (fun h9 => absurd (show 2 ≤ (0 : Int32) from h9) (by decide)) (fun _ => ?_)
          refine lv_iconst (v := 0) gX gB dX6_part_75 (by decide) ?_
          exact gx_iret C hr hW (Or.inr ⟨by rw [hp1]; decide, rfl, by rw [hp1]⟩) (Nat.le_of_ble_eq_true rfl) (Nat.le_of_ble_eq_true rfl) dX6_part_76
      · refine lv_lload gX gB dX6_part_22 (lv_at hl 4 rfl) ?_
        refine lv_lconst (v := 0) gX gB dX6_part_24 (by decide) ?_
        refine gx_ldc2 (v := 1000000) C (tq_5 97 (by decide +kernel) rfl) dX6_part_25 ?_
        refine gx_callS (wr := []) (rest := []) C hW sX6_61 (kX6_isIn l G ([(ad 0, .inr (11, [.int cd, .int (nI pn), .ref (ad 1), .ref (ad 2), .ref (ad 3), .ref (ad 4), .ref (ad 5), .int (nI fn), .ref (ad 6), .ref (ad 7), .int (nI dn), .ref (ad 8), .long ex, .long ey, .long eg, .int (nI cn), .ref (ad 9), .ref (ad 10), .int (nI sn), .int at0, .int fl, .int (nI tn), .ref (ad 11), .ref (ad 12)])), (ad 1, .inl (G.2.1 2, 16, .inr (.inl px))), (ad 2, .inl (G.2.1 2, 16, .inr (.inl py))), (ad 3, .inl (G.2.1 2, 16, .inr (.inl pz))), (ad 4, .inl (G.2.1 2, 16, .inr (.inl gr))), (ad 5, .inl (G.2.1 2, 16, .inr (.inl ou))), (ad 6, .inl (G.2.1 2, 12, .inr (.inl fx))), (ad 7, .inl (G.2.1 2, 12, .inr (.inl fy))), (ad 8, .inl (G.2.1 1, 8, .inl od)), (ad 9, .inl (G.2.1 1, 12, .inl cr)), (ad 10, .inl (G.2.1 1, 200, .inl ty)), (ad 11, .inl (G.2.1 1, 48, .inl to_)), (ad 12, .inl (G.2.1 1, 48, .inl dr))]) w 0 1000000) rfl ⟨(Nat.le_of_ble_eq_true rfl), (Nat.le_of_ble_eq_true rfl)⟩ hl.1 rfl (Nat.le_of_ble_eq_true rfl) dX6_part_28 ⟨(Nat.le_of_ble_eq_true rfl), (Nat.le_of_ble_eq_true rfl)⟩ (fun v9 u9 H locs hp hW => ?_)
        obtain ⟨rfl, hu⟩ := hp
        rw [hu] at hW
        have hW : gx_W G A s ([(ad 0, .inr (11, [.int cd, .int (nI pn), .ref (ad 1), .ref (ad 2), .ref (ad 3), .ref (ad 4), .ref (ad 5), .int (nI fn), .ref (ad 6), .ref (ad 7), .int (nI dn), .ref (ad 8), .long ex, .long ey, .long eg, .int (nI cn), .ref (ad 9), .ref (ad 10), .int (nI sn), .int at0, .int fl, .int (nI tn), .ref (ad 11), .ref (ad 12)])), (ad 1, .inl (G.2.1 2, 16, .inr (.inl px))), (ad 2, .inl (G.2.1 2, 16, .inr (.inl py))), (ad 3, .inl (G.2.1 2, 16, .inr (.inl pz))), (ad 4, .inl (G.2.1 2, 16, .inr (.inl gr))), (ad 5, .inl (G.2.1 2, 16, .inr (.inl ou))), (ad 6, .inl (G.2.1 2, 12, .inr (.inl fx))), (ad 7, .inl (G.2.1 2, 12, .inr (.inl fy))), (ad 8, .inl (G.2.1 1, 8, .inl od)), (ad 9, .inl (G.2.1 1, 12, .inl cr)), (ad 10, .inl (G.2.1 1, 200, .inl ty)), (ad 11, .inl (G.2.1 1, 48, .inl to_)), (ad 12, .inl (G.2.1 1, 48, .inl dr))]) H locs := hW
        refine W.eq (g2 := F0 m 31 ls [.int (gx_b (gm_ok w))]) rfl ?_
        refine W.widen (k := 0) (n := 0) (Nat.le_of_ble_eq_true rfl) (Nat.le_of_ble_eq_true rfl) ?_
        refine lv_if_eq (tgt := 38) gX gB dX6_part_31 (by decide) (fun c31 => ?_) (fun c31 => ?_)
        · refine lv_iconst (v := 0) gX gB dX6_part_38 (by decide) ?_
          refine lv_istore (lv' := [(9, .int 0), (0, .ref (ad 0)), (1, .long x), (3, .long y), (5, .long z), (7, .long w)]) gX gB dX6_part_39 hl (by decide) rfl (fun ls hl => ?_)
          refine lv_aload_n gX gB dX6_part_41 rfl (lv_at hl 1 rfl) ?_
          refine lv_aload_n gX gB dX6_part_42 rfl (lv_at hl 1 rfl) ?_
          refine gx_get C hW fX6_65 ⟨0, rfl⟩ rfl dX6_part_43 ?_
          refine lv_bipush (v := 16) gX gB dX6_part_46 (by decide) ?_
          rcases (by omega : pn = 16 ∨ pn < 16) with hp16 | hp16
          · have hp1 : pt_code pn x y z w = 1 := pt_1 (by rw [hp16]; decide)
            refine lv_icmp_ne (tgt := 55) gX gB dX6_part_48 (by decide) (fun h9 => absurd (show ¬ (nI pn) = (16 : Int32) from h9) (fun zz => zz (congrArg nI hp16))) (fun _ => ?_)
            refine lv_iconst (v := 1) gX gB dX6_part_51 (by decide) ?_
            refine lv_goto (tgt := 65) gX gB dX6_part_52 (by decide) ?_
            refine gx_putE C hW clX6 fX6_47 0 rfl (Or.inl rfl) rfl rfl (Nat.le_of_ble_eq_true rfl) dX6_part_65 (fun H locs hW => ?_)
            have hW : gx_W G A s ([(ad 0, .inr (11, [.int 1, .int (nI pn), .ref (ad 1), .ref (ad 2), .ref (ad 3), .ref (ad 4), .ref (ad 5), .int (nI fn), .ref (ad 6), .ref (ad 7), .int (nI dn), .ref (ad 8), .long ex, .long ey, .long eg, .int (nI cn), .ref (ad 9), .ref (ad 10), .int (nI sn), .int at0, .int fl, .int (nI tn), .ref (ad 11), .ref (ad 12)])), (ad 1, .inl (G.2.1 2, 16, .inr (.inl px))), (ad 2, .inl (G.2.1 2, 16, .inr (.inl py))), (ad 3, .inl (G.2.1 2, 16, .inr (.inl pz))), (ad 4, .inl (G.2.1 2, 16, .inr (.inl gr))), (ad 5, .inl (G.2.1 2, 16, .inr (.inl ou))), (ad 6, .inl (G.2.1 2, 12, .inr (.inl fx))), (ad 7, .inl (G.2.1 2, 12, .inr (.inl fy))), (ad 8, .inl (G.2.1 1, 8, .inl od)), (ad 9, .inl (G.2.1 1, 12, .inl cr)), (ad 10, .inl (G.2.1 1, 200, .inl ty)), (ad 11, .inl (G.2.1 1, 48, .inl to_)), (ad 12, .inl (G.2.1 1, 48, .inl dr))]) H locs := hW
            refine lv_aload_n gX gB dX6_part_68 rfl (lv_at hl 1 rfl) ?_
            refine gx_get C hW fX6_47 ⟨0, rfl⟩ rfl dX6_part_69 ?_
            refine lv_if_le (tgt := 77) gX gB dX6_part_72 (by decide) (fun h9 => absurd (show 1 ≤ (0 : Int32) from h9) (by decide)) (fun _ => ?_)
            refine lv_iconst (v := 0) gX gB dX6_part_75 (by decide) ?_
            exact gx_iret C hr hW (Or.inr ⟨by rw [hp1]; decide, rfl, by rw [hp1]⟩) (Nat.le_of_ble_eq_true rfl) (Nat.le_of_ble_eq_true rfl) dX6_part_76
          · have hp17 : nI pn < 16 := (nI_ltI (b := 16) (by omega) (by decide)).mpr hp16
            have hp1 : pt_code pn x y z w = 2 := pt_2 hp17 (fun zz => gx_b0.mp c31 zz.2.2.2)
            refine lv_icmp_ne (tgt := 55) gX gB dX6_part_48 (by decide) (fun _ => ?_) (fun h9 => absurd h9 (show ¬ (nI pn) = (16 : Int32) from fun zz => absurd ((nI_eq (b := 16) (by omega) (by decide)).mp zz) (by omega)))
            refine lv_iload gX gB dX6_part_55 (lv_at hl 0 rfl) ?_
            refine lv_if_eq (tgt := 64) gX gB dX6_part_57 (by decide) (fun _ => ?_) (fun h9 => absurd (show 0 = (0 : Int32) from by decide) h9)
            refine lv_iconst (v := 2) gX gB dX6_part_64 (by decide) ?_
            refine gx_putE C hW clX6 fX6_47 0 rfl (Or.inl rfl) rfl rfl (Nat.le_of_ble_eq_true rfl) dX6_part_65 (fun H locs hW => ?_)
            have hW : gx_W G A s ([(ad 0, .inr (11, [.int 2, .int (nI pn), .ref (ad 1), .ref (ad 2), .ref (ad 3), .ref (ad 4), .ref (ad 5), .int (nI fn), .ref (ad 6), .ref (ad 7), .int (nI dn), .ref (ad 8), .long ex, .long ey, .long eg, .int (nI cn), .ref (ad 9), .ref (ad 10), .int (nI sn), .int at0, .int fl, .int (nI tn), .ref (ad 11), .ref (ad 12)])), (ad 1, .inl (G.2.1 2, 16, .inr (.inl px))), (ad 2, .inl (G.2.1 2, 16, .inr (.inl py))), (ad 3, .inl (G.2.1 2, 16, .inr (.inl pz))), (ad 4, .inl (G.2.1 2, 16, .inr (.inl gr))), (ad 5, .inl (G.2.1 2, 16, .inr (.inl ou))), (ad 6, .inl (G.2.1 2, 12, .inr (.inl fx))), (ad 7, .inl (G.2.1 2, 12, .inr (.inl fy))), (ad 8, .inl (G.2.1 1, 8, .inl od)), (ad 9, .inl (G.2.1 1, 12, .inl cr)), (ad 10, .inl (G.2.1 1, 200, .inl ty)), (ad 11, .inl (G.2.1 1, 48, .inl to_)), (ad 12, .inl (G.2.1 1, 48, .inl dr))]) H locs := hW
            refine lv_aload_n gX gB dX6_part_68 rfl (lv_at hl 1 rfl) ?_
            refine gx_get C hW fX6_47 ⟨0, rfl⟩ rfl dX6_part_69 ?_
            refine lv_if_le (tgt := 77) gX gB dX6_part_72 (by decide) (fun h9 => absurd (show 2 ≤ (0 : Int32) from h9) (by decide)) (fun _ => ?_)
            refine lv_iconst (v := 0) gX gB dX6_part_75 (by decide) ?_
            exact gx_iret C hr hW (Or.inr ⟨by rw [hp1]; decide, rfl, by rw [hp1]⟩) (Nat.le_of_ble_eq_true rfl) (Nat.le_of_ble_eq_true rfl) dX6_part_76
        · refine lv_iconst (v := 1) gX gB dX6_part_34 (by decide) ?_
          refine lv_goto (tgt := 39) gX gB dX6_part_35 (by decide) ?_
          refine lv_istore (lv' := [(9, .int 1), (0, .ref (ad 0)), (1, .long x), (3, .long y), (5, .long z), (7, .long w)]) gX gB dX6_part_39 hl (by decide) rfl (fun ls hl => ?_)
          refine lv_aload_n gX gB dX6_part_41 rfl (lv_at hl 1 rfl) ?_
          refine lv_aload_n gX gB dX6_part_42 rfl (lv_at hl 1 rfl) ?_
          refine gx_get C hW fX6_65 ⟨0, rfl⟩ rfl dX6_part_43 ?_
          refine lv_bipush (v := 16) gX gB dX6_part_46 (by decide) ?_
          rcases (by omega : pn = 16 ∨ pn < 16) with hp16 | hp16
          · have hp1 : pt_code pn x y z w = 1 := pt_1 (by rw [hp16]; decide)
            refine lv_icmp_ne (tgt := 55) gX gB dX6_part_48 (by decide) (fun h9 => absurd (show ¬ (nI pn) = (16 : Int32) from h9) (fun zz => zz (congrArg nI hp16))) (fun _ => ?_)
            refine lv_iconst (v := 1) gX gB dX6_part_51 (by decide) ?_
            refine lv_goto (tgt := 65) gX gB dX6_part_52 (by decide) ?_
            refine gx_putE C hW clX6 fX6_47 0 rfl (Or.inl rfl) rfl rfl (Nat.le_of_ble_eq_true rfl) dX6_part_65 (fun H locs hW => ?_)
            have hW : gx_W G A s ([(ad 0, .inr (11, [.int 1, .int (nI pn), .ref (ad 1), .ref (ad 2), .ref (ad 3), .ref (ad 4), .ref (ad 5), .int (nI fn), .ref (ad 6), .ref (ad 7), .int (nI dn), .ref (ad 8), .long ex, .long ey, .long eg, .int (nI cn), .ref (ad 9), .ref (ad 10), .int (nI sn), .int at0, .int fl, .int (nI tn), .ref (ad 11), .ref (ad 12)])), (ad 1, .inl (G.2.1 2, 16, .inr (.inl px))), (ad 2, .inl (G.2.1 2, 16, .inr (.inl py))), (ad 3, .inl (G.2.1 2, 16, .inr (.inl pz))), (ad 4, .inl (G.2.1 2, 16, .inr (.inl gr))), (ad 5, .inl (G.2.1 2, 16, .inr (.inl ou))), (ad 6, .inl (G.2.1 2, 12, .inr (.inl fx))), (ad 7, .inl (G.2.1 2, 12, .inr (.inl fy))), (ad 8, .inl (G.2.1 1, 8, .inl od)), (ad 9, .inl (G.2.1 1, 12, .inl cr)), (ad 10, .inl (G.2.1 1, 200, .inl ty)), (ad 11, .inl (G.2.1 1, 48, .inl to_)), (ad 12, .inl (G.2.1 1, 48, .inl dr))]) H locs := hW
            refine lv_aload_n gX gB dX6_part_68 rfl (lv_at hl 1 rfl) ?_
            refine gx_get C hW fX6_47 ⟨0, rfl⟩ rfl dX6_part_69 ?_
            refine lv_if_le (tgt := 77) gX gB dX6_part_72 (by decide) (fun h9 => absurd (show 1 ≤ (0 : Int32) from h9) (by decide)) (fun _ => ?_)
            refine lv_iconst (v := 0) gX gB dX6_part_75 (by decide) ?_
            exact gx_iret C hr hW (Or.inr ⟨by rw [hp1]; decide, rfl, by rw [hp1]⟩) (Nat.le_of_ble_eq_true rfl) (Nat.le_of_ble_eq_true rfl) dX6_part_76
          · have hp17 : nI pn < 16 := (nI_ltI (b := 16) (by omega) (by decide)).mpr hp16
            have hp1 : pt_code pn x y z w = 0 := pt_0 hp17 ⟨gx_b1.mp c4, gx_b1.mp c11, gx_b1.mp c19, gx_b1.mp c31⟩
            refine lv_icmp_ne (tgt := 55) gX gB dX6_part_48 (by decide) (fun _ => ?_) (fun h9 => absurd h9 (show ¬ (nI pn) = (16 : Int32) from fun zz => absurd ((nI_eq (b := 16) (by omega) (by decide)).mp zz) (by omega)))
            refine lv_iload gX gB dX6_part_55 (lv_at hl 0 rfl) ?_
            refine lv_if_eq (tgt := 64) gX gB dX6_part_57 (by decide) (fun h9 => absurd (show 1 = (0 : Int32) from h9) (by decide)) (fun _ => ?_)
            refine lv_iconst (v := 0) gX gB dX6_part_60 (by decide) ?_
            refine lv_goto (tgt := 65) gX gB dX6_part_61 (by decide) ?_
            refine gx_putE C hW clX6 fX6_47 0 rfl (Or.inl rfl) rfl rfl (Nat.le_of_ble_eq_true rfl) dX6_part_65 (fun H locs hW => ?_)
            have hW : gx_W G A s ([(ad 0, .inr (11, [.int 0, .int (nI pn), .ref (ad 1), .ref (ad 2), .ref (ad 3), .ref (ad 4), .ref (ad 5), .int (nI fn), .ref (ad 6), .ref (ad 7), .int (nI dn), .ref (ad 8), .long ex, .long ey, .long eg, .int (nI cn), .ref (ad 9), .ref (ad 10), .int (nI sn), .int at0, .int fl, .int (nI tn), .ref (ad 11), .ref (ad 12)])), (ad 1, .inl (G.2.1 2, 16, .inr (.inl px))), (ad 2, .inl (G.2.1 2, 16, .inr (.inl py))), (ad 3, .inl (G.2.1 2, 16, .inr (.inl pz))), (ad 4, .inl (G.2.1 2, 16, .inr (.inl gr))), (ad 5, .inl (G.2.1 2, 16, .inr (.inl ou))), (ad 6, .inl (G.2.1 2, 12, .inr (.inl fx))), (ad 7, .inl (G.2.1 2, 12, .inr (.inl fy))), (ad 8, .inl (G.2.1 1, 8, .inl od)), (ad 9, .inl (G.2.1 1, 12, .inl cr)), (ad 10, .inl (G.2.1 1, 200, .inl ty)), (ad 11, .inl (G.2.1 1, 48, .inl to_)), (ad 12, .inl (G.2.1 1, 48, .inl dr))]) H locs := hW
            refine lv_aload_n gX gB dX6_part_68 rfl (lv_at hl 1 rfl) ?_
            refine gx_get C hW fX6_47 ⟨0, rfl⟩ rfl dX6_part_69 ?_
            refine lv_if_le (tgt := 77) gX gB dX6_part_72 (by decide) (fun _ => ?_) (fun h9 => absurd (show 0 ≤ (0 : Int32) from by decide) h9)
            refine lv_aload_n gX gB dX6_part_77 rfl (lv_at hl 1 rfl) ?_
            refine gx_get C hW fX6_7 ⟨0, rfl⟩ rfl dX6_part_78 ?_
            refine lv_aload_n gX gB dX6_part_81 rfl (lv_at hl 1 rfl) ?_
            refine gx_get C hW fX6_65 ⟨0, rfl⟩ rfl dX6_part_82 ?_
            refine lv_lload_n gX gB dX6_part_85 rfl (lv_at hl 2 rfl) ?_
            refine gx_lastE C hW 1 (j := pn) rfl rfl (by omega) (by decide) dX6_part_86 (fun H locs hW => ?_)
            have hW : gx_W G A s ([(ad 0, .inr (11, [.int 0, .int (nI pn), .ref (ad 1), .ref (ad 2), .ref (ad 3), .ref (ad 4), .ref (ad 5), .int (nI fn), .ref (ad 6), .ref (ad 7), .int (nI dn), .ref (ad 8), .long ex, .long ey, .long eg, .int (nI cn), .ref (ad 9), .ref (ad 10), .int (nI sn), .int at0, .int fl, .int (nI tn), .ref (ad 11), .ref (ad 12)])), (ad 1, .inl (G.2.1 2, 16, .inr (.inl (vp_updL px pn x)))), (ad 2, .inl (G.2.1 2, 16, .inr (.inl py))), (ad 3, .inl (G.2.1 2, 16, .inr (.inl pz))), (ad 4, .inl (G.2.1 2, 16, .inr (.inl gr))), (ad 5, .inl (G.2.1 2, 16, .inr (.inl ou))), (ad 6, .inl (G.2.1 2, 12, .inr (.inl fx))), (ad 7, .inl (G.2.1 2, 12, .inr (.inl fy))), (ad 8, .inl (G.2.1 1, 8, .inl od)), (ad 9, .inl (G.2.1 1, 12, .inl cr)), (ad 10, .inl (G.2.1 1, 200, .inl ty)), (ad 11, .inl (G.2.1 1, 48, .inl to_)), (ad 12, .inl (G.2.1 1, 48, .inl dr))]) H locs := hW
            refine lv_aload_n gX gB dX6_part_87 rfl (lv_at hl 1 rfl) ?_
            refine gx_get C hW fX6_13 ⟨0, rfl⟩ rfl dX6_part_88 ?_
            refine lv_aload_n gX gB dX6_part_91 rfl (lv_at hl 1 rfl) ?_
            refine gx_get C hW fX6_65 ⟨0, rfl⟩ rfl dX6_part_92 ?_
            refine lv_lload_n gX gB dX6_part_95 rfl (lv_at hl 3 rfl) ?_
            refine gx_lastE C hW 2 (j := pn) rfl rfl (by omega) (by decide) dX6_part_96 (fun H locs hW => ?_)
            have hW : gx_W G A s ([(ad 0, .inr (11, [.int 0, .int (nI pn), .ref (ad 1), .ref (ad 2), .ref (ad 3), .ref (ad 4), .ref (ad 5), .int (nI fn), .ref (ad 6), .ref (ad 7), .int (nI dn), .ref (ad 8), .long ex, .long ey, .long eg, .int (nI cn), .ref (ad 9), .ref (ad 10), .int (nI sn), .int at0, .int fl, .int (nI tn), .ref (ad 11), .ref (ad 12)])), (ad 1, .inl (G.2.1 2, 16, .inr (.inl (vp_updL px pn x)))), (ad 2, .inl (G.2.1 2, 16, .inr (.inl (vp_updL py pn y)))), (ad 3, .inl (G.2.1 2, 16, .inr (.inl pz))), (ad 4, .inl (G.2.1 2, 16, .inr (.inl gr))), (ad 5, .inl (G.2.1 2, 16, .inr (.inl ou))), (ad 6, .inl (G.2.1 2, 12, .inr (.inl fx))), (ad 7, .inl (G.2.1 2, 12, .inr (.inl fy))), (ad 8, .inl (G.2.1 1, 8, .inl od)), (ad 9, .inl (G.2.1 1, 12, .inl cr)), (ad 10, .inl (G.2.1 1, 200, .inl ty)), (ad 11, .inl (G.2.1 1, 48, .inl to_)), (ad 12, .inl (G.2.1 1, 48, .inl dr))]) H locs := hW
            refine lv_aload_n gX gB dX6_part_97 rfl (lv_at hl 1 rfl) ?_
            refine gx_get C hW fX6_16 ⟨0, rfl⟩ rfl dX6_part_98 ?_
            refine lv_aload_n gX gB dX6_part_101 rfl (lv_at hl 1 rfl) ?_
            refine gx_get C hW fX6_65 ⟨0, rfl⟩ rfl dX6_part_102 ?_
            refine lv_lload gX gB dX6_part_105 (lv_at hl 4 rfl) ?_
            refine gx_lastE C hW 3 (j := pn) rfl rfl (by omega) (by decide) dX6_part_107 (fun H locs hW => ?_)
            have hW : gx_W G A s ([(ad 0, .inr (11, [.int 0, .int (nI pn), .ref (ad 1), .ref (ad 2), .ref (ad 3), .ref (ad 4), .ref (ad 5), .int (nI fn), .ref (ad 6), .ref (ad 7), .int (nI dn), .ref (ad 8), .long ex, .long ey, .long eg, .int (nI cn), .ref (ad 9), .ref (ad 10), .int (nI sn), .int at0, .int fl, .int (nI tn), .ref (ad 11), .ref (ad 12)])), (ad 1, .inl (G.2.1 2, 16, .inr (.inl (vp_updL px pn x)))), (ad 2, .inl (G.2.1 2, 16, .inr (.inl (vp_updL py pn y)))), (ad 3, .inl (G.2.1 2, 16, .inr (.inl (vp_updL pz pn z)))), (ad 4, .inl (G.2.1 2, 16, .inr (.inl gr))), (ad 5, .inl (G.2.1 2, 16, .inr (.inl ou))), (ad 6, .inl (G.2.1 2, 12, .inr (.inl fx))), (ad 7, .inl (G.2.1 2, 12, .inr (.inl fy))), (ad 8, .inl (G.2.1 1, 8, .inl od)), (ad 9, .inl (G.2.1 1, 12, .inl cr)), (ad 10, .inl (G.2.1 1, 200, .inl ty)), (ad 11, .inl (G.2.1 1, 48, .inl to_)), (ad 12, .inl (G.2.1 1, 48, .inl dr))]) H locs := hW
            refine lv_aload_n gX gB dX6_part_108 rfl (lv_at hl 1 rfl) ?_
            refine gx_get C hW fX6_19 ⟨0, rfl⟩ rfl dX6_part_109 ?_
            refine lv_aload_n gX gB dX6_part_112 rfl (lv_at hl 1 rfl) ?_
            refine gx_get C hW fX6_65 ⟨0, rfl⟩ rfl dX6_part_113 ?_
            refine lv_lload gX gB dX6_part_116 (lv_at hl 5 rfl) ?_
            refine gx_lastE C hW 4 (j := pn) rfl rfl (by omega) (by decide) dX6_part_118 (fun H locs hW => ?_)
            have hW : gx_W G A s ([(ad 0, .inr (11, [.int 0, .int (nI pn), .ref (ad 1), .ref (ad 2), .ref (ad 3), .ref (ad 4), .ref (ad 5), .int (nI fn), .ref (ad 6), .ref (ad 7), .int (nI dn), .ref (ad 8), .long ex, .long ey, .long eg, .int (nI cn), .ref (ad 9), .ref (ad 10), .int (nI sn), .int at0, .int fl, .int (nI tn), .ref (ad 11), .ref (ad 12)])), (ad 1, .inl (G.2.1 2, 16, .inr (.inl (vp_updL px pn x)))), (ad 2, .inl (G.2.1 2, 16, .inr (.inl (vp_updL py pn y)))), (ad 3, .inl (G.2.1 2, 16, .inr (.inl (vp_updL pz pn z)))), (ad 4, .inl (G.2.1 2, 16, .inr (.inl (vp_updL gr pn w)))), (ad 5, .inl (G.2.1 2, 16, .inr (.inl ou))), (ad 6, .inl (G.2.1 2, 12, .inr (.inl fx))), (ad 7, .inl (G.2.1 2, 12, .inr (.inl fy))), (ad 8, .inl (G.2.1 1, 8, .inl od)), (ad 9, .inl (G.2.1 1, 12, .inl cr)), (ad 10, .inl (G.2.1 1, 200, .inl ty)), (ad 11, .inl (G.2.1 1, 48, .inl to_)), (ad 12, .inl (G.2.1 1, 48, .inl dr))]) H locs := hW
            refine lv_aload_n gX gB dX6_part_119 rfl (lv_at hl 1 rfl) ?_
            refine lv_dup gX gB dX6_part_120 rfl ?_
            refine gx_get C hW fX6_65 ⟨0, rfl⟩ rfl dX6_part_121 ?_
            refine lv_iconst (v := 1) gX gB dX6_part_124 (by decide) ?_
            refine lv_iadd gX gB dX6_part_125 ?_
            refine gx_topi (show ((nI pn) + 1) = nI (pn + 1) from nI_1 pn) ?_
            refine gx_putE C hW clX6 fX6_65 0 rfl (Or.inl rfl) rfl rfl (Nat.le_of_ble_eq_true rfl) dX6_part_126 (fun H locs hW => ?_)
            have hW : gx_W G A s ([(ad 0, .inr (11, [.int 0, .int (nI (pn + 1)), .ref (ad 1), .ref (ad 2), .ref (ad 3), .ref (ad 4), .ref (ad 5), .int (nI fn), .ref (ad 6), .ref (ad 7), .int (nI dn), .ref (ad 8), .long ex, .long ey, .long eg, .int (nI cn), .ref (ad 9), .ref (ad 10), .int (nI sn), .int at0, .int fl, .int (nI tn), .ref (ad 11), .ref (ad 12)])), (ad 1, .inl (G.2.1 2, 16, .inr (.inl (vp_updL px pn x)))), (ad 2, .inl (G.2.1 2, 16, .inr (.inl (vp_updL py pn y)))), (ad 3, .inl (G.2.1 2, 16, .inr (.inl (vp_updL pz pn z)))), (ad 4, .inl (G.2.1 2, 16, .inr (.inl (vp_updL gr pn w)))), (ad 5, .inl (G.2.1 2, 16, .inr (.inl ou))), (ad 6, .inl (G.2.1 2, 12, .inr (.inl fx))), (ad 7, .inl (G.2.1 2, 12, .inr (.inl fy))), (ad 8, .inl (G.2.1 1, 8, .inl od)), (ad 9, .inl (G.2.1 1, 12, .inl cr)), (ad 10, .inl (G.2.1 1, 200, .inl ty)), (ad 11, .inl (G.2.1 1, 48, .inl to_)), (ad 12, .inl (G.2.1 1, 48, .inl dr))]) H locs := hW
            refine lv_aload_n gX gB dX6_part_129 rfl (lv_at hl 1 rfl) ?_
            refine gx_get C hW fX6_65 ⟨0, rfl⟩ rfl dX6_part_130 ?_
            refine lv_iconst (v := 1) gX gB dX6_part_133 (by decide) ?_
            refine lv_isub gX gB dX6_part_134 ?_
            refine gx_topi (show ((nI (pn + 1)) - 1) = nI pn from nI_pred _) ?_
            exact gx_iret C hr hW (Or.inl ⟨hp1, rfl, rfl⟩) (Nat.le_of_ble_eq_true rfl) (Nat.le_of_ble_eq_true rfl) dX6_part_135
set_option maxHeartbeats 4000000 in
set_option maxRecDepth 100000 in
theorem kX6_person (l : Launch) (G : gx_T) (ad : Nat → Nat) (cd : Int32) (pn fn dn cn sn tn : Nat) (ex ey eg : Int64) (at0 fl : Int32) (px py pz gr ou fx fy : Nat → Int64) (od cr ty to_ dr : Nat → Int32) (x y w : Int64) : gx_M l G yX6_person cX6_person 7 (some .boolean) ({ frames := 1, cells := 0, slots := 0, locals := 25 } : Room) [.ref (ad 0), .long x, .long y, .long w] ([(ad 0, .inr (11, [.int cd, .int (nI pn), .ref (ad 1), .ref (ad 2), .ref (ad 3), .ref (ad 4), .ref (ad 5), .int (nI fn), .ref (ad 6), .ref (ad 7), .int (nI dn), .ref (ad 8), .long ex, .long ey, .long eg, .int (nI cn), .ref (ad 9), .ref (ad 10), .int (nI sn), .int at0, .int fl, .int (nI tn), .ref (ad 11), .ref (ad 12)])), (ad 1, .inl (G.2.1 2, 16, .inr (.inl px))), (ad 2, .inl (G.2.1 2, 16, .inr (.inl py))), (ad 3, .inl (G.2.1 2, 16, .inr (.inl pz))), (ad 4, .inl (G.2.1 2, 16, .inr (.inl gr))), (ad 5, .inl (G.2.1 2, 16, .inr (.inl ou))), (ad 6, .inl (G.2.1 2, 12, .inr (.inl fx))), (ad 7, .inl (G.2.1 2, 12, .inr (.inl fy))), (ad 8, .inl (G.2.1 1, 8, .inl od)), (ad 9, .inl (G.2.1 1, 12, .inl cr)), (ad 10, .inl (G.2.1 1, 200, .inl ty)), (ad 11, .inl (G.2.1 1, 48, .inl to_)), (ad 12, .inl (G.2.1 1, 48, .inl dr))]) (fun v u => (pe_code x y w = 0 ∧ ((v = some (.int 0) ∧ (x = ex ∧ y = ey ∧ w = eg) ∧ u = [(ad 0, .inr (11, [.int 0, .int (nI pn), .ref (ad 1), .ref (ad 2), .ref (ad 3), .ref (ad 4), .ref (ad 5), .int (nI fn), .ref (ad 6), .ref (ad 7), .int (nI dn), .ref (ad 8), .long ex, .long ey, .long eg, .int (nI cn), .ref (ad 9), .ref (ad 10), .int (nI sn), .int at0, .int fl, .int (nI tn), .ref (ad 11), .ref (ad 12)])), (ad 1, .inl (G.2.1 2, 16, .inr (.inl px))), (ad 2, .inl (G.2.1 2, 16, .inr (.inl py))), (ad 3, .inl (G.2.1 2, 16, .inr (.inl pz))), (ad 4, .inl (G.2.1 2, 16, .inr (.inl gr))), (ad 5, .inl (G.2.1 2, 16, .inr (.inl ou))), (ad 6, .inl (G.2.1 2, 12, .inr (.inl fx))), (ad 7, .inl (G.2.1 2, 12, .inr (.inl fy))), (ad 8, .inl (G.2.1 1, 8, .inl od)), (ad 9, .inl (G.2.1 1, 12, .inl cr)), (ad 10, .inl (G.2.1 1, 200, .inl ty)), (ad 11, .inl (G.2.1 1, 48, .inl to_)), (ad 12, .inl (G.2.1 1, 48, .inl dr))]) ∨ (v = some (.int 1) ∧ ¬ (x = ex ∧ y = ey ∧ w = eg) ∧ u = [(ad 0, .inr (11, [.int 0, .int (nI pn), .ref (ad 1), .ref (ad 2), .ref (ad 3), .ref (ad 4), .ref (ad 5), .int (nI fn), .ref (ad 6), .ref (ad 7), .int (nI dn), .ref (ad 8), .long x, .long y, .long w, .int (nI cn), .ref (ad 9), .ref (ad 10), .int (nI sn), .int at0, .int fl, .int (nI tn), .ref (ad 11), .ref (ad 12)])), (ad 1, .inl (G.2.1 2, 16, .inr (.inl px))), (ad 2, .inl (G.2.1 2, 16, .inr (.inl py))), (ad 3, .inl (G.2.1 2, 16, .inr (.inl pz))), (ad 4, .inl (G.2.1 2, 16, .inr (.inl gr))), (ad 5, .inl (G.2.1 2, 16, .inr (.inl ou))), (ad 6, .inl (G.2.1 2, 12, .inr (.inl fx))), (ad 7, .inl (G.2.1 2, 12, .inr (.inl fy))), (ad 8, .inl (G.2.1 1, 8, .inl od)), (ad 9, .inl (G.2.1 1, 12, .inl cr)), (ad 10, .inl (G.2.1 1, 200, .inl ty)), (ad 11, .inl (G.2.1 1, 48, .inl to_)), (ad 12, .inl (G.2.1 1, 48, .inl dr))]))) ∨ (pe_code x y w = 1 ∧ v = some (.int 0) ∧ u = [(ad 0, .inr (11, [.int (pe_code x y w), .int (nI pn), .ref (ad 1), .ref (ad 2), .ref (ad 3), .ref (ad 4), .ref (ad 5), .int (nI fn), .ref (ad 6), .ref (ad 7), .int (nI dn), .ref (ad 8), .long ex, .long ey, .long eg, .int (nI cn), .ref (ad 9), .ref (ad 10), .int (nI sn), .int at0, .int fl, .int (nI tn), .ref (ad 11), .ref (ad 12)])), (ad 1, .inl (G.2.1 2, 16, .inr (.inl px))), (ad 2, .inl (G.2.1 2, 16, .inr (.inl py))), (ad 3, .inl (G.2.1 2, 16, .inr (.inl pz))), (ad 4, .inl (G.2.1 2, 16, .inr (.inl gr))), (ad 5, .inl (G.2.1 2, 16, .inr (.inl ou))), (ad 6, .inl (G.2.1 2, 12, .inr (.inl fx))), (ad 7, .inl (G.2.1 2, 12, .inr (.inl fy))), (ad 8, .inl (G.2.1 1, 8, .inl od)), (ad 9, .inl (G.2.1 1, 12, .inl cr)), (ad 10, .inl (G.2.1 1, 200, .inl ty)), (ad 11, .inl (G.2.1 1, 48, .inl to_)), (ad 12, .inl (G.2.1 1, 48, .inl dr))])) := by
  refine gx_start (by decide +kernel) (Nat.le_of_ble_eq_true rfl) ?_
  intro p e s m args below meth c A ls C hr hnm hW hl
  have gX := C.x
  have gB := C.b
  have hl : lv_has ls 7 [(0, .ref (ad 0)), (1, .long x), (3, .long y), (5, .long w)] := hl
  refine lv_aload_n gX gB dX6_person_0 rfl (lv_at hl 0 rfl) ?_
  refine lv_lload_n gX gB dX6_person_1 rfl (lv_at hl 1 rfl) ?_
  refine gx_callS (wr := []) (rest := [.ref (ad 0)]) C hW sX6_55 (kX6_isPlace l G ([(ad 0, .inr (11, [.int cd, .int (nI pn), .ref (ad 1), .ref (ad 2), .ref (ad 3), .ref (ad 4), .ref (ad 5), .int (nI fn), .ref (ad 6), .ref (ad 7), .int (nI dn), .ref (ad 8), .long ex, .long ey, .long eg, .int (nI cn), .ref (ad 9), .ref (ad 10), .int (nI sn), .int at0, .int fl, .int (nI tn), .ref (ad 11), .ref (ad 12)])), (ad 1, .inl (G.2.1 2, 16, .inr (.inl px))), (ad 2, .inl (G.2.1 2, 16, .inr (.inl py))), (ad 3, .inl (G.2.1 2, 16, .inr (.inl pz))), (ad 4, .inl (G.2.1 2, 16, .inr (.inl gr))), (ad 5, .inl (G.2.1 2, 16, .inr (.inl ou))), (ad 6, .inl (G.2.1 2, 12, .inr (.inl fx))), (ad 7, .inl (G.2.1 2, 12, .inr (.inl fy))), (ad 8, .inl (G.2.1 1, 8, .inl od)), (ad 9, .inl (G.2.1 1, 12, .inl cr)), (ad 10, .inl (G.2.1 1, 200, .inl ty)), (ad 11, .inl (G.2.1 1, 48, .inl to_)), (ad 12, .inl (G.2.1 1, 48, .inl dr))]) x) rfl ⟨(Nat.le_of_ble_eq_true rfl), (Nat.le_of_ble_eq_true rfl)⟩ hl.1 rfl (Nat.le_of_ble_eq_true rfl) dX6_person_2 ⟨(Nat.le_of_ble_eq_true rfl), (Nat.le_of_ble_eq_true rfl)⟩ (fun v9 u9 H locs hp hW => ?_)
  obtain ⟨rfl, hu⟩ := hp
  rw [hu] at hW
  have hW : gx_W G A s ([(ad 0, .inr (11, [.int cd, .int (nI pn), .ref (ad 1), .ref (ad 2), .ref (ad 3), .ref (ad 4), .ref (ad 5), .int (nI fn), .ref (ad 6), .ref (ad 7), .int (nI dn), .ref (ad 8), .long ex, .long ey, .long eg, .int (nI cn), .ref (ad 9), .ref (ad 10), .int (nI sn), .int at0, .int fl, .int (nI tn), .ref (ad 11), .ref (ad 12)])), (ad 1, .inl (G.2.1 2, 16, .inr (.inl px))), (ad 2, .inl (G.2.1 2, 16, .inr (.inl py))), (ad 3, .inl (G.2.1 2, 16, .inr (.inl pz))), (ad 4, .inl (G.2.1 2, 16, .inr (.inl gr))), (ad 5, .inl (G.2.1 2, 16, .inr (.inl ou))), (ad 6, .inl (G.2.1 2, 12, .inr (.inl fx))), (ad 7, .inl (G.2.1 2, 12, .inr (.inl fy))), (ad 8, .inl (G.2.1 1, 8, .inl od)), (ad 9, .inl (G.2.1 1, 12, .inl cr)), (ad 10, .inl (G.2.1 1, 200, .inl ty)), (ad 11, .inl (G.2.1 1, 48, .inl to_)), (ad 12, .inl (G.2.1 1, 48, .inl dr))]) H locs := hW
  refine W.eq (g2 := F0 m 5 ls [.int (gx_b (pl_ok x)), .ref (ad 0)]) rfl ?_
  refine W.widen (k := 0) (n := 0) (Nat.le_of_ble_eq_true rfl) (Nat.le_of_ble_eq_true rfl) ?_
  refine lv_if_eq (tgt := 31) gX gB dX6_person_5 (by decide) (fun c5 => ?_) (fun c5 => ?_)
  · refine lv_iconst (v := 1) gX gB dX6_person_31 (by decide) ?_
    refine gx_putE C hW clX6 fX6_47 0 rfl (Or.inl rfl) rfl rfl (Nat.le_of_ble_eq_true rfl) dX6_person_32 (fun H locs hW => ?_)
    have hW : gx_W G A s ([(ad 0, .inr (11, [.int 1, .int (nI pn), .ref (ad 1), .ref (ad 2), .ref (ad 3), .ref (ad 4), .ref (ad 5), .int (nI fn), .ref (ad 6), .ref (ad 7), .int (nI dn), .ref (ad 8), .long ex, .long ey, .long eg, .int (nI cn), .ref (ad 9), .ref (ad 10), .int (nI sn), .int at0, .int fl, .int (nI tn), .ref (ad 11), .ref (ad 12)])), (ad 1, .inl (G.2.1 2, 16, .inr (.inl px))), (ad 2, .inl (G.2.1 2, 16, .inr (.inl py))), (ad 3, .inl (G.2.1 2, 16, .inr (.inl pz))), (ad 4, .inl (G.2.1 2, 16, .inr (.inl gr))), (ad 5, .inl (G.2.1 2, 16, .inr (.inl ou))), (ad 6, .inl (G.2.1 2, 12, .inr (.inl fx))), (ad 7, .inl (G.2.1 2, 12, .inr (.inl fy))), (ad 8, .inl (G.2.1 1, 8, .inl od)), (ad 9, .inl (G.2.1 1, 12, .inl cr)), (ad 10, .inl (G.2.1 1, 200, .inl ty)), (ad 11, .inl (G.2.1 1, 48, .inl to_)), (ad 12, .inl (G.2.1 1, 48, .inl dr))]) H locs := hW
    refine lv_aload_n gX gB dX6_person_35 rfl (lv_at hl 0 rfl) ?_
    refine gx_get C hW fX6_47 ⟨0, rfl⟩ rfl dX6_person_36 ?_
    refine lv_if_gt (tgt := 70) gX gB dX6_person_39 (by decide) (fun _ => ?_) (fun h9 => absurd (show (0 : Int32) < 1 from by decide) h9)
    refine lv_iconst (v := 0) gX gB dX6_person_70 (by decide) ?_
    exact gx_zret C hr (by decide) hW (Or.inr ⟨by rw [pe_1 (fun zz => gx_b0.mp c5 zz.1)], rfl, by rw [pe_1 (fun zz => gx_b0.mp c5 zz.1)]⟩) (Nat.le_of_ble_eq_true rfl) (Nat.le_of_ble_eq_true rfl) dX6_person_71
  · refine lv_lload_n gX gB dX6_person_8 rfl (lv_at hl 2 rfl) ?_
    refine gx_callS (wr := []) (rest := [.ref (ad 0)]) C hW sX6_55 (kX6_isPlace l G ([(ad 0, .inr (11, [.int cd, .int (nI pn), .ref (ad 1), .ref (ad 2), .ref (ad 3), .ref (ad 4), .ref (ad 5), .int (nI fn), .ref (ad 6), .ref (ad 7), .int (nI dn), .ref (ad 8), .long ex, .long ey, .long eg, .int (nI cn), .ref (ad 9), .ref (ad 10), .int (nI sn), .int at0, .int fl, .int (nI tn), .ref (ad 11), .ref (ad 12)])), (ad 1, .inl (G.2.1 2, 16, .inr (.inl px))), (ad 2, .inl (G.2.1 2, 16, .inr (.inl py))), (ad 3, .inl (G.2.1 2, 16, .inr (.inl pz))), (ad 4, .inl (G.2.1 2, 16, .inr (.inl gr))), (ad 5, .inl (G.2.1 2, 16, .inr (.inl ou))), (ad 6, .inl (G.2.1 2, 12, .inr (.inl fx))), (ad 7, .inl (G.2.1 2, 12, .inr (.inl fy))), (ad 8, .inl (G.2.1 1, 8, .inl od)), (ad 9, .inl (G.2.1 1, 12, .inl cr)), (ad 10, .inl (G.2.1 1, 200, .inl ty)), (ad 11, .inl (G.2.1 1, 48, .inl to_)), (ad 12, .inl (G.2.1 1, 48, .inl dr))]) y) rfl ⟨(Nat.le_of_ble_eq_true rfl), (Nat.le_of_ble_eq_true rfl)⟩ hl.1 rfl (Nat.le_of_ble_eq_true rfl) dX6_person_9 ⟨(Nat.le_of_ble_eq_true rfl), (Nat.le_of_ble_eq_true rfl)⟩ (fun v9 u9 H locs hp hW => ?_)
    obtain ⟨rfl, hu⟩ := hp
    rw [hu] at hW
    have hW : gx_W G A s ([(ad 0, .inr (11, [.int cd, .int (nI pn), .ref (ad 1), .ref (ad 2), .ref (ad 3), .ref (ad 4), .ref (ad 5), .int (nI fn), .ref (ad 6), .ref (ad 7), .int (nI dn), .ref (ad 8), .long ex, .long ey, .long eg, .int (nI cn), .ref (ad 9), .ref (ad 10), .int (nI sn), .int at0, .int fl, .int (nI tn), .ref (ad 11), .ref (ad 12)])), (ad 1, .inl (G.2.1 2, 16, .inr (.inl px))), (ad 2, .inl (G.2.1 2, 16, .inr (.inl py))), (ad 3, .inl (G.2.1 2, 16, .inr (.inl pz))), (ad 4, .inl (G.2.1 2, 16, .inr (.inl gr))), (ad 5, .inl (G.2.1 2, 16, .inr (.inl ou))), (ad 6, .inl (G.2.1 2, 12, .inr (.inl fx))), (ad 7, .inl (G.2.1 2, 12, .inr (.inl fy))), (ad 8, .inl (G.2.1 1, 8, .inl od)), (ad 9, .inl (G.2.1 1, 12, .inl cr)), (ad 10, .inl (G.2.1 1, 200, .inl ty)), (ad 11, .inl (G.2.1 1, 48, .inl to_)), (ad 12, .inl (G.2.1 1, 48, .inl dr))]) H locs := hW
    refine W.eq (g2 := F0 m 12 ls [.int (gx_b (pl_ok y)), .ref (ad 0)]) rfl ?_
    refine W.widen (k := 0) (n := 0) (Nat.le_of_ble_eq_true rfl) (Nat.le_of_ble_eq_true rfl) ?_
    refine lv_if_eq (tgt := 31) gX gB dX6_person_12 (by decide) (fun c12 => ?_) (fun c12 => ?_)
    · refine lv_iconst (v := 1) gX gB dX6_person_31 (by decide) ?_
      refine gx_putE C hW clX6 fX6_47 0 rfl (Or.inl rfl) rfl rfl (Nat.le_of_ble_eq_true rfl) dX6_person_32 (fun H locs hW => ?_)
      have hW : gx_W G A s ([(ad 0, .inr (11, [.int 1, .int (nI pn), .ref (ad 1), .ref (ad 2), .ref (ad 3), .ref (ad 4), .ref (ad 5), .int (nI fn), .ref (ad 6), .ref (ad 7), .int (nI dn), .ref (ad 8), .long ex, .long ey, .long eg, .int (nI cn), .ref (ad 9), .ref (ad 10), .int (nI sn), .int at0, .int fl, .int (nI tn), .ref (ad 11), .ref (ad 12)])), (ad 1, .inl (G.2.1 2, 16, .inr (.inl px))), (ad 2, .inl (G.2.1 2, 16, .inr (.inl py))), (ad 3, .inl (G.2.1 2, 16, .inr (.inl pz))), (ad 4, .inl (G.2.1 2, 16, .inr (.inl gr))), (ad 5, .inl (G.2.1 2, 16, .inr (.inl ou))), (ad 6, .inl (G.2.1 2, 12, .inr (.inl fx))), (ad 7, .inl (G.2.1 2, 12, .inr (.inl fy))), (ad 8, .inl (G.2.1 1, 8, .inl od)), (ad 9, .inl (G.2.1 1, 12, .inl cr)), (ad 10, .inl (G.2.1 1, 200, .inl ty)), (ad 11, .inl (G.2.1 1, 48, .inl to_)), (ad 12, .inl (G.2.1 1, 48, .inl dr))]) H locs := hW
      refine lv_aload_n gX gB dX6_person_35 rfl (lv_at hl 0 rfl) ?_
      refine gx_get C hW fX6_47 ⟨0, rfl⟩ rfl dX6_person_36 ?_
      refine lv_if_gt (tgt := 70) gX gB dX6_person_39 (by decide) (fun _ => ?_) (fun h9 => absurd (show (0 : Int32) < 1 from by decide) h9)
      refine lv_iconst (v := 0) gX gB dX6_person_70 (by decide) ?_
      exact gx_zret C hr (by decide) hW (Or.inr ⟨by rw [pe_1 (fun zz => gx_b0.mp c12 zz.2.1)], rfl, by rw [pe_1 (fun zz => gx_b0.mp c12 zz.2.1)]⟩) (Nat.le_of_ble_eq_true rfl) (Nat.le_of_ble_eq_true rfl) dX6_person_71
    · refine lv_lload gX gB dX6_person_15 (lv_at hl 3 rfl) ?_
      refine lv_lconst (v := 0) gX gB dX6_person_17 (by decide) ?_
      refine gx_ldc2 (v := 1000000) C (tq_5 97 (by decide +kernel) rfl) dX6_person_18 ?_
      refine gx_callS (wr := []) (rest := [.ref (ad 0)]) C hW sX6_61 (kX6_isIn l G ([(ad 0, .inr (11, [.int cd, .int (nI pn), .ref (ad 1), .ref (ad 2), .ref (ad 3), .ref (ad 4), .ref (ad 5), .int (nI fn), .ref (ad 6), .ref (ad 7), .int (nI dn), .ref (ad 8), .long ex, .long ey, .long eg, .int (nI cn), .ref (ad 9), .ref (ad 10), .int (nI sn), .int at0, .int fl, .int (nI tn), .ref (ad 11), .ref (ad 12)])), (ad 1, .inl (G.2.1 2, 16, .inr (.inl px))), (ad 2, .inl (G.2.1 2, 16, .inr (.inl py))), (ad 3, .inl (G.2.1 2, 16, .inr (.inl pz))), (ad 4, .inl (G.2.1 2, 16, .inr (.inl gr))), (ad 5, .inl (G.2.1 2, 16, .inr (.inl ou))), (ad 6, .inl (G.2.1 2, 12, .inr (.inl fx))), (ad 7, .inl (G.2.1 2, 12, .inr (.inl fy))), (ad 8, .inl (G.2.1 1, 8, .inl od)), (ad 9, .inl (G.2.1 1, 12, .inl cr)), (ad 10, .inl (G.2.1 1, 200, .inl ty)), (ad 11, .inl (G.2.1 1, 48, .inl to_)), (ad 12, .inl (G.2.1 1, 48, .inl dr))]) w 0 1000000) rfl ⟨(Nat.le_of_ble_eq_true rfl), (Nat.le_of_ble_eq_true rfl)⟩ hl.1 rfl (Nat.le_of_ble_eq_true rfl) dX6_person_21 ⟨(Nat.le_of_ble_eq_true rfl), (Nat.le_of_ble_eq_true rfl)⟩ (fun v9 u9 H locs hp hW => ?_)
      obtain ⟨rfl, hu⟩ := hp
      rw [hu] at hW
      have hW : gx_W G A s ([(ad 0, .inr (11, [.int cd, .int (nI pn), .ref (ad 1), .ref (ad 2), .ref (ad 3), .ref (ad 4), .ref (ad 5), .int (nI fn), .ref (ad 6), .ref (ad 7), .int (nI dn), .ref (ad 8), .long ex, .long ey, .long eg, .int (nI cn), .ref (ad 9), .ref (ad 10), .int (nI sn), .int at0, .int fl, .int (nI tn), .ref (ad 11), .ref (ad 12)])), (ad 1, .inl (G.2.1 2, 16, .inr (.inl px))), (ad 2, .inl (G.2.1 2, 16, .inr (.inl py))), (ad 3, .inl (G.2.1 2, 16, .inr (.inl pz))), (ad 4, .inl (G.2.1 2, 16, .inr (.inl gr))), (ad 5, .inl (G.2.1 2, 16, .inr (.inl ou))), (ad 6, .inl (G.2.1 2, 12, .inr (.inl fx))), (ad 7, .inl (G.2.1 2, 12, .inr (.inl fy))), (ad 8, .inl (G.2.1 1, 8, .inl od)), (ad 9, .inl (G.2.1 1, 12, .inl cr)), (ad 10, .inl (G.2.1 1, 200, .inl ty)), (ad 11, .inl (G.2.1 1, 48, .inl to_)), (ad 12, .inl (G.2.1 1, 48, .inl dr))]) H locs := hW
      refine W.eq (g2 := F0 m 24 ls [.int (gx_b (gm_ok w)), .ref (ad 0)]) rfl ?_
      refine W.widen (k := 0) (n := 0) (Nat.le_of_ble_eq_true rfl) (Nat.le_of_ble_eq_true rfl) ?_
      refine lv_if_eq (tgt := 31) gX gB dX6_person_24 (by decide) (fun c24 => ?_) (fun c24 => ?_)
      · refine lv_iconst (v := 1) gX gB dX6_person_31 (by decide) ?_
        refine gx_putE C hW clX6 fX6_47 0 rfl (Or.inl rfl) rfl rfl (Nat.le_of_ble_eq_true rfl) dX6_person_32 (fun H locs hW => ?_)
        have hW : gx_W G A s ([(ad 0, .inr (11, [.int 1, .int (nI pn), .ref (ad 1), .ref (ad 2), .ref (ad 3), .ref (ad 4), .ref (ad 5), .int (nI fn), .ref (ad 6), .ref (ad 7), .int (nI dn), .ref (ad 8), .long ex, .long ey, .long eg, .int (nI cn), .ref (ad 9), .ref (ad 10), .int (nI sn), .int at0, .int fl, .int (nI tn), .ref (ad 11), .ref (ad 12)])), (ad 1, .inl (G.2.1 2, 16, .inr (.inl px))), (ad 2, .inl (G.2.1 2, 16, .inr (.inl py))), (ad 3, .inl (G.2.1 2, 16, .inr (.inl pz))), (ad 4, .inl (G.2.1 2, 16, .inr (.inl gr))), (ad 5, .inl (G.2.1 2, 16, .inr (.inl ou))), (ad 6, .inl (G.2.1 2, 12, .inr (.inl fx))), (ad 7, .inl (G.2.1 2, 12, .inr (.inl fy))), (ad 8, .inl (G.2.1 1, 8, .inl od)), (ad 9, .inl (G.2.1 1, 12, .inl cr)), (ad 10, .inl (G.2.1 1, 200, .inl ty)), (ad 11, .inl (G.2.1 1, 48, .inl to_)), (ad 12, .inl (G.2.1 1, 48, .inl dr))]) H locs := hW
        refine lv_aload_n gX gB dX6_person_35 rfl (lv_at hl 0 rfl) ?_
        refine gx_get C hW fX6_47 ⟨0, rfl⟩ rfl dX6_person_36 ?_
        refine lv_if_gt (tgt := 70) gX gB dX6_person_39 (by decide) (fun _ => ?_) (fun h9 => absurd (show (0 : Int32) < 1 from by decide) h9)
        refine lv_iconst (v := 0) gX gB dX6_person_70 (by decide) ?_
        exact gx_zret C hr (by decide) hW (Or.inr ⟨by rw [pe_1 (fun zz => gx_b0.mp c24 zz.2.2)], rfl, by rw [pe_1 (fun zz => gx_b0.mp c24 zz.2.2)]⟩) (Nat.le_of_ble_eq_true rfl) (Nat.le_of_ble_eq_true rfl) dX6_person_71
      · refine lv_iconst (v := 0) gX gB dX6_person_27 (by decide) ?_
        refine lv_goto (tgt := 32) gX gB dX6_person_28 (by decide) ?_
        refine gx_putE C hW clX6 fX6_47 0 rfl (Or.inl rfl) rfl rfl (Nat.le_of_ble_eq_true rfl) dX6_person_32 (fun H locs hW => ?_)
        have hW : gx_W G A s ([(ad 0, .inr (11, [.int 0, .int (nI pn), .ref (ad 1), .ref (ad 2), .ref (ad 3), .ref (ad 4), .ref (ad 5), .int (nI fn), .ref (ad 6), .ref (ad 7), .int (nI dn), .ref (ad 8), .long ex, .long ey, .long eg, .int (nI cn), .ref (ad 9), .ref (ad 10), .int (nI sn), .int at0, .int fl, .int (nI tn), .ref (ad 11), .ref (ad 12)])), (ad 1, .inl (G.2.1 2, 16, .inr (.inl px))), (ad 2, .inl (G.2.1 2, 16, .inr (.inl py))), (ad 3, .inl (G.2.1 2, 16, .inr (.inl pz))), (ad 4, .inl (G.2.1 2, 16, .inr (.inl gr))), (ad 5, .inl (G.2.1 2, 16, .inr (.inl ou))), (ad 6, .inl (G.2.1 2, 12, .inr (.inl fx))), (ad 7, .inl (G.2.1 2, 12, .inr (.inl fy))), (ad 8, .inl (G.2.1 1, 8, .inl od)), (ad 9, .inl (G.2.1 1, 12, .inl cr)), (ad 10, .inl (G.2.1 1, 200, .inl ty)), (ad 11, .inl (G.2.1 1, 48, .inl to_)), (ad 12, .inl (G.2.1 1, 48, .inl dr))]) H locs := hW
        refine lv_aload_n gX gB dX6_person_35 rfl (lv_at hl 0 rfl) ?_
        refine gx_get C hW fX6_47 ⟨0, rfl⟩ rfl dX6_person_36 ?_
        refine lv_if_gt (tgt := 70) gX gB dX6_person_39 (by decide) (fun h9 => absurd (show (0 : Int32) < 0 from h9) (by decide)) (fun _ => ?_)
        refine lv_lload_n gX gB dX6_person_42 rfl (lv_at hl 1 rfl) ?_
        refine lv_aload_n gX gB dX6_person_43 rfl (lv_at hl 0 rfl) ?_
        refine gx_get C hW fX6_77 ⟨0, rfl⟩ rfl dX6_person_44 ?_
        refine gx_lc_ne (tgt := 72) C dX6_person_47 dX6_person_48 (by decide) (fun c47 => ?_) (fun c47 => ?_)
        · refine lv_aload_n gX gB dX6_person_72 rfl (lv_at hl 0 rfl) ?_
          refine lv_lload_n gX gB dX6_person_73 rfl (lv_at hl 1 rfl) ?_
          refine gx_putE C hW clX6 fX6_77 0 rfl (Or.inl rfl) rfl rfl (Nat.le_of_ble_eq_true rfl) dX6_person_74 (fun H locs hW => ?_)
          have hW : gx_W G A s ([(ad 0, .inr (11, [.int 0, .int (nI pn), .ref (ad 1), .ref (ad 2), .ref (ad 3), .ref (ad 4), .ref (ad 5), .int (nI fn), .ref (ad 6), .ref (ad 7), .int (nI dn), .ref (ad 8), .long x, .long ey, .long eg, .int (nI cn), .ref (ad 9), .ref (ad 10), .int (nI sn), .int at0, .int fl, .int (nI tn), .ref (ad 11), .ref (ad 12)])), (ad 1, .inl (G.2.1 2, 16, .inr (.inl px))), (ad 2, .inl (G.2.1 2, 16, .inr (.inl py))), (ad 3, .inl (G.2.1 2, 16, .inr (.inl pz))), (ad 4, .inl (G.2.1 2, 16, .inr (.inl gr))), (ad 5, .inl (G.2.1 2, 16, .inr (.inl ou))), (ad 6, .inl (G.2.1 2, 12, .inr (.inl fx))), (ad 7, .inl (G.2.1 2, 12, .inr (.inl fy))), (ad 8, .inl (G.2.1 1, 8, .inl od)), (ad 9, .inl (G.2.1 1, 12, .inl cr)), (ad 10, .inl (G.2.1 1, 200, .inl ty)), (ad 11, .inl (G.2.1 1, 48, .inl to_)), (ad 12, .inl (G.2.1 1, 48, .inl dr))]) H locs := hW
          refine lv_aload_n gX gB dX6_person_77 rfl (lv_at hl 0 rfl) ?_
          refine lv_lload_n gX gB dX6_person_78 rfl (lv_at hl 2 rfl) ?_
          refine gx_putE C hW clX6 fX6_81 0 rfl (Or.inl rfl) rfl rfl (Nat.le_of_ble_eq_true rfl) dX6_person_79 (fun H locs hW => ?_)
          have hW : gx_W G A s ([(ad 0, .inr (11, [.int 0, .int (nI pn), .ref (ad 1), .ref (ad 2), .ref (ad 3), .ref (ad 4), .ref (ad 5), .int (nI fn), .ref (ad 6), .ref (ad 7), .int (nI dn), .ref (ad 8), .long x, .long y, .long eg, .int (nI cn), .ref (ad 9), .ref (ad 10), .int (nI sn), .int at0, .int fl, .int (nI tn), .ref (ad 11), .ref (ad 12)])), (ad 1, .inl (G.2.1 2, 16, .inr (.inl px))), (ad 2, .inl (G.2.1 2, 16, .inr (.inl py))), (ad 3, .inl (G.2.1 2, 16, .inr (.inl pz))), (ad 4, .inl (G.2.1 2, 16, .inr (.inl gr))), (ad 5, .inl (G.2.1 2, 16, .inr (.inl ou))), (ad 6, .inl (G.2.1 2, 12, .inr (.inl fx))), (ad 7, .inl (G.2.1 2, 12, .inr (.inl fy))), (ad 8, .inl (G.2.1 1, 8, .inl od)), (ad 9, .inl (G.2.1 1, 12, .inl cr)), (ad 10, .inl (G.2.1 1, 200, .inl ty)), (ad 11, .inl (G.2.1 1, 48, .inl to_)), (ad 12, .inl (G.2.1 1, 48, .inl dr))]) H locs := hW
          refine lv_aload_n gX gB dX6_person_82 rfl (lv_at hl 0 rfl) ?_
          refine lv_lload gX gB dX6_person_83 (lv_at hl 3 rfl) ?_
          refine gx_putE C hW clX6 fX6_84 0 rfl (Or.inl rfl) rfl rfl (Nat.le_of_ble_eq_true rfl) dX6_person_85 (fun H locs hW => ?_)
          have hW : gx_W G A s ([(ad 0, .inr (11, [.int 0, .int (nI pn), .ref (ad 1), .ref (ad 2), .ref (ad 3), .ref (ad 4), .ref (ad 5), .int (nI fn), .ref (ad 6), .ref (ad 7), .int (nI dn), .ref (ad 8), .long x, .long y, .long w, .int (nI cn), .ref (ad 9), .ref (ad 10), .int (nI sn), .int at0, .int fl, .int (nI tn), .ref (ad 11), .ref (ad 12)])), (ad 1, .inl (G.2.1 2, 16, .inr (.inl px))), (ad 2, .inl (G.2.1 2, 16, .inr (.inl py))), (ad 3, .inl (G.2.1 2, 16, .inr (.inl pz))), (ad 4, .inl (G.2.1 2, 16, .inr (.inl gr))), (ad 5, .inl (G.2.1 2, 16, .inr (.inl ou))), (ad 6, .inl (G.2.1 2, 12, .inr (.inl fx))), (ad 7, .inl (G.2.1 2, 12, .inr (.inl fy))), (ad 8, .inl (G.2.1 1, 8, .inl od)), (ad 9, .inl (G.2.1 1, 12, .inl cr)), (ad 10, .inl (G.2.1 1, 200, .inl ty)), (ad 11, .inl (G.2.1 1, 48, .inl to_)), (ad 12, .inl (G.2.1 1, 48, .inl dr))]) H locs := hW
          refine lv_iconst (v := 1) gX gB dX6_person_88 (by decide) ?_
          exact gx_zret C hr (by decide) hW (Or.inl ⟨pe_0 ⟨gx_b1.mp c5, gx_b1.mp c12, gx_b1.mp c24⟩, Or.inr ⟨rfl, fun zz => c47 zz.1, rfl⟩⟩) (Nat.le_of_ble_eq_true rfl) (Nat.le_of_ble_eq_true rfl) dX6_person_89
        · refine lv_lload_n gX gB dX6_person_51 rfl (lv_at hl 2 rfl) ?_
          refine lv_aload_n gX gB dX6_person_52 rfl (lv_at hl 0 rfl) ?_
          refine gx_get C hW fX6_81 ⟨0, rfl⟩ rfl dX6_person_53 ?_
          refine gx_lc_ne (tgt := 72) C dX6_person_56 dX6_person_57 (by decide) (fun c56 => ?_) (fun c56 => ?_)
          · refine lv_aload_n gX gB dX6_person_72 rfl (lv_at hl 0 rfl) ?_
            refine lv_lload_n gX gB dX6_person_73 rfl (lv_at hl 1 rfl) ?_
            refine gx_putE C hW clX6 fX6_77 0 rfl (Or.inl rfl) rfl rfl (Nat.le_of_ble_eq_true rfl) dX6_person_74 (fun H locs hW => ?_)
            have hW : gx_W G A s ([(ad 0, .inr (11, [.int 0, .int (nI pn), .ref (ad 1), .ref (ad 2), .ref (ad 3), .ref (ad 4), .ref (ad 5), .int (nI fn), .ref (ad 6), .ref (ad 7), .int (nI dn), .ref (ad 8), .long x, .long ey, .long eg, .int (nI cn), .ref (ad 9), .ref (ad 10), .int (nI sn), .int at0, .int fl, .int (nI tn), .ref (ad 11), .ref (ad 12)])), (ad 1, .inl (G.2.1 2, 16, .inr (.inl px))), (ad 2, .inl (G.2.1 2, 16, .inr (.inl py))), (ad 3, .inl (G.2.1 2, 16, .inr (.inl pz))), (ad 4, .inl (G.2.1 2, 16, .inr (.inl gr))), (ad 5, .inl (G.2.1 2, 16, .inr (.inl ou))), (ad 6, .inl (G.2.1 2, 12, .inr (.inl fx))), (ad 7, .inl (G.2.1 2, 12, .inr (.inl fy))), (ad 8, .inl (G.2.1 1, 8, .inl od)), (ad 9, .inl (G.2.1 1, 12, .inl cr)), (ad 10, .inl (G.2.1 1, 200, .inl ty)), (ad 11, .inl (G.2.1 1, 48, .inl to_)), (ad 12, .inl (G.2.1 1, 48, .inl dr))]) H locs := hW
            refine lv_aload_n gX gB dX6_person_77 rfl (lv_at hl 0 rfl) ?_
            refine lv_lload_n gX gB dX6_person_78 rfl (lv_at hl 2 rfl) ?_
            refine gx_putE C hW clX6 fX6_81 0 rfl (Or.inl rfl) rfl rfl (Nat.le_of_ble_eq_true rfl) dX6_person_79 (fun H locs hW => ?_)
            have hW : gx_W G A s ([(ad 0, .inr (11, [.int 0, .int (nI pn), .ref (ad 1), .ref (ad 2), .ref (ad 3), .ref (ad 4), .ref (ad 5), .int (nI fn), .ref (ad 6), .ref (ad 7), .int (nI dn), .ref (ad 8), .long x, .long y, .long eg, .int (nI cn), .ref (ad 9), .ref (ad 10), .int (nI sn), .int at0, .int fl, .int (nI tn), .ref (ad 11), .ref (ad 12)])), (ad 1, .inl (G.2.1 2, 16, .inr (.inl px))), (ad 2, .inl (G.2.1 2, 16, .inr (.inl py))), (ad 3, .inl (G.2.1 2, 16, .inr (.inl pz))), (ad 4, .inl (G.2.1 2, 16, .inr (.inl gr))), (ad 5, .inl (G.2.1 2, 16, .inr (.inl ou))), (ad 6, .inl (G.2.1 2, 12, .inr (.inl fx))), (ad 7, .inl (G.2.1 2, 12, .inr (.inl fy))), (ad 8, .inl (G.2.1 1, 8, .inl od)), (ad 9, .inl (G.2.1 1, 12, .inl cr)), (ad 10, .inl (G.2.1 1, 200, .inl ty)), (ad 11, .inl (G.2.1 1, 48, .inl to_)), (ad 12, .inl (G.2.1 1, 48, .inl dr))]) H locs := hW
            refine lv_aload_n gX gB dX6_person_82 rfl (lv_at hl 0 rfl) ?_
            refine lv_lload gX gB dX6_person_83 (lv_at hl 3 rfl) ?_
            refine gx_putE C hW clX6 fX6_84 0 rfl (Or.inl rfl) rfl rfl (Nat.le_of_ble_eq_true rfl) dX6_person_85 (fun H locs hW => ?_)
            have hW : gx_W G A s ([(ad 0, .inr (11, [.int 0, .int (nI pn), .ref (ad 1), .ref (ad 2), .ref (ad 3), .ref (ad 4), .ref (ad 5), .int (nI fn), .ref (ad 6), .ref (ad 7), .int (nI dn), .ref (ad 8), .long x, .long y, .long w, .int (nI cn), .ref (ad 9), .ref (ad 10), .int (nI sn), .int at0, .int fl, .int (nI tn), .ref (ad 11), .ref (ad 12)])), (ad 1, .inl (G.2.1 2, 16, .inr (.inl px))), (ad 2, .inl (G.2.1 2, 16, .inr (.inl py))), (ad 3, .inl (G.2.1 2, 16, .inr (.inl pz))), (ad 4, .inl (G.2.1 2, 16, .inr (.inl gr))), (ad 5, .inl (G.2.1 2, 16, .inr (.inl ou))), (ad 6, .inl (G.2.1 2, 12, .inr (.inl fx))), (ad 7, .inl (G.2.1 2, 12, .inr (.inl fy))), (ad 8, .inl (G.2.1 1, 8, .inl od)), (ad 9, .inl (G.2.1 1, 12, .inl cr)), (ad 10, .inl (G.2.1 1, 200, .inl ty)), (ad 11, .inl (G.2.1 1, 48, .inl to_)), (ad 12, .inl (G.2.1 1, 48, .inl dr))]) H locs := hW
            refine lv_iconst (v := 1) gX gB dX6_person_88 (by decide) ?_
            exact gx_zret C hr (by decide) hW (Or.inl ⟨pe_0 ⟨gx_b1.mp c5, gx_b1.mp c12, gx_b1.mp c24⟩, Or.inr ⟨rfl, fun zz => c56 zz.2.1, rfl⟩⟩) (Nat.le_of_ble_eq_true rfl) (Nat.le_of_ble_eq_true rfl) dX6_person_89
          · refine lv_lload gX gB dX6_person_60 (lv_at hl 3 rfl) ?_
            refine lv_aload_n gX gB dX6_person_62 rfl (lv_at hl 0 rfl) ?_
            refine gx_get C hW fX6_84 ⟨0, rfl⟩ rfl dX6_person_63 ?_
            refine gx_lc_ne (tgt := 72) C dX6_person_66 dX6_person_67 (by decide) (fun c66 => ?_) (fun c66 => ?_)
            · refine lv_aload_n gX gB dX6_person_72 rfl (lv_at hl 0 rfl) ?_
              refine lv_lload_n gX gB dX6_person_73 rfl (lv_at hl 1 rfl) ?_
              refine gx_putE C hW clX6 fX6_77 0 rfl (Or.inl rfl) rfl rfl (Nat.le_of_ble_eq_true rfl) dX6_person_74 (fun H locs hW => ?_)
              have hW : gx_W G A s ([(ad 0, .inr (11, [.int 0, .int (nI pn), .ref (ad 1), .ref (ad 2), .ref (ad 3), .ref (ad 4), .ref (ad 5), .int (nI fn), .ref (ad 6), .ref (ad 7), .int (nI dn), .ref (ad 8), .long x, .long ey, .long eg, .int (nI cn), .ref (ad 9), .ref (ad 10), .int (nI sn), .int at0, .int fl, .int (nI tn), .ref (ad 11), .ref (ad 12)])), (ad 1, .inl (G.2.1 2, 16, .inr (.inl px))), (ad 2, .inl (G.2.1 2, 16, .inr (.inl py))), (ad 3, .inl (G.2.1 2, 16, .inr (.inl pz))), (ad 4, .inl (G.2.1 2, 16, .inr (.inl gr))), (ad 5, .inl (G.2.1 2, 16, .inr (.inl ou))), (ad 6, .inl (G.2.1 2, 12, .inr (.inl fx))), (ad 7, .inl (G.2.1 2, 12, .inr (.inl fy))), (ad 8, .inl (G.2.1 1, 8, .inl od)), (ad 9, .inl (G.2.1 1, 12, .inl cr)), (ad 10, .inl (G.2.1 1, 200, .inl ty)), (ad 11, .inl (G.2.1 1, 48, .inl to_)), (ad 12, .inl (G.2.1 1, 48, .inl dr))]) H locs := hW
              refine lv_aload_n gX gB dX6_person_77 rfl (lv_at hl 0 rfl) ?_
              refine lv_lload_n gX gB dX6_person_78 rfl (lv_at hl 2 rfl) ?_
              refine gx_putE C hW clX6 fX6_81 0 rfl (Or.inl rfl) rfl rfl (Nat.le_of_ble_eq_true rfl) dX6_person_79 (fun H locs hW => ?_)
              have hW : gx_W G A s ([(ad 0, .inr (11, [.int 0, .int (nI pn), .ref (ad 1), .ref (ad 2), .ref (ad 3), .ref (ad 4), .ref (ad 5), .int (nI fn), .ref (ad 6), .ref (ad 7), .int (nI dn), .ref (ad 8), .long x, .long y, .long eg, .int (nI cn), .ref (ad 9), .ref (ad 10), .int (nI sn), .int at0, .int fl, .int (nI tn), .ref (ad 11), .ref (ad 12)])), (ad 1, .inl (G.2.1 2, 16, .inr (.inl px))), (ad 2, .inl (G.2.1 2, 16, .inr (.inl py))), (ad 3, .inl (G.2.1 2, 16, .inr (.inl pz))), (ad 4, .inl (G.2.1 2, 16, .inr (.inl gr))), (ad 5, .inl (G.2.1 2, 16, .inr (.inl ou))), (ad 6, .inl (G.2.1 2, 12, .inr (.inl fx))), (ad 7, .inl (G.2.1 2, 12, .inr (.inl fy))), (ad 8, .inl (G.2.1 1, 8, .inl od)), (ad 9, .inl (G.2.1 1, 12, .inl cr)), (ad 10, .inl (G.2.1 1, 200, .inl ty)), (ad 11, .inl (G.2.1 1, 48, .inl to_)), (ad 12, .inl (G.2.1 1, 48, .inl dr))]) H locs := hW
              refine lv_aload_n gX gB dX6_person_82 rfl (lv_at hl 0 rfl) ?_
              refine lv_lload gX gB dX6_person_83 (lv_at hl 3 rfl) ?_
              refine gx_putE C hW clX6 fX6_84 0 rfl (Or.inl rfl) rfl rfl (Nat.le_of_ble_eq_true rfl) dX6_person_85 (fun H locs hW => ?_)
              have hW : gx_W G A s ([(ad 0, .inr (11, [.int 0, .int (nI pn), .ref (ad 1), .ref (ad 2), .ref (ad 3), .ref (ad 4), .ref (ad 5), .int (nI fn), .ref (ad 6), .ref (ad 7), .int (nI dn), .ref (ad 8), .long x, .long y, .long w, .int (nI cn), .ref (ad 9), .ref (ad 10), .int (nI sn), .int at0, .int fl, .int (nI tn), .ref (ad 11), .ref (ad 12)])), (ad 1, .inl (G.2.1 2, 16, .inr (.inl px))), (ad 2, .inl (G.2.1 2, 16, .inr (.inl py))), (ad 3, .inl (G.2.1 2, 16, .inr (.inl pz))), (ad 4, .inl (G.2.1 2, 16, .inr (.inl gr))), (ad 5, .inl (G.2.1 2, 16, .inr (.inl ou))), (ad 6, .inl (G.2.1 2, 12, .inr (.inl fx))), (ad 7, .inl (G.2.1 2, 12, .inr (.inl fy))), (ad 8, .inl (G.2.1 1, 8, .inl od)), (ad 9, .inl (G.2.1 1, 12, .inl cr)), (ad 10, .inl (G.2.1 1, 200, .inl ty)), (ad 11, .inl (G.2.1 1, 48, .inl to_)), (ad 12, .inl (G.2.1 1, 48, .inl dr))]) H locs := hW
              refine lv_iconst (v := 1) gX gB dX6_person_88 (by decide) ?_
              exact gx_zret C hr (by decide) hW (Or.inl ⟨pe_0 ⟨gx_b1.mp c5, gx_b1.mp c12, gx_b1.mp c24⟩, Or.inr ⟨rfl, fun zz => c66 zz.2.2, rfl⟩⟩) (Nat.le_of_ble_eq_true rfl) (Nat.le_of_ble_eq_true rfl) dX6_person_89
            · refine lv_iconst (v := 0) gX gB dX6_person_70 (by decide) ?_
              exact gx_zret C hr (by decide) hW (Or.inl ⟨pe_0 ⟨gx_b1.mp c5, gx_b1.mp c12, gx_b1.mp c24⟩, Or.inl ⟨rfl, ⟨c47, c56, c66⟩, rfl⟩⟩) (Nat.le_of_ble_eq_true rfl) (Nat.le_of_ble_eq_true rfl) dX6_person_71
