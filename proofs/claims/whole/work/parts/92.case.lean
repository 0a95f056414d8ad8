/-! THE LAW: foot. -/
set_option maxHeartbeats 4000000 in
set_option maxRecDepth 100000 in
theorem kX6_footB (l : Launch) (G : gx_T) (ad : Nat → Nat) (cd : Int32) (pn fn dn cn sn tn : Nat) (ex ey eg : Int64) (at0 fl : Int32) (px py pz gr ou fx fy : Nat → Int64) (od cr ty to_ dr : Nat → Int32) (hfn : fn ≤ 12) (x y : Int64) (nx : Nat → Nat) (N0 : Nat) (hwd : pl_ok x ∧ pl_ok y → fn < 12 → wd_ok (vp_updL fx fn x) (vp_updL fy fn y) (fn + 1) nx N0) : gx_M l G yX6_foot cX6_foot 5 (some .boolean) ({ frames := 4, cells := 0, slots := 0, locals := 101 } : Room) [.ref (ad 0), .long x, .long y] ([(ad 0, .inr (11, [.int cd, .int (nI pn), .ref (ad 1), .ref (ad 2), .ref (ad 3), .ref (ad 4), .ref (ad 5), .int (nI fn), .ref (ad 6), .ref (ad 7), .int (nI dn), .ref (ad 8), .long ex, .long ey, .long eg, .int (nI cn), .ref (ad 9), .ref (ad 10), .int (nI sn), .int at0, .int fl, .int (nI tn), .ref (ad 11), .ref (ad 12)])), (ad 1, .inl (G.2.1 2, 16, .inr (.inl px))), (ad 2, .inl (G.2.1 2, 16, .inr (.inl py))), (ad 3, .inl (G.2.1 2, 16, .inr (.inl pz))), (ad 4, .inl (G.2.1 2, 16, .inr (.inl gr))), (ad 5, .inl (G.2.1 2, 16, .inr (.inl ou))), (ad 6, .inl (G.2.1 2, 12, .inr (.inl fx))), (ad 7, .inl (G.2.1 2, 12, .inr (.inl fy))), (ad 8, .inl (G.2.1 1, 8, .inl od)), (ad 9, .inl (G.2.1 1, 12, .inl cr)), (ad 10, .inl (G.2.1 1, 200, .inl ty)), (ad 11, .inl (G.2.1 1, 48, .inl to_)), (ad 12, .inl (G.2.1 1, 48, .inl dr))]) (fun v u => (fo_code x y = 0 ∧ ((fn = 12 ∧ v = some (.int 0) ∧ u = [(ad 0, .inr (11, [.int 0, .int (nI pn), .ref (ad 1), .ref (ad 2), .ref (ad 3), .ref (ad 4), .ref (ad 5), .int (nI fn), .ref (ad 6), .ref (ad 7), .int (nI dn), .ref (ad 8), .long ex, .long ey, .long eg, .int (nI cn), .ref (ad 9), .ref (ad 10), .int (nI sn), .int at0, .int fl, .int (nI tn), .ref (ad 11), .ref (ad 12)])), (ad 1, .inl (G.2.1 2, 16, .inr (.inl px))), (ad 2, .inl (G.2.1 2, 16, .inr (.inl py))), (ad 3, .inl (G.2.1 2, 16, .inr (.inl pz))), (ad 4, .inl (G.2.1 2, 16, .inr (.inl gr))), (ad 5, .inl (G.2.1 2, 16, .inr (.inl ou))), (ad 6, .inl (G.2.1 2, 12, .inr (.inl fx))), (ad 7, .inl (G.2.1 2, 12, .inr (.inl fy))), (ad 8, .inl (G.2.1 1, 8, .inl od)), (ad 9, .inl (G.2.1 1, 12, .inl cr)), (ad 10, .inl (G.2.1 1, 200, .inl ty)), (ad 11, .inl (G.2.1 1, 48, .inl to_)), (ad 12, .inl (G.2.1 1, 48, .inl dr))]) ∨ (fn < 12 ∧ v = some (.int 1) ∧ ∃ cr1 : Nat → Int32, (∀ z, z < N0 → cr1 z = nI (nx_it nx (fi_at (vp_updL fx fn x) (vp_updL fy fn y) (fn + 1)) z)) ∧ u = [(ad 0, .inr (11, [.int 0, .int (nI pn), .ref (ad 1), .ref (ad 2), .ref (ad 3), .ref (ad 4), .ref (ad 5), .int (nI (fn + 1)), .ref (ad 6), .ref (ad 7), .int (nI dn), .ref (ad 8), .long ex, .long ey, .long eg, .int (nI N0), .ref (ad 9), .ref (ad 10), .int (nI sn), .int at0, .int fl, .int (nI tn), .ref (ad 11), .ref (ad 12)])), (ad 1, .inl (G.2.1 2, 16, .inr (.inl px))), (ad 2, .inl (G.2.1 2, 16, .inr (.inl py))), (ad 3, .inl (G.2.1 2, 16, .inr (.inl pz))), (ad 4, .inl (G.2.1 2, 16, .inr (.inl gr))), (ad 5, .inl (G.2.1 2, 16, .inr (.inl ou))), (ad 6, .inl (G.2.1 2, 12, .inr (.inl (vp_updL fx fn x)))), (ad 7, .inl (G.2.1 2, 12, .inr (.inl (vp_updL fy fn y)))), (ad 8, .inl (G.2.1 1, 8, .inl od)), (ad 9, .inl (G.2.1 1, 12, .inl cr1)), (ad 10, .inl (G.2.1 1, 200, .inl ty)), (ad 11, .inl (G.2.1 1, 48, .inl to_)), (ad 12, .inl (G.2.1 1, 48, .inl dr))]))) ∨ (fo_code x y = 1 ∧ v = some (.int 0) ∧ u = [(ad 0, .inr (11, [.int 1, .int (nI pn), .ref (ad 1), .ref (ad 2), .ref (ad 3), .ref (ad 4), .ref (ad 5), .int (nI fn), .ref (ad 6), .ref (ad 7), .int (nI dn), .ref (ad 8), .long ex, .long ey, .long eg, .int (nI cn), .ref (ad 9), .ref (ad 10), .int (nI sn), .int at0, .int fl, .int (nI tn), .ref (ad 11), .ref (ad 12)])), (ad 1, .inl (G.2.1 2, 16, .inr (.inl px))), (ad 2, .inl (G.2.1 2, 16, .inr (.inl py))), (ad 3, .inl (G.2.1 2, 16, .inr (.inl pz))), (ad 4, .inl (G.2.1 2, 16, .inr (.inl gr))), (ad 5, .inl (G.2.1 2, 16, .inr (.inl ou))), (ad 6, .inl (G.2.1 2, 12, .inr (.inl fx))), (ad 7, .inl (G.2.1 2, 12, .inr (.inl fy))), (ad 8, .inl (G.2.1 1, 8, .inl od)), (ad 9, .inl (G.2.1 1, 12, .inl cr)), (ad 10, .inl (G.2.1 1, 200, .inl ty)), (ad 11, .inl (G.2.1 1, 48, .inl to_)), (ad 12, .inl (G.2.1 1, 48, .inl dr))])) := by
  refine gx_start (by decide +kernel) (Nat.le_of_ble_eq_true rfl) ?_
  intro p e s m args below meth c A ls C hr hnm hW hl
  have gX := C.x
  have gB := C.b
  have hl : lv_has ls 5 [(0, .ref (ad 0)), (1, .long x), (3, .long y)] := hl
  refine lv_aload_n gX gB dX6_foot_0 rfl (lv_at hl 0 rfl) ?_
  refine lv_lload_n gX gB dX6_foot_1 rfl (lv_at hl 1 rfl) ?_
  refine gx_callS (wr := []) (rest := [.ref (ad 0)]) C hW sX6_55 (kX6_isPlace l G ([(ad 0, .inr (11, [.int cd, .int (nI pn), .ref (ad 1), .ref (ad 2), .ref (ad 3), .ref (ad 4), .ref (ad 5), .int (nI fn), .ref (ad 6), .ref (ad 7), .int (nI dn), .ref (ad 8), .long ex, .long ey, .long eg, .int (nI cn), .ref (ad 9), .ref (ad 10), .int (nI sn), .int at0, .int fl, .int (nI tn), .ref (ad 11), .ref (ad 12)])), (ad 1, .inl (G.2.1 2, 16, .inr (.inl px))), (ad 2, .inl (G.2.1 2, 16, .inr (.inl py))), (ad 3, .inl (G.2.1 2, 16, .inr (.inl pz))), (ad 4, .inl (G.2.1 2, 16, .inr (.inl gr))), (ad 5, .inl (G.2.1 2, 16, .inr (.inl ou))), (ad 6, .inl (G.2.1 2, 12, .inr (.inl fx))), (ad 7, .inl (G.2.1 2, 12, .inr (.inl fy))), (ad 8, .inl (G.2.1 1, 8, .inl od)), (ad 9, .inl (G.2.1 1, 12, .inl cr)), (ad 10, .inl (G.2.1 1, 200, .inl ty)), (ad 11, .inl (G.2.1 1, 48, .inl to_)), (ad 12, .inl (G.2.1 1, 48, .inl dr))]) x) rfl ⟨(Nat.le_of_ble_eq_true rfl), (Nat.le_of_ble_eq_true rfl)⟩ hl.1 rfl (Nat.le_of_ble_eq_true rfl) dX6_foot_2 ⟨(Nat.le_of_ble_eq_true rfl), (Nat.le_of_ble_eq_true rfl)⟩ (fun v9 u9 H locs hp hW => ?_)
  obtain ⟨rfl, hu⟩ := hp
  rw [hu] at hW
  have hW : gx_W G A s ([(ad 0, .inr (11, [.int cd, .int (nI pn), .ref (ad 1), .ref (ad 2), .ref (ad 3), .ref (ad 4), .ref (ad 5), .int (nI fn), .ref (ad 6), .ref (ad 7), .int (nI dn), .ref (ad 8), .long ex, .long ey, .long eg, .int (nI cn), .ref (ad 9), .ref (ad 10), .int (nI sn), .int at0, .int fl, .int (nI tn), .ref (ad 11), .ref (ad 12)])), (ad 1, .inl (G.2.1 2, 16, .inr (.inl px))), (ad 2, .inl (G.2.1 2, 16, .inr (.inl py))), (ad 3, .inl (G.2.1 2, 16, .inr (.inl pz))), (ad 4, .inl (G.2.1 2, 16, .inr (.inl gr))), (ad 5, .inl (G.2.1 2, 16, .inr (.inl ou))), (ad 6, .inl (G.2.1 2, 12, .inr (.inl fx))), (ad 7, .inl (G.2.1 2, 12, .inr (.inl fy))), (ad 8, .inl (G.2.1 1, 8, .inl od)), (ad 9, .inl (G.2.1 1, 12, .inl cr)), (ad 10, .inl (G.2.1 1, 200, .inl ty)), (ad 11, .inl (G.2.1 1, 48, .inl to_)), (ad 12, .inl (G.2.1 1, 48, .inl dr))]) H locs := hW
  refine W.eq (g2 := F0 m 5 ls [.int (gx_b (pl_ok x)), .ref (ad 0)]) rfl ?_
  refine W.widen (k := 0) (n := 0) (Nat.le_of_ble_eq_true rfl) (Nat.le_of_ble_eq_true rfl) ?_
  refine lv_if_eq (tgt := 19) gX gB dX6_foot_5 (by decide) (fun c5 => ?_) (fun c5 => ?_)
  · refine lv_iconst (v := 1) gX gB dX6_foot_19 (by decide) ?_
    refine gx_putE C hW clX6 fX6_47 0 rfl (Or.inl rfl) rfl rfl (Nat.le_of_ble_eq_true rfl) dX6_foot_20 (fun H locs hW => ?_)
    have hW : gx_W G A s ([(ad 0, .inr (11, [.int 1, .int (nI pn), .ref (ad 1), .ref (ad 2), .ref (ad 3), .ref (ad 4), .ref (ad 5), .int (nI fn), .ref (ad 6), .ref (ad 7), .int (nI dn), .ref (ad 8), .long ex, .long ey, .long eg, .int (nI cn), .ref (ad 9), .ref (ad 10), .int (nI sn), .int at0, .int fl, .int (nI tn), .ref (ad 11), .ref (ad 12)])), (ad 1, .inl (G.2.1 2, 16, .inr (.inl px))), (ad 2, .inl (G.2.1 2, 16, .inr (.inl py))), (ad 3, .inl (G.2.1 2, 16, .inr (.inl pz))), (ad 4, .inl (G.2.1 2, 16, .inr (.inl gr))), (ad 5, .inl (G.2.1 2, 16, .inr (.inl ou))), (ad 6, .inl (G.2.1 2, 12, .inr (.inl fx))), (ad 7, .inl (G.2.1 2, 12, .inr (.inl fy))), (ad 8, .inl (G.2.1 1, 8, .inl od)), (ad 9, .inl (G.2.1 1, 12, .inl cr)), (ad 10, .inl (G.2.1 1, 200, .inl ty)), (ad 11, .inl (G.2.1 1, 48, .inl to_)), (ad 12, .inl (G.2.1 1, 48, .inl dr))]) H locs := hW
    refine lv_aload_n gX gB dX6_foot_23 rfl (lv_at hl 0 rfl) ?_
    refine gx_get C hW fX6_47 ⟨0, rfl⟩ rfl dX6_foot_24 ?_
    refine lv_if_gt (tgt := 39) gX gB dX6_foot_27 (by decide) (fun _ => ?_) (fun h9 => absurd (show (0 : Int32) < 1 from by decide) h9)
    refine lv_iconst (v := 0) gX gB dX6_foot_39 (by decide) ?_
    exact gx_zret C hr (by decide) hW (Or.inr ⟨by rw [fo_1 (fun zz => gx_b0.mp c5 zz.1)], rfl, rfl⟩) (Nat.le_of_ble_eq_true rfl) (Nat.le_of_ble_eq_true rfl) dX6_foot_40
  · refine lv_lload_n gX gB dX6_foot_8 rfl (lv_at hl 2 rfl) ?_
    refine gx_callS (wr := []) (rest := [.ref (ad 0)]) C hW sX6_55 (kX6_isPlace l G ([(ad 0, .inr (11, [.int cd, .int (nI pn), .ref (ad 1), .ref (ad 2), .ref (ad 3), .ref (ad 4), .ref (ad 5), .int (nI fn), .ref (ad 6), .ref (ad 7), .int (nI dn), .ref (ad 8), .long ex, .long ey, .long eg, .int (nI cn), .ref (ad 9), .ref (ad 10), .int (nI sn), .int at0, .int fl, .int (nI tn), .ref (ad 11), .ref (ad 12)])), (ad 1, .inl (G.2.1 2, 16, .inr (.inl px))), (ad 2, .inl (G.2.1 2, 16, .inr (.inl py))), (ad 3, .inl (G.2.1 2, 16, .inr (.inl pz))), (ad 4, .inl (G.2.1 2, 16, .inr (.inl gr))), (ad 5, .inl (G.2.1 2, 16, .inr (.inl ou))), (ad 6, .inl (G.2.1 2, 12, .inr (.inl fx))), (ad 7, .inl (G.2.1 2, 12, .inr (.inl fy))), (ad 8, .inl (G.2.1 1, 8, .inl od)), (ad 9, .inl (G.2.1 1, 12, .inl cr)), (ad 10, .inl (G.2.1 1, 200, .inl ty)), (ad 11, .inl (G.2.1 1, 48, .inl to_)), (ad 12, .inl (G.2.1 1, 48, .inl dr))]) y) rfl ⟨(Nat.le_of_ble_eq_true rfl), (Nat.le_of_ble_eq_true rfl)⟩ hl.1 rfl (Nat.le_of_ble_eq_true rfl) dX6_foot_9 ⟨(Nat.le_of_ble_eq_true rfl), (Nat.le_of_ble_eq_true rfl)⟩ (fun v9 u9 H locs hp hW => ?_)
    obtain ⟨rfl, hu⟩ := hp
    rw [hu] at hW
    have hW : gx_W G A s ([(ad 0, .inr (11, [.int cd, .int (nI pn), .ref (ad 1), .ref (ad 2), .ref (ad 3), .ref (ad 4), .ref (ad 5), .int (nI fn), .ref (ad 6), .ref (ad 7), .int (nI dn), .ref (ad 8), .long ex, .long ey, .long eg, .int (nI cn), .ref (ad 9), .ref (ad 10), .int (nI sn), .int at0, .int fl, .int (nI tn), .ref (ad 11), .ref (ad 12)])), (ad 1, .inl (G.2.1 2, 16, .inr (.inl px))), (ad 2, .inl (G.2.1 2, 16, .inr (.inl py))), (ad 3, .inl (G.2.1 2, 16, .inr (.inl pz))), (ad 4, .inl (G.2.1 2, 16, .inr (.inl gr))), (ad 5, .inl (G.2.1 2, 16, .inr (.inl ou))), (ad 6, .inl (G.2.1 2, 12, .inr (.inl fx))), (ad 7, .inl (G.2.1 2, 12, .inr (.inl fy))), (ad 8, .inl (G.2.1 1, 8, .inl od)), (ad 9, .inl (G.2.1 1, 12, .inl cr)), (ad 10, .inl (G.2.1 1, 200, .inl ty)), (ad 11, .inl (G.2.1 1, 48, .inl to_)), (ad 12, .inl (G.2.1 1, 48, .inl dr))]) H locs := hW
    refine W.eq (g2 := F0 m 12 ls [.int (gx_b (pl_ok y)), .ref (ad 0)]) rfl ?_
    refine W.widen (k := 0) (n := 0) (Nat.le_of_ble_eq_true rfl) (Nat.le_of_ble_eq_true rfl) ?_
    refine lv_if_eq (tgt := 19) gX gB dX6_foot_12 (by decide) (fun c12 => ?_) (fun c12 => ?_)
    · refine lv_iconst (v := 1) gX gB dX6_foot_19 (by decide) ?_
      refine gx_putE C hW clX6 fX6_47 0 rfl (Or.inl rfl) rfl rfl (Nat.le_of_ble_eq_true rfl) dX6_foot_20 (fun H locs hW => ?_)
      have hW : gx_W G A s ([(ad 0, .inr (11, [.int 1, .int (nI pn), .ref (ad 1), .ref (ad 2), .ref (ad 3), .ref (ad 4), .ref (ad 5), .int (nI fn), .ref (ad 6), .ref (ad 7), .int (nI dn), .ref (ad 8), .long ex, .long ey, .long eg, .int (nI cn), .ref (ad 9), .ref (ad 10), .int (nI sn), .int at0, .int fl, .int (nI tn), .ref (ad 11), .ref (ad 12)])), (ad 1, .inl (G.2.1 2, 16, .inr (.inl px))), (ad 2, .inl (G.2.1 2, 16, .inr (.inl py))), (ad 3, .inl (G.2.1 2, 16, .inr (.inl pz))), (ad 4, .inl (G.2.1 2, 16, .inr (.inl gr))), (ad 5, .inl (G.2.1 2, 16, .inr (.inl ou))), (ad 6, .inl (G.2.1 2, 12, .inr (.inl fx))), (ad 7, .inl (G.2.1 2, 12, .inr (.inl fy))), (ad 8, .inl (G.2.1 1, 8, .inl od)), (ad 9, .inl (G.2.1 1, 12, .inl cr)), (ad 10, .inl (G.2.1 1, 200, .inl ty)), (ad 11, .inl (G.2.1 1, 48, .inl to_)), (ad 12, .inl (G.2.1 1, 48, .inl dr))]) H locs := hW
      refine lv_aload_n gX gB dX6_foot_23 rfl (lv_at hl 0 rfl) ?_
      refine gx_get C hW fX6_47 ⟨0, rfl⟩ rfl dX6_foot_24 ?_
      refine lv_if_gt (tgt := 39) gX gB dX6_foot_27 (by decide) (fun _ => ?_) (fun h9 => absurd (show (0 : Int32) < 1 from by decide) h9)
      refine lv_iconst (v := 0) gX gB dX6_foot_39 (by decide) ?_
      exact gx_zret C hr (by decide) hW (Or.inr ⟨by rw [fo_1 (fun zz => gx_b0.mp c12 zz.2)], rfl, rfl⟩) (Nat.le_of_ble_eq_true rfl) (Nat.le_of_ble_eq_true rfl) dX6_foot_40
    · refine lv_iconst (v := 0) gX gB dX6_foot_15 (by decide) ?_
      refine lv_goto (tgt := 20) gX gB dX6_foot_16 (by decide) ?_
      refine gx_putE C hW clX6 fX6_47 0 rfl (Or.inl rfl) rfl rfl (Nat.le_of_ble_eq_true rfl) dX6_foot_20 (fun H locs hW => ?_)
      have hW : gx_W G A s ([(ad 0, .inr (11, [.int 0, .int (nI pn), .ref (ad 1), .ref (ad 2), .ref (ad 3), .ref (ad 4), .ref (ad 5), .int (nI fn), .ref (ad 6), .ref (ad 7), .int (nI dn), .ref (ad 8), .long ex, .long ey, .long eg, .int (nI cn), .ref (ad 9), .ref (ad 10), .int (nI sn), .int at0, .int fl, .int (nI tn), .ref (ad 11), .ref (ad 12)])), (ad 1, .inl (G.2.1 2, 16, .inr (.inl px))), (ad 2, .inl (G.2.1 2, 16, .inr (.inl py))), (ad 3, .inl (G.2.1 2, 16, .inr (.inl pz))), (ad 4, .inl (G.2.1 2, 16, .inr (.inl gr))), (ad 5, .inl (G.2.1 2, 16, .inr (.inl ou))), (ad 6, .inl (G.2.1 2, 12, .inr (.inl fx))), (ad 7, .inl (G.2.1 2, 12, .inr (.inl fy))), (ad 8, .inl (G.2.1 1, 8, .inl od)), (ad 9, .inl (G.2.1 1, 12, .inl cr)), (ad 10, .inl (G.2.1 1, 200, .inl ty)), (ad 11, .inl (G.2.1 1, 48, .inl to_)), (ad 12, .inl (G.2.1 1, 48, .inl dr))]) H locs := hW
      refine lv_aload_n gX gB dX6_foot_23 rfl (lv_at hl 0 rfl) ?_
      refine gx_get C hW fX6_47 ⟨0, rfl⟩ rfl dX6_foot_24 ?_
      refine lv_if_gt (tgt := 39) gX gB dX6_foot_27 (by decide) (fun h9 => absurd (show (0 : Int32) < 0 from h9) (by decide)) (fun _ => ?_)
      refine lv_aload_n gX gB dX6_foot_30 rfl (lv_at hl 0 rfl) ?_
      refine gx_get C hW fX6_68 ⟨0, rfl⟩ rfl dX6_foot_31 ?_
      refine lv_bipush (v := 12) gX gB dX6_foot_34 (by decide) ?_
      rcases (by omega : fn = 12 ∨ fn < 12) with hf12 | hf12
      · refine lv_icmp_ne (tgt := 41) gX gB dX6_foot_36 (by decide) (fun h9 => absurd (show ¬ (nI fn) = (12 : Int32) from h9) (fun zz => zz (congrArg nI hf12))) (fun _ => ?_)
        refine lv_iconst (v := 0) gX gB dX6_foot_39 (by decide) ?_
        exact gx_zret C hr (by decide) hW (Or.inl ⟨fo_0 ⟨gx_b1.mp c5, gx_b1.mp c12⟩, Or.inl ⟨hf12, rfl, rfl⟩⟩) (Nat.le_of_ble_eq_true rfl) (Nat.le_of_ble_eq_true rfl) dX6_foot_40
      · have hok : pl_ok x ∧ pl_ok y := ⟨gx_b1.mp c5, gx_b1.mp c12⟩
        refine lv_icmp_ne (tgt := 41) gX gB dX6_foot_36 (by decide) (fun _ => ?_) (fun h9 => absurd h9 (show ¬ (nI fn) = (12 : Int32) from fun zz => absurd ((nI_eq (b := 12) (by omega) (by decide)).mp zz) (by omega)))
        refine lv_aload_n gX gB dX6_foot_41 rfl (lv_at hl 0 rfl) ?_
        refine gx_get C hW fX6_25 ⟨0, rfl⟩ rfl dX6_foot_42 ?_
        refine lv_aload_n gX gB dX6_foot_45 rfl (lv_at hl 0 rfl) ?_
        refine gx_get C hW fX6_68 ⟨0, rfl⟩ rfl dX6_foot_46 ?_
        refine lv_lload_n gX gB dX6_foot_49 rfl (lv_at hl 1 rfl) ?_
        refine gx_lastE C hW 6 (j := fn) rfl rfl (by omega) (by decide) dX6_foot_50 (fun H locs hW => ?_)
        have hW : gx_W G A s ([(ad 0, .inr (11, [.int 0, .int (nI pn), .ref (ad 1), .ref (ad 2), .ref (ad 3), .ref (ad 4), .ref (ad 5), .int (nI fn), .ref (ad 6), .ref (ad 7), .int (nI dn), .ref (ad 8), .long ex, .long ey, .long eg, .int (nI cn), .ref (ad 9), .ref (ad 10), .int (nI sn), .int at0, .int fl, .int (nI tn), .ref (ad 11), .ref (ad 12)])), (ad 1, .inl (G.2.1 2, 16, .inr (.inl px))), (ad 2, .inl (G.2.1 2, 16, .inr (.inl py))), (ad 3, .inl (G.2.1 2, 16, .inr (.inl pz))), (ad 4, .inl (G.2.1 2, 16, .inr (.inl gr))), (ad 5, .inl (G.2.1 2, 16, .inr (.inl ou))), (ad 6, .inl (G.2.1 2, 12, .inr (.inl (vp_updL fx fn x)))), (ad 7, .inl (G.2.1 2, 12, .inr (.inl fy))), (ad 8, .inl (G.2.1 1, 8, .inl od)), (ad 9, .inl (G.2.1 1, 12, .inl cr)), (ad 10, .inl (G.2.1 1, 200, .inl ty)), (ad 11, .inl (G.2.1 1, 48, .inl to_)), (ad 12, .inl (G.2.1 1, 48, .inl dr))]) H locs := hW
        refine lv_aload_n gX gB dX6_foot_51 rfl (lv_at hl 0 rfl) ?_
        refine gx_get C hW fX6_28 ⟨0, rfl⟩ rfl dX6_foot_52 ?_
        refine lv_aload_n gX gB dX6_foot_55 rfl (lv_at hl 0 rfl) ?_
        refine gx_get C hW fX6_68 ⟨0, rfl⟩ rfl dX6_foot_56 ?_
        refine lv_lload_n gX gB dX6_foot_59 rfl (lv_at hl 2 rfl) ?_
        refine gx_lastE C hW 7 (j := fn) rfl rfl (by omega) (by decide) dX6_foot_60 (fun H locs hW => ?_)
        have hW : gx_W G A s ([(ad 0, .inr (11, [.int 0, .int (nI pn), .ref (ad 1), .ref (ad 2), .ref (ad 3), .ref (ad 4), .ref (ad 5), .int (nI fn), .ref (ad 6), .ref (ad 7), .int (nI dn), .ref (ad 8), .long ex, .long ey, .long eg, .int (nI cn), .ref (ad 9), .ref (ad 10), .int (nI sn), .int at0, .int fl, .int (nI tn), .ref (ad 11), .ref (ad 12)])), (ad 1, .inl (G.2.1 2, 16, .inr (.inl px))), (ad 2, .inl (G.2.1 2, 16, .inr (.inl py))), (ad 3, .inl (G.2.1 2, 16, .inr (.inl pz))), (ad 4, .inl (G.2.1 2, 16, .inr (.inl gr))), (ad 5, .inl (G.2.1 2, 16, .inr (.inl ou))), (ad 6, .inl (G.2.1 2, 12, .inr (.inl (vp_updL fx fn x)))), (ad 7, .inl (G.2.1 2, 12, .inr (.inl (vp_updL fy fn y)))), (ad 8, .inl (G.2.1 1, 8, .inl od)), (ad 9, .inl (G.2.1 1, 12, .inl cr)), (ad 10, .inl (G.2.1 1, 200, .inl ty)), (ad 11, .inl (G.2.1 1, 48, .inl to_)), (ad 12, .inl (G.2.1 1, 48, .inl dr))]) H locs := hW
        refine lv_aload_n gX gB dX6_foot_61 rfl (lv_at hl 0 rfl) ?_
        refine lv_dup gX gB dX6_foot_62 rfl ?_
        refine gx_get C hW fX6_68 ⟨0, rfl⟩ rfl dX6_foot_63 ?_
        refine lv_iconst (v := 1) gX gB dX6_foot_66 (by decide) ?_
        refine lv_iadd gX gB dX6_foot_67 ?_
        refine gx_topi (show ((nI fn) + 1) = nI (fn + 1) from nI_1 fn) ?_
        refine gx_putE C hW clX6 fX6_68 0 rfl (Or.inl rfl) rfl rfl (Nat.le_of_ble_eq_true rfl) dX6_foot_68 (fun H locs hW => ?_)
        have hW : gx_W G A s ([(ad 0, .inr (11, [.int 0, .int (nI pn), .ref (ad 1), .ref (ad 2), .ref (ad 3), .ref (ad 4), .ref (ad 5), .int (nI (fn + 1)), .ref (ad 6), .ref (ad 7), .int (nI dn), .ref (ad 8), .long ex, .long ey, .long eg, .int (nI cn), .ref (ad 9), .ref (ad 10), .int (nI sn), .int at0, .int fl, .int (nI tn), .ref (ad 11), .ref (ad 12)])), (ad 1, .inl (G.2.1 2, 16, .inr (.inl px))), (ad 2, .inl (G.2.1 2, 16, .inr (.inl py))), (ad 3, .inl (G.2.1 2, 16, .inr (.inl pz))), (ad 4, .inl (G.2.1 2, 16, .inr (.inl gr))), (ad 5, .inl (G.2.1 2, 16, .inr (.inl ou))), (ad 6, .inl (G.2.1 2, 12, .inr (.inl (vp_updL fx fn x)))), (ad 7, .inl (G.2.1 2, 12, .inr (.inl (vp_updL fy fn y)))), (ad 8, .inl (G.2.1 1, 8, .inl od)), (ad 9, .inl (G.2.1 1, 12, .inl cr)), (ad 10, .inl (G.2.1 1, 200, .inl ty)), (ad 11, .inl (G.2.1 1, 48, .inl to_)), (ad 12, .inl (G.2.1 1, 48, .inl dr))]) H locs := hW
        refine lv_aload_n gX gB dX6_foot_71 rfl (lv_at hl 0 rfl) ?_
        refine gx_callV (wr := []) (rest := []) C hW sX6_71 (kX6_wind l G ad 0 pn (fn + 1) dn cn sn tn ex ey eg at0 fl px py pz gr ou (vp_updL fx fn x) (vp_updL fy fn y) od cr ty to_ dr (by omega) (by omega) nx N0 (hwd hok hf12)) ⟨0, rfl⟩ rfl rfl ⟨(Nat.le_of_ble_eq_true rfl), (Nat.le_of_ble_eq_true rfl)⟩ hl.1 rfl (Nat.le_of_ble_eq_true rfl) dX6_foot_72 ⟨(Nat.le_of_ble_eq_true rfl), (Nat.le_of_ble_eq_true rfl)⟩ (fun v9 u9 H locs hp hW => ?_)
        obtain ⟨rfl, cr1, hcr, hu⟩ := hp
        rw [hu] at hW
        have hW : gx_W G A s ([(ad 0, .inr (11, [.int 0, .int (nI pn), .ref (ad 1), .ref (ad 2), .ref (ad 3), .ref (ad 4), .ref (ad 5), .int (nI (fn + 1)), .ref (ad 6), .ref (ad 7), .int (nI dn), .ref (ad 8), .long ex, .long ey, .long eg, .int (nI N0), .ref (ad 9), .ref (ad 10), .int (nI sn), .int at0, .int fl, .int (nI tn), .ref (ad 11), .ref (ad 12)])), (ad 1, .inl (G.2.1 2, 16, .inr (.inl px))), (ad 2, .inl (G.2.1 2, 16, .inr (.inl py))), (ad 3, .inl (G.2.1 2, 16, .inr (.inl pz))), (ad 4, .inl (G.2.1 2, 16, .inr (.inl gr))), (ad 5, .inl (G.2.1 2, 16, .inr (.inl ou))), (ad 6, .inl (G.2.1 2, 12, .inr (.inl (vp_updL fx fn x)))), (ad 7, .inl (G.2.1 2, 12, .inr (.inl (vp_updL fy fn y)))), (ad 8, .inl (G.2.1 1, 8, .inl od)), (ad 9, .inl (G.2.1 1, 12, .inl cr1)), (ad 10, .inl (G.2.1 1, 200, .inl ty)), (ad 11, .inl (G.2.1 1, 48, .inl to_)), (ad 12, .inl (G.2.1 1, 48, .inl dr))]) H locs := hW
        refine W.eq (g2 := F0 m 75 ls []) rfl ?_
        refine W.widen (k := 0) (n := 0) (Nat.le_of_ble_eq_true rfl) (Nat.le_of_ble_eq_true rfl) ?_
        refine lv_iconst (v := 1) gX gB dX6_foot_75 (by decide) ?_
        exact gx_zret C hr (by decide) hW (Or.inl ⟨fo_0 hok, Or.inr ⟨hf12, rfl, cr1, hcr, rfl⟩⟩) (Nat.le_of_ble_eq_true rfl) (Nat.le_of_ble_eq_true rfl) dX6_foot_76
def fo_next (G : gx_T) (L : List Nat) (f : Nat → va_E) (x : Nat) (P F S X N T E : Nat) (dn : Nat) (bP : Option Nat) (pa : List Nat) (ps : Nat → ld_T) (bF : Option Nat) (fa : List Nat) (fd : Nat → ft_T) (bS : Option Nat) (sa : List Nat) (sd : Nat → sd_T) (b cap n : Nat) (t : Nat → Nat) (bT : Option Nat) (ta : List Nat) (ds : List rt_T) (ex ey eg : Int64) (cn : Nat) (cf : Nat → Nat) (px py pz gr ou fx fy : Nat → Int64) (od cr ty to_ : Nat → Int32) (p0 p1 : Int64) (nx : Nat → Nat) (N0 : Nat) : Prop := wd_ok (vp_updL fx fa.length p0) (vp_updL fy fa.length p1) (fa.length + 1) nx N0 ∧ ∀ {q : Nat} {L1 : List Nat} {f1 : Nat → va_E} {b1 : Nat} {L2 : List Nat} {f2 : Nat → va_E} {b2 : Option Nat} {sb : List Nat} {cr1 : Nat → Int32}, cs_grown G L f F bF fa q L1 f1 b1 → ft_is L1 f1 q (nI fa.length) (p0, p1) → sl_at G L1 f1 S bS b2 sb L2 f2 → sb.length = (if (co_of (ft_snoc fd fa.length (p0, p1)) (fa ++ [q]).length fa.length).length < 3 then 0 else (co_of (ft_snoc fd fa.length (p0, p1)) (fa ++ [q]).length fa.length).length) → (∀ j (h : j < sb.length), sd_is L2 f2 sb[j] (sd_of (ft_snoc fd fa.length (p0, p1)) (co_of (ft_snoc fd fa.length (p0, p1)) (fa ++ [q]).length fa.length) j)) → (∀ z, z < N0 → cr1 z = nI (nx_it nx (fi_at (vp_updL fx fa.length p0) (vp_updL fy fa.length p1) (fa.length + 1)) z)) → rl_at G L2 f2 x P F S X N T E dn bP pa ps (some b1) (fa ++ [q]) (ft_snoc fd fa.length (p0, p1)) b2 sb (sd_of (ft_snoc fd fa.length (p0, p1)) (co_of (ft_snoc fd fa.length (p0, p1)) (fa ++ [q]).length fa.length)) b cap n t bT ta ds ex ey eg N0 (nx_it nx (fi_at (vp_updL fx fa.length p0) (vp_updL fy fa.length p1) (fa.length + 1))) px py pz gr ou (vp_updL fx fa.length p0) (vp_updL fy fa.length p1) od cr1 ty to_
theorem fo_ex {G : gx_T} {L : List Nat} {f : Nat → va_E} {x : Nat} {P F S X N T E : Nat} {dn : Nat} {bP : Option Nat} {pa : List Nat} {ps : Nat → ld_T} {bF : Option Nat} {fa : List Nat} {fd : Nat → ft_T} {bS : Option Nat} {sa : List Nat} {sd : Nat → sd_T} {b cap n : Nat} {t : Nat → Nat} {bT : Option Nat} {ta : List Nat} {ds : List rt_T} {ex ey eg : Int64} {cn : Nat} {cf : Nat → Nat} {px py pz gr ou fx fy : Nat → Int64} {od cr ty to_ : Nat → Int32} (hrl : rl_at G L f x P F S X N T E dn bP pa ps bF fa fd bS sa sd b cap n t bT ta ds ex ey eg cn cf px py pz gr ou fx fy od cr ty to_) (p0 p1 : Int64) : ∃ (nx : Nat → Nat) (N0 : Nat), pl_ok p0 ∧ pl_ok p1 → fa.length < 12 → fo_next G L f x P F S X N T E dn bP pa ps bF fa fd bS sa sd b cap n t bT ta ds ex ey eg cn cf px py pz gr ou fx fy od cr ty to_ p0 p1 nx N0 := by
  by_cases h : (pl_ok p0 ∧ pl_ok p1) ∧ fa.length < 12
  · obtain ⟨nx, N0, h2⟩ := rl_foot hrl h.2 h.1
    exact ⟨nx, N0, fun _ _ => h2⟩
  · exact ⟨fun k => k, 0, fun h1 h2 => absurd ⟨h1, h2⟩ h⟩
theorem fo_inv {x y : Int64} (h : fo_code x y = 0) : pl_ok x ∧ pl_ok y := by
  unfold fo_code at h
  by_cases h2 : pl_ok x ∧ pl_ok y
  · exact h2
  · rw [if_neg h2] at h
    exact absurd h (by decide)
set_option maxRecDepth 100000 in
theorem pr_foot_0 {G : gx_T} {L : List Nat} {f : Nat → va_E} {x ow oD : Nat} {ad : Nat → Nat} {P F S X N T E : Nat} {dn : Nat} {bP : Option Nat} {pa : List Nat} {ps : Nat → ld_T} {bF : Option Nat} {fa : List Nat} {fd : Nat → ft_T} {bS : Option Nat} {sa : List Nat} {sd : Nat → sd_T} {b cap n : Nat} {t : Nat → Nat} {bT : Option Nat} {ta : List Nat} {ds : List rt_T} {ex ey eg : Int64} {cn : Nat} {cf : Nat → Nat} {px py pz gr ou fx fy : Nat → Int64} {od cr ty to_ : Nat → Int32} {cd at0 fl : Int32} {dr : Nat → Int32} {p0 p1 : Int64} (hrl : rl_at G L f x P F S X N T E dn bP pa ps bF fa fd bS sa sd b cap n t bT ta ds ex ey eg cn cf px py pz gr ou fx fy od cr ty to_) {u M : va_W} {v : Option Value} {nx : Nat → Nat} {N0 : Nat} (hfn : pl_ok p0 ∧ pl_ok p1 → fa.length < 12 → fo_next G L f x P F S X N T E dn bP pa ps bF fa fd bS sa sd b cap n t bT ta ds ex ey eg cn cf px py pz gr ou fx fy od cr ty to_ p0 p1 nx N0) {r : Int32} (hpo : (fun (v : Option Value) (u : va_W) => fo_code p0 p1 = 0 ∧ ((v = some (.int 0) ∧ u = va_pl L f ∧ ¬ fa.length < 12) ∨ (v = some (.int 1) ∧ fa.length < 12 ∧ ∃ (q : Nat) (L1 : List Nat) (f1 : Nat → va_E) (b1 : Nat) (L2 : List Nat) (f2 : Nat → va_E) (b2 : Option Nat) (sb : List Nat), u = va_pl L2 f2 ∧ cs_grown G L f F bF fa q L1 f1 b1 ∧ ft_is L1 f1 q (nI fa.length) (p0, p1) ∧ sl_at G L1 f1 S bS b2 sb L2 f2 ∧ sb.length = (if (co_of (ft_snoc fd fa.length (p0, p1)) (fa ++ [q]).length fa.length).length < 3 then 0 else (co_of (ft_snoc fd fa.length (p0, p1)) (fa ++ [q]).length fa.length).length) ∧ ∀ j (h : j < sb.length), sd_is L2 f2 sb[j] (sd_of (ft_snoc fd fa.length (p0, p1)) (co_of (ft_snoc fd fa.length (p0, p1)) (fa ++ [q]).length fa.length) j)))) (some (.int r)) u) (hm : (fun (v : Option Value) (u : va_W) => (fo_code p0 p1 = 0 ∧ ((fa.length = 12 ∧ v = some (.int 0) ∧ u = [(ad 0, .inr (11, [.int 0, .int (nI pa.length), .ref (ad 1), .ref (ad 2), .ref (ad 3), .ref (ad 4), .ref (ad 5), .int (nI fa.length), .ref (ad 6), .ref (ad 7), .int (nI dn), .ref (ad 8), .long ex, .long ey, .long eg, .int (nI cn), .ref (ad 9), .ref (ad 10), .int (nI n), .int at0, .int fl, .int (nI ds.length), .ref (ad 11), .ref (ad 12)])), (ad 1, .inl (G.2.1 2, 16, .inr (.inl px))), (ad 2, .inl (G.2.1 2, 16, .inr (.inl py))), (ad 3, .inl (G.2.1 2, 16, .inr (.inl pz))), (ad 4, .inl (G.2.1 2, 16, .inr (.inl gr))), (ad 5, .inl (G.2.1 2, 16, .inr (.inl ou))), (ad 6, .inl (G.2.1 2, 12, .inr (.inl fx))), (ad 7, .inl (G.2.1 2, 12, .inr (.inl fy))), (ad 8, .inl (G.2.1 1, 8, .inl od)), (ad 9, .inl (G.2.1 1, 12, .inl cr)), (ad 10, .inl (G.2.1 1, 200, .inl ty)), (ad 11, .inl (G.2.1 1, 48, .inl to_)), (ad 12, .inl (G.2.1 1, 48, .inl dr))]) ∨ (fa.length < 12 ∧ v = some (.int 1) ∧ ∃ cr1 : Nat → Int32, (∀ z, z < N0 → cr1 z = nI (nx_it nx (fi_at (vp_updL fx fa.length p0) (vp_updL fy fa.length p1) (fa.length + 1)) z)) ∧ u = [(ad 0, .inr (11, [.int 0, .int (nI pa.length), .ref (ad 1), .ref (ad 2), .ref (ad 3), .ref (ad 4), .ref (ad 5), .int (nI (fa.length + 1)), .ref (ad 6), .ref (ad 7), .int (nI dn), .ref (ad 8), .long ex, .long ey, .long eg, .int (nI N0), .ref (ad 9), .ref (ad 10), .int (nI n), .int at0, .int fl, .int (nI ds.length), .ref (ad 11), .ref (ad 12)])), (ad 1, .inl (G.2.1 2, 16, .inr (.inl px))), (ad 2, .inl (G.2.1 2, 16, .inr (.inl py))), (ad 3, .inl (G.2.1 2, 16, .inr (.inl pz))), (ad 4, .inl (G.2.1 2, 16, .inr (.inl gr))), (ad 5, .inl (G.2.1 2, 16, .inr (.inl ou))), (ad 6, .inl (G.2.1 2, 12, .inr (.inl (vp_updL fx fa.length p0)))), (ad 7, .inl (G.2.1 2, 12, .inr (.inl (vp_updL fy fa.length p1)))), (ad 8, .inl (G.2.1 1, 8, .inl od)), (ad 9, .inl (G.2.1 1, 12, .inl cr1)), (ad 10, .inl (G.2.1 1, 200, .inl ty)), (ad 11, .inl (G.2.1 1, 48, .inl to_)), (ad 12, .inl (G.2.1 1, 48, .inl dr))]))) ∨ (fo_code p0 p1 = 1 ∧ v = some (.int 0) ∧ u = [(ad 0, .inr (11, [.int 1, .int (nI pa.length), .ref (ad 1), .ref (ad 2), .ref (ad 3), .ref (ad 4), .ref (ad 5), .int (nI fa.length), .ref (ad 6), .ref (ad 7), .int (nI dn), .ref (ad 8), .long ex, .long ey, .long eg, .int (nI cn), .ref (ad 9), .ref (ad 10), .int (nI n), .int at0, .int fl, .int (nI ds.length), .ref (ad 11), .ref (ad 12)])), (ad 1, .inl (G.2.1 2, 16, .inr (.inl px))), (ad 2, .inl (G.2.1 2, 16, .inr (.inl py))), (ad 3, .inl (G.2.1 2, 16, .inr (.inl pz))), (ad 4, .inl (G.2.1 2, 16, .inr (.inl gr))), (ad 5, .inl (G.2.1 2, 16, .inr (.inl ou))), (ad 6, .inl (G.2.1 2, 12, .inr (.inl fx))), (ad 7, .inl (G.2.1 2, 12, .inr (.inl fy))), (ad 8, .inl (G.2.1 1, 8, .inl od)), (ad 9, .inl (G.2.1 1, 12, .inl cr)), (ad 10, .inl (G.2.1 1, 200, .inl ty)), (ad 11, .inl (G.2.1 1, 48, .inl to_)), (ad 12, .inl (G.2.1 1, 48, .inl dr))])) v M) : ∃ bb : Int32, v = some (.int bb) ∧ r = bb ∧ lw_out G x ow oD ad 0 u M := by
  obtain ⟨hc, ha⟩ := hpo
  rcases hm with ⟨-, hb⟩ | ⟨h1, -, -⟩
  · rcases ha with ⟨e1, rfl, hn⟩ | ⟨e1, hlt, q, L1, f1, b1, L2, f2, b2, sb, rfl, hgr, hq, hsl, hsb, hsd⟩
    · rcases hb with ⟨-, rfl, rfl⟩ | ⟨h2, -, -⟩
      · injection e1 with e1
        injection e1 with e1
        exact ⟨_, rfl, e1, ⟨(0), pa.length, fa.length, dn, cn, n, ds.length, ex, ey, eg, at0, fl, px, py, pz, gr, ou, fx, fy, od, cr, ty, to_, dr, rfl, rfl, fun g gD => ⟨L, f, P, F, S, X, N, T, E, dn, bP, pa, ps, bF, fa, fd, bS, sa, sd, b, cap, n, t, bT, ta, ds, ex, ey, eg, cn, cf, px, py, pz, gr, ou, fx, fy, od, cr, ty, to_, _, at0, fl, dr, g, gD, rfl, hrl⟩⟩⟩
      · exact absurd h2 hn
    · rcases hb with ⟨h2, -, -⟩ | ⟨-, rfl, cr1, hcr, rfl⟩
      · omega
      · injection e1 with e1
        injection e1 with e1
        exact ⟨_, rfl, e1, ⟨(0), pa.length, (fa ++ [q]).length, dn, N0, n, ds.length, ex, ey, eg, at0, fl, px, py, pz, gr, ou, (vp_updL fx fa.length p0), (vp_updL fy fa.length p1), od, cr1, ty, to_, dr, by rw [List.length_append]; rfl, rfl, fun g gD => ⟨L2, f2, P, F, S, X, N, T, E, dn, bP, pa, ps, (some b1), (fa ++ [q]), (ft_snoc fd fa.length (p0, p1)), b2, sb, (sd_of (ft_snoc fd fa.length (p0, p1)) (co_of (ft_snoc fd fa.length (p0, p1)) (fa ++ [q]).length fa.length)), b, cap, n, t, bT, ta, ds, ex, ey, eg, N0, (nx_it nx (fi_at (vp_updL fx fa.length p0) (vp_updL fy fa.length p1) (fa.length + 1))), px, py, pz, gr, ou, (vp_updL fx fa.length p0), (vp_updL fy fa.length p1), od, cr1, ty, to_, _, at0, fl, dr, g, gD, by rw [List.length_append]; rfl, (hfn (fo_inv hc) hlt).2 hgr hq hsl hsb hsd hcr⟩⟩⟩
  · rw [hc] at h1
    exact absurd h1 (by decide)
set_option maxRecDepth 100000 in
theorem pr_foot_1 {G : gx_T} {L : List Nat} {f : Nat → va_E} {x ow oD : Nat} {ad : Nat → Nat} {P F S X N T E : Nat} {dn : Nat} {bP : Option Nat} {pa : List Nat} {ps : Nat → ld_T} {bF : Option Nat} {fa : List Nat} {fd : Nat → ft_T} {bS : Option Nat} {sa : List Nat} {sd : Nat → sd_T} {b cap n : Nat} {t : Nat → Nat} {bT : Option Nat} {ta : List Nat} {ds : List rt_T} {ex ey eg : Int64} {cn : Nat} {cf : Nat → Nat} {px py pz gr ou fx fy : Nat → Int64} {od cr ty to_ : Nat → Int32} {cd at0 fl : Int32} {dr : Nat → Int32} {p0 p1 : Int64} (hrl : rl_at G L f x P F S X N T E dn bP pa ps bF fa fd bS sa sd b cap n t bT ta ds ex ey eg cn cf px py pz gr ou fx fy od cr ty to_) {u M : va_W} {v : Option Value} {nx : Nat → Nat} {N0 : Nat} (hfn : pl_ok p0 ∧ pl_ok p1 → fa.length < 12 → fo_next G L f x P F S X N T E dn bP pa ps bF fa fd bS sa sd b cap n t bT ta ds ex ey eg cn cf px py pz gr ou fx fy od cr ty to_ p0 p1 nx N0) (hpo : (fun (Ex : String) (u : va_W) => u = va_pl L f ∧ px1 gx_E2 (fo_code p0 p1) Ex) gx_E2 u) (hm : (fun (v : Option Value) (u : va_W) => (fo_code p0 p1 = 0 ∧ ((fa.length = 12 ∧ v = some (.int 0) ∧ u = [(ad 0, .inr (11, [.int 0, .int (nI pa.length), .ref (ad 1), .ref (ad 2), .ref (ad 3), .ref (ad 4), .ref (ad 5), .int (nI fa.length), .ref (ad 6), .ref (ad 7), .int (nI dn), .ref (ad 8), .long ex, .long ey, .long eg, .int (nI cn), .ref (ad 9), .ref (ad 10), .int (nI n), .int at0, .int fl, .int (nI ds.length), .ref (ad 11), .ref (ad 12)])), (ad 1, .inl (G.2.1 2, 16, .inr (.inl px))), (ad 2, .inl (G.2.1 2, 16, .inr (.inl py))), (ad 3, .inl (G.2.1 2, 16, .inr (.inl pz))), (ad 4, .inl (G.2.1 2, 16, .inr (.inl gr))), (ad 5, .inl (G.2.1 2, 16, .inr (.inl ou))), (ad 6, .inl (G.2.1 2, 12, .inr (.inl fx))), (ad 7, .inl (G.2.1 2, 12, .inr (.inl fy))), (ad 8, .inl (G.2.1 1, 8, .inl od)), (ad 9, .inl (G.2.1 1, 12, .inl cr)), (ad 10, .inl (G.2.1 1, 200, .inl ty)), (ad 11, .inl (G.2.1 1, 48, .inl to_)), (ad 12, .inl (G.2.1 1, 48, .inl dr))]) ∨ (fa.length < 12 ∧ v = some (.int 1) ∧ ∃ cr1 : Nat → Int32, (∀ z, z < N0 → cr1 z = nI (nx_it nx (fi_at (vp_updL fx fa.length p0) (vp_updL fy fa.length p1) (fa.length + 1)) z)) ∧ u = [(ad 0, .inr (11, [.int 0, .int (nI pa.length), .ref (ad 1), .ref (ad 2), .ref (ad 3), .ref (ad 4), .ref (ad 5), .int (nI (fa.length + 1)), .ref (ad 6), .ref (ad 7), .int (nI dn), .ref (ad 8), .long ex, .long ey, .long eg, .int (nI N0), .ref (ad 9), .ref (ad 10), .int (nI n), .int at0, .int fl, .int (nI ds.length), .ref (ad 11), .ref (ad 12)])), (ad 1, .inl (G.2.1 2, 16, .inr (.inl px))), (ad 2, .inl (G.2.1 2, 16, .inr (.inl py))), (ad 3, .inl (G.2.1 2, 16, .inr (.inl pz))), (ad 4, .inl (G.2.1 2, 16, .inr (.inl gr))), (ad 5, .inl (G.2.1 2, 16, .inr (.inl ou))), (ad 6, .inl (G.2.1 2, 12, .inr (.inl (vp_updL fx fa.length p0)))), (ad 7, .inl (G.2.1 2, 12, .inr (.inl (vp_updL fy fa.length p1)))), (ad 8, .inl (G.2.1 1, 8, .inl od)), (ad 9, .inl (G.2.1 1, 12, .inl cr1)), (ad 10, .inl (G.2.1 1, 200, .inl ty)), (ad 11, .inl (G.2.1 1, 48, .inl to_)), (ad 12, .inl (G.2.1 1, 48, .inl dr))]))) ∨ (fo_code p0 p1 = 1 ∧ v = some (.int 0) ∧ u = [(ad 0, .inr (11, [.int 1, .int (nI pa.length), .ref (ad 1), .ref (ad 2), .ref (ad 3), .ref (ad 4), .ref (ad 5), .int (nI fa.length), .ref (ad 6), .ref (ad 7), .int (nI dn), .ref (ad 8), .long ex, .long ey, .long eg, .int (nI cn), .ref (ad 9), .ref (ad 10), .int (nI n), .int at0, .int fl, .int (nI ds.length), .ref (ad 11), .ref (ad 12)])), (ad 1, .inl (G.2.1 2, 16, .inr (.inl px))), (ad 2, .inl (G.2.1 2, 16, .inr (.inl py))), (ad 3, .inl (G.2.1 2, 16, .inr (.inl pz))), (ad 4, .inl (G.2.1 2, 16, .inr (.inl gr))), (ad 5, .inl (G.2.1 2, 16, .inr (.inl ou))), (ad 6, .inl (G.2.1 2, 12, .inr (.inl fx))), (ad 7, .inl (G.2.1 2, 12, .inr (.inl fy))), (ad 8, .inl (G.2.1 1, 8, .inl od)), (ad 9, .inl (G.2.1 1, 12, .inl cr)), (ad 10, .inl (G.2.1 1, 200, .inl ty)), (ad 11, .inl (G.2.1 1, 48, .inl to_)), (ad 12, .inl (G.2.1 1, 48, .inl dr))])) v M) : ∃ bb : Int32, v = some (.int bb) ∧ True ∧ lw_out G x ow oD ad 1 u M := by
  obtain ⟨rfl, hp⟩ := hpo
  have hc := px1_c hp
  rcases hm with ⟨h1, -⟩ | ⟨-, rfl, rfl⟩
  · rw [hc] at h1
    exact absurd h1 (by decide)
  · exact ⟨_, rfl, trivial, ⟨(1), pa.length, fa.length, dn, cn, n, ds.length, ex, ey, eg, at0, fl, px, py, pz, gr, ou, fx, fy, od, cr, ty, to_, dr, rfl, rfl, fun g gD => ⟨L, f, P, F, S, X, N, T, E, dn, bP, pa, ps, bF, fa, fd, bS, sa, sd, b, cap, n, t, bT, ta, ds, ex, ey, eg, cn, cf, px, py, pz, gr, ou, fx, fy, od, cr, ty, to_, _, at0, fl, dr, g, gD, rfl, hrl⟩⟩⟩
set_option maxHeartbeats 8000000 in
set_option maxRecDepth 100000 in
theorem lc_foot {l : Launch} (hfl : l.flags = flags0) {p : Program} {e : Env} {R : Room} {s : State} {m : MethodId} {below : List Frame} {meth : Method} {c : Code} {A : Nat → Prop} {G : gx_T} {b0 Ls : Nat} {xs : Nat → Int32} {x ow oD : Nat} {ad : Nat → Nat} {H : Heap} {locs : List Loc} {cells slots : Nat} {Q : State → Prop} {ls : Array Slot} {i : Nat} {ws : va_W} (C : gx_C G p s m #[Value.ref b0] meth c cL_law 9 RL A) (hX : va_X b0 Ls xs s s.heap) (hbl : b0 < s.heap.size) (hbA : ¬ A b0) (hi : i + 9 ≤ Ls) (hLs : Ls ≤ 4608) (hR : 100 ≤ R.frames ∧ 4000 ≤ R.locals ∧ cells + 64 ≤ R.cells ∧ slots + 2000 ≤ R.slots) (hinv : lw_inv G x ow oD ad ws) (hW : gx_W G A s ws H locs) (hl : lv_has ls 9 [(5, .int (nI i)), (4, .ref oD), (3, .ref ow), (2, .ref (ad 0)), (1, .ref x), (0, .ref b0)]) (kk : ∀ (ws2 : va_W) (H2 : Heap) (locs2 : List Loc) (ls2 : Array Slot), lw_inv G x ow oD ad ws2 → gx_W G A s ws2 H2 locs2 → lv_has ls2 9 [(5, .int (nI i)), (4, .ref oD), (3, .ref ow), (2, .ref (ad 0)), (1, .ref x), (0, .ref b0)] → W p l e R s m #[Value.ref b0] below meth c H2 locs2 (cells + 64) (slots + 2000) Q (F0 m 1766 ls2 [])) : W p l e R s m #[Value.ref b0] below meth c H locs cells slots Q (F0 m 354 ls []) := by
  have gX := C.x
  have gB := C.b
  obtain ⟨L, f, P, F, S, X, N, T, E, dn, bP, pa, ps, bF, fa, fd, bS, sa, sd, b, cap, n, t, bT, ta, ds, ex, ey, eg, cn, cf, px, py, pz, gr, ou, fx, fy, od, cr, ty, to_, cd, at0, fl, dr, g, gD, rfl, hrl⟩ := hinv
  obtain ⟨hx, fx0, lP, lF, lS, lT, tb, hN, hE, pP, pF, pS, pT, nPF, nPS, nPT, nFS, nFT, nST, rPF, rPS, rPT, rFS, rFT, rST, nd, Nn, En, p16, f12, t12, tl, n2, d8, c12, sl, rP, rO, rQ, rF, rE, rX, rT, rD, rC, rS⟩ := id hrl
  obtain ⟨nx, N0, hfn⟩ := fo_ex hrl (sc_l xs (i + 1)) (sc_l xs (i + 3))
  refine lv_aload_n gX gB dL_law_354 rfl (lv_at hl 4 rfl) ?_
  refine lv_aload_n gX gB dL_law_355 rfl (lv_at hl 5 rfl) ?_
  refine lv_iload gX gB dL_law_356 (lv_at hl 0 rfl) ?_
  refine lv_iconst (v := 1) gX gB dL_law_358 (by decide) ?_
  refine lv_iadd gX gB dL_law_359 ?_
  refine gx_topi (show ((nI i) + 1) = nI (i + 1) from nI_add i 1) ?_
  refine va_sld C.x C.b hX hbl hbA hW.2.2 (nI_in (by omega) (by omega)) dL_law_360 ?_
  refine gx_topi (show xs (nI (i + 1)).toNatClampNeg = xs (i + 1) from by rw [nI_clamp (by omega)]) ?_
  refine lv_i2l gX gB dL_law_361 rfl ?_
  refine lv_bipush (v := 32) gX gB dL_law_362 (by decide) ?_
  refine lv_lshl gX gB dL_law_364 rfl ?_
  refine lv_aload_n gX gB dL_law_365 rfl (lv_at hl 5 rfl) ?_
  refine lv_iload gX gB dL_law_366 (lv_at hl 0 rfl) ?_
  refine lv_iconst (v := 2) gX gB dL_law_368 (by decide) ?_
  refine lv_iadd gX gB dL_law_369 ?_
  refine gx_topi (show ((nI i) + 2) = nI (i + 2) from nI_add i 2) ?_
  refine va_sld C.x C.b hX hbl hbA hW.2.2 (nI_in (by omega) (by omega)) dL_law_370 ?_
  refine gx_topi (show xs (nI (i + 2)).toNatClampNeg = xs (i + 2) from by rw [nI_clamp (by omega)]) ?_
  refine lv_i2l gX gB dL_law_371 rfl ?_
  refine gx_ldc2 (v := 4294967295) C (tq_6 2 (by decide +kernel) rfl) dL_law_372 ?_
  refine lv_land gX gB dL_law_375 ?_
  refine lv_lor gX gB dL_law_376 ?_
  refine gx_topl (show ((((xs (i + 1)).toInt64) <<< ((32 : Int32).toInt64 &&& 63)) ||| (((xs (i + 2)).toInt64) &&& 4294967295)) = sc_l xs (i + 1) from rfl) ?_
  refine lv_aload_n gX gB dL_law_377 rfl (lv_at hl 5 rfl) ?_
  refine lv_iload gX gB dL_law_378 (lv_at hl 0 rfl) ?_
  refine lv_iconst (v := 3) gX gB dL_law_380 (by decide) ?_
  refine lv_iadd gX gB dL_law_381 ?_
  refine gx_topi (show ((nI i) + 3) = nI (i + 3) from nI_add i 3) ?_
  refine va_sld C.x C.b hX hbl hbA hW.2.2 (nI_in (by omega) (by omega)) dL_law_382 ?_
  refine gx_topi (show xs (nI (i + 3)).toNatClampNeg = xs (i + 3) from by rw [nI_clamp (by omega)]) ?_
  refine lv_i2l gX gB dL_law_383 rfl ?_
  refine lv_bipush (v := 32) gX gB dL_law_384 (by decide) ?_
  refine lv_lshl gX gB dL_law_386 rfl ?_
  refine lv_aload_n gX gB dL_law_387 rfl (lv_at hl 5 rfl) ?_
  refine lv_iload gX gB dL_law_388 (lv_at hl 0 rfl) ?_
  refine lv_iconst (v := 4) gX gB dL_law_390 (by decide) ?_
  refine lv_iadd gX gB dL_law_391 ?_
  refine gx_topi (show ((nI i) + 4) = nI (i + 4) from nI_add i 4) ?_
  refine va_sld C.x C.b hX hbl hbA hW.2.2 (nI_in (by omega) (by omega)) dL_law_392 ?_
  refine gx_topi (show xs (nI (i + 4)).toNatClampNeg = xs (i + 4) from by rw [nI_clamp (by omega)]) ?_
  refine lv_i2l gX gB dL_law_393 rfl ?_
  refine gx_ldc2 (v := 4294967295) C (tq_6 2 (by decide +kernel) rfl) dL_law_394 ?_
  refine lv_land gX gB dL_law_397 ?_
  refine lv_lor gX gB dL_law_398 ?_
  refine gx_topl (show ((((xs (i + 3)).toInt64) <<< ((32 : Int32).toInt64 &&& 63)) ||| (((xs (i + 4)).toInt64) &&& 4294967295)) = sc_l xs (i + 3) from rfl) ?_
  refine lv_aload_n gX gB dL_law_399 rfl (lv_at hl 2 rfl) ?_
  refine gx_callSH (wr := [(oD, .inl (G.2.1 4, 1, .inr (.inr (.inr (.inl gD))))), (ad 0, .inr (11, [.int cd, .int (nI pa.length), .ref (ad 1), .ref (ad 2), .ref (ad 3), .ref (ad 4), .ref (ad 5), .int (nI fa.length), .ref (ad 6), .ref (ad 7), .int (nI dn), .ref (ad 8), .long ex, .long ey, .long eg, .int (nI cn), .ref (ad 9), .ref (ad 10), .int (nI n), .int at0, .int fl, .int (nI ds.length), .ref (ad 11), .ref (ad 12)])), (ad 1, .inl (G.2.1 2, 16, .inr (.inl px))), (ad 2, .inl (G.2.1 2, 16, .inr (.inl py))), (ad 3, .inl (G.2.1 2, 16, .inr (.inl pz))), (ad 4, .inl (G.2.1 2, 16, .inr (.inl gr))), (ad 5, .inl (G.2.1 2, 16, .inr (.inl ou))), (ad 6, .inl (G.2.1 2, 12, .inr (.inl fx))), (ad 7, .inl (G.2.1 2, 12, .inr (.inl fy))), (ad 8, .inl (G.2.1 1, 8, .inl od)), (ad 9, .inl (G.2.1 1, 12, .inl cr)), (ad 10, .inl (G.2.1 1, 200, .inl ty)), (ad 11, .inl (G.2.1 1, 48, .inl to_)), (ad 12, .inl (G.2.1 1, 48, .inl dr))]) (rest := []) C hW sLH_84 (kL_foot l G L f x _ hx fx0 ow g (sc_l xs (i + 1)) (sc_l xs (i + 3)) _ _ (kX5_foot l hfl G L f x P F S X N T E (nI dn) hx fx0 bF fa fd lF pF f12 bS sa lS nFS rFS (sc_l xs (i + 1)) (sc_l xs (i + 3))) (fun v u h => h.2.elim (fun z => ⟨_, z.1⟩) (fun z => ⟨_, z.1⟩)) (fun E u h => h.2.1)) rfl ⟨(by dsimp only; omega), (by dsimp only; omega)⟩ hl.1 rfl (Nat.le_of_ble_eq_true rfl) dL_law_400 ⟨(by dsimp only; omega), (by dsimp only; omega)⟩ (fun v9 u9 H locs hp hW => ?_)
  rcases hp with ⟨r, u, hpo, rfl, rfl⟩ | ⟨u, hpx9, rfl, rfl⟩
  · have hW : gx_W G A s ([(oD, .inl (G.2.1 4, 1, .inr (.inr (.inr (.inl gD))))), (ad 0, .inr (11, [.int cd, .int (nI pa.length), .ref (ad 1), .ref (ad 2), .ref (ad 3), .ref (ad 4), .ref (ad 5), .int (nI fa.length), .ref (ad 6), .ref (ad 7), .int (nI dn), .ref (ad 8), .long ex, .long ey, .long eg, .int (nI cn), .ref (ad 9), .ref (ad 10), .int (nI n), .int at0, .int fl, .int (nI ds.length), .ref (ad 11), .ref (ad 12)])), (ad 1, .inl (G.2.1 2, 16, .inr (.inl px))), (ad 2, .inl (G.2.1 2, 16, .inr (.inl py))), (ad 3, .inl (G.2.1 2, 16, .inr (.inl pz))), (ad 4, .inl (G.2.1 2, 16, .inr (.inl gr))), (ad 5, .inl (G.2.1 2, 16, .inr (.inl ou))), (ad 6, .inl (G.2.1 2, 12, .inr (.inl fx))), (ad 7, .inl (G.2.1 2, 12, .inr (.inl fy))), (ad 8, .inl (G.2.1 1, 8, .inl od)), (ad 9, .inl (G.2.1 1, 12, .inl cr)), (ad 10, .inl (G.2.1 1, 200, .inl ty)), (ad 11, .inl (G.2.1 1, 48, .inl to_)), (ad 12, .inl (G.2.1 1, 48, .inl dr))] ++ ([(ow, .inl (G.2.1 2, 1, .inr (.inl (vp_updL g 0 (if r = 0 then 0 else 1)))))] ++ u)) H locs := hW
    refine W.eq (g2 := F0 m 403 ls [.int 0]) rfl ?_
    refine W.widen (k := cells + 41) (n := slots + 651) (by dsimp only; omega) (by dsimp only; omega) ?_
    refine lv_istore (lv' := [(6, .int 0), (5, .int (nI i)), (4, .ref oD), (3, .ref ow), (2, .ref (ad 0)), (1, .ref x), (0, .ref b0)]) gX gB dL_law_403 hl (by decide) rfl (fun ls hl => ?_)
    refine lv_aload_n gX gB dL_law_405 rfl (lv_at hl 4 rfl) ?_
    refine lv_aload_n gX gB dL_law_406 rfl (lv_at hl 6 rfl) ?_
    refine lv_iload gX gB dL_law_407 (lv_at hl 1 rfl) ?_
    refine lv_iconst (v := 1) gX gB dL_law_409 (by decide) ?_
    refine lv_iadd gX gB dL_law_410 ?_
    refine gx_topi (show ((nI i) + 1) = nI (i + 1) from nI_add i 1) ?_
    refine va_sld C.x C.b hX hbl hbA hW.2.2 (nI_in (by omega) (by omega)) dL_law_411 ?_
    refine gx_topi (show xs (nI (i + 1)).toNatClampNeg = xs (i + 1) from by rw [nI_clamp (by omega)]) ?_
    refine lv_i2l gX gB dL_law_412 rfl ?_
    refine lv_bipush (v := 32) gX gB dL_law_413 (by decide) ?_
    refine lv_lshl gX gB dL_law_415 rfl ?_
    refine lv_aload_n gX gB dL_law_416 rfl (lv_at hl 6 rfl) ?_
    refine lv_iload gX gB dL_law_417 (lv_at hl 1 rfl) ?_
    refine lv_iconst (v := 2) gX gB dL_law_419 (by decide) ?_
    refine lv_iadd gX gB dL_law_420 ?_
    refine gx_topi (show ((nI i) + 2) = nI (i + 2) from nI_add i 2) ?_
    refine va_sld C.x C.b hX hbl hbA hW.2.2 (nI_in (by omega) (by omega)) dL_law_421 ?_
    refine gx_topi (show xs (nI (i + 2)).toNatClampNeg = xs (i + 2) from by rw [nI_clamp (by omega)]) ?_
    refine lv_i2l gX gB dL_law_422 rfl ?_
    refine gx_ldc2 (v := 4294967295) C (tq_6 2 (by decide +kernel) rfl) dL_law_423 ?_
    refine lv_land gX gB dL_law_426 ?_
    refine lv_lor gX gB dL_law_427 ?_
    refine gx_topl (show ((((xs (i + 1)).toInt64) <<< ((32 : Int32).toInt64 &&& 63)) ||| (((xs (i + 2)).toInt64) &&& 4294967295)) = sc_l xs (i + 1) from rfl) ?_
    refine lv_aload_n gX gB dL_law_428 rfl (lv_at hl 6 rfl) ?_
    refine lv_iload gX gB dL_law_429 (lv_at hl 1 rfl) ?_
    refine lv_iconst (v := 3) gX gB dL_law_431 (by decide) ?_
    refine lv_iadd gX gB dL_law_432 ?_
    refine gx_topi (show ((nI i) + 3) = nI (i + 3) from nI_add i 3) ?_
    refine va_sld C.x C.b hX hbl hbA hW.2.2 (nI_in (by omega) (by omega)) dL_law_433 ?_
    refine gx_topi (show xs (nI (i + 3)).toNatClampNeg = xs (i + 3) from by rw [nI_clamp (by omega)]) ?_
    refine lv_i2l gX gB dL_law_434 rfl ?_
    refine lv_bipush (v := 32) gX gB dL_law_435 (by decide) ?_
    refine lv_lshl gX gB dL_law_437 rfl ?_
    refine lv_aload_n gX gB dL_law_438 rfl (lv_at hl 6 rfl) ?_
    refine lv_iload gX gB dL_law_439 (lv_at hl 1 rfl) ?_
    refine lv_iconst (v := 4) gX gB dL_law_441 (by decide) ?_
    refine lv_iadd gX gB dL_law_442 ?_
    refine gx_topi (show ((nI i) + 4) = nI (i + 4) from nI_add i 4) ?_
    refine va_sld C.x C.b hX hbl hbA hW.2.2 (nI_in (by omega) (by omega)) dL_law_443 ?_
    refine gx_topi (show xs (nI (i + 4)).toNatClampNeg = xs (i + 4) from by rw [nI_clamp (by omega)]) ?_
    refine lv_i2l gX gB dL_law_444 rfl ?_
    refine gx_ldc2 (v := 4294967295) C (tq_6 2 (by decide +kernel) rfl) dL_law_445 ?_
    refine lv_land gX gB dL_law_448 ?_
    refine lv_lor gX gB dL_law_449 ?_
    refine gx_topl (show ((((xs (i + 3)).toInt64) <<< ((32 : Int32).toInt64 &&& 63)) ||| (((xs (i + 4)).toInt64) &&& 4294967295)) = sc_l xs (i + 3) from rfl) ?_
    have hW := gx_W.toM hW
    have hW : gx_W G A s ((([(ow, .inl (G.2.1 2, 1, .inr (.inl (vp_updL g 0 (if r = 0 then 0 else 1)))))] ++ u) ++ [(oD, .inl (G.2.1 4, 1, .inr (.inr (.inr (.inl gD)))))]) ++ [(ad 0, .inr (11, [.int cd, .int (nI pa.length), .ref (ad 1), .ref (ad 2), .ref (ad 3), .ref (ad 4), .ref (ad 5), .int (nI fa.length), .ref (ad 6), .ref (ad 7), .int (nI dn), .ref (ad 8), .long ex, .long ey, .long eg, .int (nI cn), .ref (ad 9), .ref (ad 10), .int (nI n), .int at0, .int fl, .int (nI ds.length), .ref (ad 11), .ref (ad 12)])), (ad 1, .inl (G.2.1 2, 16, .inr (.inl px))), (ad 2, .inl (G.2.1 2, 16, .inr (.inl py))), (ad 3, .inl (G.2.1 2, 16, .inr (.inl pz))), (ad 4, .inl (G.2.1 2, 16, .inr (.inl gr))), (ad 5, .inl (G.2.1 2, 16, .inr (.inl ou))), (ad 6, .inl (G.2.1 2, 12, .inr (.inl fx))), (ad 7, .inl (G.2.1 2, 12, .inr (.inl fy))), (ad 8, .inl (G.2.1 1, 8, .inl od)), (ad 9, .inl (G.2.1 1, 12, .inl cr)), (ad 10, .inl (G.2.1 1, 200, .inl ty)), (ad 11, .inl (G.2.1 1, 48, .inl to_)), (ad 12, .inl (G.2.1 1, 48, .inl dr))]) H locs := hW
    refine gx_callV (wr := ([(ow, .inl (G.2.1 2, 1, .inr (.inl (vp_updL g 0 (if r = 0 then 0 else 1)))))] ++ u) ++ [(oD, .inl (G.2.1 4, 1, .inr (.inr (.inr (.inl gD)))))]) (rest := []) C hW sL_87 (kX6_footB l G ad cd pa.length fa.length dn cn n ds.length ex ey eg at0 fl px py pz gr ou fx fy od cr ty to_ dr f12 (sc_l xs (i + 1)) (sc_l xs (i + 3)) nx N0 (fun z1 z2 => (hfn z1 z2).1)) ⟨0, rfl⟩ rfl rfl ⟨(by dsimp only; omega), (by dsimp only; omega)⟩ hl.1 rfl (Nat.le_of_ble_eq_true rfl) dL_law_450 ⟨(by dsimp only; omega), (by dsimp only; omega)⟩ (fun v9 u9 H locs hm hW => ?_)
    obtain ⟨bb, rfl, hval, hout⟩ := pr_foot_0 (ow := ow) (oD := oD) (cd := cd) (at0 := at0) (fl := fl) (dr := dr) hrl hfn hpo hm
    obtain ⟨cd9, pn9, fn9, dn9, cn9, sn9, tn9, ex9, ey9, eg9, at9, fl9, px9, py9, pz9, gr9, ou9, fx9, fy9, od9, cr9, ty9, to9, dr9, rfl, hcd, hnew⟩ := hout
    have hW : gx_W G A s ((([(ow, .inl (G.2.1 2, 1, .inr (.inl (vp_updL g 0 (if r = 0 then 0 else 1)))))] ++ u) ++ [(oD, .inl (G.2.1 4, 1, .inr (.inr (.inr (.inl gD)))))]) ++ [(ad 0, .inr (11, [.int cd9, .int (nI pn9), .ref (ad 1), .ref (ad 2), .ref (ad 3), .ref (ad 4), .ref (ad 5), .int (nI fn9), .ref (ad 6), .ref (ad 7), .int (nI dn9), .ref (ad 8), .long ex9, .long ey9, .long eg9, .int (nI cn9), .ref (ad 9), .ref (ad 10), .int (nI sn9), .int at9, .int fl9, .int (nI tn9), .ref (ad 11), .ref (ad 12)])), (ad 1, .inl (G.2.1 2, 16, .inr (.inl px9))), (ad 2, .inl (G.2.1 2, 16, .inr (.inl py9))), (ad 3, .inl (G.2.1 2, 16, .inr (.inl pz9))), (ad 4, .inl (G.2.1 2, 16, .inr (.inl gr9))), (ad 5, .inl (G.2.1 2, 16, .inr (.inl ou9))), (ad 6, .inl (G.2.1 2, 12, .inr (.inl fx9))), (ad 7, .inl (G.2.1 2, 12, .inr (.inl fy9))), (ad 8, .inl (G.2.1 1, 8, .inl od9)), (ad 9, .inl (G.2.1 1, 12, .inl cr9)), (ad 10, .inl (G.2.1 1, 200, .inl ty9)), (ad 11, .inl (G.2.1 1, 48, .inl to9)), (ad 12, .inl (G.2.1 1, 48, .inl dr9))]) H locs := hW
    refine W.eq (g2 := F0 m 453 ls [.int bb]) rfl ?_
    refine W.widen (k := cells + 41 + 0) (n := slots + 651 + 0) (by dsimp only; omega) (by dsimp only; omega) ?_
    refine lv_istore (lv' := [(7, .int bb), (6, .int 0), (5, .int (nI i)), (4, .ref oD), (3, .ref ow), (2, .ref (ad 0)), (1, .ref x), (0, .ref b0)]) gX gB dL_law_453 hl (by decide) rfl (fun ls hl => ?_)
    refine lv_aload_n gX gB dL_law_455 rfl (lv_at hl 5 rfl) ?_
    refine gx_callV (wr := ([(ow, .inl (G.2.1 2, 1, .inr (.inl (vp_updL g 0 (if r = 0 then 0 else 1)))))] ++ u) ++ [(oD, .inl (G.2.1 4, 1, .inr (.inr (.inr (.inl gD)))))]) (rest := []) C hW sL_81 (kX6_thrown l G ad cd9 pn9 fn9 dn9 cn9 sn9 tn9 ex9 ey9 eg9 at9 fl9 px9 py9 pz9 gr9 ou9 fx9 fy9 od9 cr9 ty9 to9 dr9) ⟨0, rfl⟩ rfl rfl ⟨(by dsimp only; omega), (by dsimp only; omega)⟩ hl.1 rfl (Nat.le_of_ble_eq_true rfl) dL_law_456 ⟨(by dsimp only; omega), (by dsimp only; omega)⟩ (fun v9 u9 H locs hp hW => ?_)
    obtain ⟨rfl, rfl⟩ := hp
    have hW : gx_W G A s ((([(ow, .inl (G.2.1 2, 1, .inr (.inl (vp_updL g 0 (if r = 0 then 0 else 1)))))] ++ u) ++ [(oD, .inl (G.2.1 4, 1, .inr (.inr (.inr (.inl gD)))))]) ++ [(ad 0, .inr (11, [.int cd9, .int (nI pn9), .ref (ad 1), .ref (ad 2), .ref (ad 3), .ref (ad 4), .ref (ad 5), .int (nI fn9), .ref (ad 6), .ref (ad 7), .int (nI dn9), .ref (ad 8), .long ex9, .long ey9, .long eg9, .int (nI cn9), .ref (ad 9), .ref (ad 10), .int (nI sn9), .int at9, .int fl9, .int (nI tn9), .ref (ad 11), .ref (ad 12)])), (ad 1, .inl (G.2.1 2, 16, .inr (.inl px9))), (ad 2, .inl (G.2.1 2, 16, .inr (.inl py9))), (ad 3, .inl (G.2.1 2, 16, .inr (.inl pz9))), (ad 4, .inl (G.2.1 2, 16, .inr (.inl gr9))), (ad 5, .inl (G.2.1 2, 16, .inr (.inl ou9))), (ad 6, .inl (G.2.1 2, 12, .inr (.inl fx9))), (ad 7, .inl (G.2.1 2, 12, .inr (.inl fy9))), (ad 8, .inl (G.2.1 1, 8, .inl od9)), (ad 9, .inl (G.2.1 1, 12, .inl cr9)), (ad 10, .inl (G.2.1 1, 200, .inl ty9)), (ad 11, .inl (G.2.1 1, 48, .inl to9)), (ad 12, .inl (G.2.1 1, 48, .inl dr9))]) H locs := hW
    refine W.eq (g2 := F0 m 459 ls [.int cd9]) rfl ?_
    refine W.widen (k := cells + 41 + 0 + 0) (n := slots + 651 + 0 + 0) (by dsimp only; omega) (by dsimp only; omega) ?_
    refine lv_iload gX gB dL_law_459 (lv_at hl 1 rfl) ?_
    refine lv_icmp_eq (tgt := 466) gX gB dL_law_461 (by decide) (fun _ => ?_) (fun h9 => absurd (show cd9 = (0 : Int32) from hcd) h9)
    refine lv_iload gX gB dL_law_466 (lv_at hl 1 rfl) ?_
    refine lv_if_ne (tgt := 490) gX gB dL_law_468 (by decide) (fun h9 => absurd (show ¬ 0 = (0 : Int32) from h9) (by decide)) (fun _ => ?_)
    refine lv_aload_n gX gB dL_law_471 rfl (lv_at hl 4 rfl) ?_
    refine lv_iconst (v := 0) gX gB dL_law_472 (by decide) ?_
    refine gx_lald C hW (a := ow) (g := vp_updL g 0 (if r = 0 then 0 else 1)) (j := 0) ⟨0, rfl⟩ rfl (by decide) (by decide) dL_law_473 ?_
    refine gx_topl (show (vp_updL g 0 (if r = 0 then 0 else 1)) 0 = (if r = 0 then 0 else 1) from ul_eq) ?_
    refine lv_iload gX gB dL_law_474 (lv_at hl 0 rfl) ?_
    refine lv_if_eq (tgt := 483) gX gB dL_law_476 (by decide) (fun c476 => ?_) (fun c476 => ?_)
    · refine lv_lconst (v := 0) gX gB dL_law_483 (by decide) ?_
      refine gx_lc_eq (tgt := 490) C dL_law_484 dL_law_485 (by decide) (fun _ => ?_) (fun h9 => absurd (show (if r = 0 then 0 else 1) = (0 : Int64) from by rw [hval, if_pos c476]) h9)
      refine lv_goto (tgt := 1766) gX gB dL_law_490 (by decide) ?_
      have hW := gx_W.ofM hW
      refine W.widen (k := cells + 64) (n := slots + 2000) (by omega) (by omega) ?_
      exact kk _ _ _ _ (hnew _ _) hW (lv_sub hl [2, 3, 4, 5, 6, 7] rfl)
    · refine lv_lconst (v := 1) gX gB dL_law_479 (by decide) ?_
      refine lv_goto (tgt := 484) gX gB dL_law_480 (by decide) ?_
      refine gx_lc_eq (tgt := 490) C dL_law_484 dL_law_485 (by decide) (fun _ => ?_) (fun h9 => absurd (show (if r = 0 then 0 else 1) = (1 : Int64) from by rw [hval, if_neg c476]) h9)
      refine lv_goto (tgt := 1766) gX gB dL_law_490 (by decide) ?_
      have hW := gx_W.ofM hW
      refine W.widen (k := cells + 64) (n := slots + 2000) (by omega) (by omega) ?_
      exact kk _ _ _ _ (hnew _ _) hW (lv_sub hl [2, 3, 4, 5, 6, 7] rfl)
  · have hW : gx_W G A s ([(oD, .inl (G.2.1 4, 1, .inr (.inr (.inr (.inl gD))))), (ad 0, .inr (11, [.int cd, .int (nI pa.length), .ref (ad 1), .ref (ad 2), .ref (ad 3), .ref (ad 4), .ref (ad 5), .int (nI fa.length), .ref (ad 6), .ref (ad 7), .int (nI dn), .ref (ad 8), .long ex, .long ey, .long eg, .int (nI cn), .ref (ad 9), .ref (ad 10), .int (nI n), .int at0, .int fl, .int (nI ds.length), .ref (ad 11), .ref (ad 12)])), (ad 1, .inl (G.2.1 2, 16, .inr (.inl px))), (ad 2, .inl (G.2.1 2, 16, .inr (.inl py))), (ad 3, .inl (G.2.1 2, 16, .inr (.inl pz))), (ad 4, .inl (G.2.1 2, 16, .inr (.inl gr))), (ad 5, .inl (G.2.1 2, 16, .inr (.inl ou))), (ad 6, .inl (G.2.1 2, 12, .inr (.inl fx))), (ad 7, .inl (G.2.1 2, 12, .inr (.inl fy))), (ad 8, .inl (G.2.1 1, 8, .inl od)), (ad 9, .inl (G.2.1 1, 12, .inl cr)), (ad 10, .inl (G.2.1 1, 200, .inl ty)), (ad 11, .inl (G.2.1 1, 48, .inl to_)), (ad 12, .inl (G.2.1 1, 48, .inl dr))] ++ ([(ow, .inl (G.2.1 2, 1, .inr (.inl g)))] ++ u)) H locs := hW
    refine W.eq (g2 := F0 m 403 ls [.int 1]) rfl ?_
    refine W.widen (k := cells + 41) (n := slots + 651) (by dsimp only; omega) (by dsimp only; omega) ?_
    refine lv_istore (lv' := [(6, .int 1), (5, .int (nI i)), (4, .ref oD), (3, .ref ow), (2, .ref (ad 0)), (1, .ref x), (0, .ref b0)]) gX gB dL_law_403 hl (by decide) rfl (fun ls hl => ?_)
    refine lv_aload_n gX gB dL_law_405 rfl (lv_at hl 4 rfl) ?_
    refine lv_aload_n gX gB dL_law_406 rfl (lv_at hl 6 rfl) ?_
    refine lv_iload gX gB dL_law_407 (lv_at hl 1 rfl) ?_
    refine lv_iconst (v := 1) gX gB dL_law_409 (by decide) ?_
    refine lv_iadd gX gB dL_law_410 ?_
    refine gx_topi (show ((nI i) + 1) = nI (i + 1) from nI_add i 1) ?_
    refine va_sld C.x C.b hX hbl hbA hW.2.2 (nI_in (by omega) (by omega)) dL_law_411 ?_
    refine gx_topi (show xs (nI (i + 1)).toNatClampNeg = xs (i + 1) from by rw [nI_clamp (by omega)]) ?_
    refine lv_i2l gX gB dL_law_412 rfl ?_
    refine lv_bipush (v := 32) gX gB dL_law_413 (by decide) ?_
    refine lv_lshl gX gB dL_law_415 rfl ?_
    refine lv_aload_n gX gB dL_law_416 rfl (lv_at hl 6 rfl) ?_
    refine lv_iload gX gB dL_law_417 (lv_at hl 1 rfl) ?_
    refine lv_iconst (v := 2) gX gB dL_law_419 (by decide) ?_
    refine lv_iadd gX gB dL_law_420 ?_
    refine gx_topi (show ((nI i) + 2) = nI (i + 2) from nI_add i 2) ?_
    refine va_sld C.x C.b hX hbl hbA hW.2.2 (nI_in (by omega) (by omega)) dL_law_421 ?_
    refine gx_topi (show xs (nI (i + 2)).toNatClampNeg = xs (i + 2) from by rw [nI_clamp (by omega)]) ?_
    refine lv_i2l gX gB dL_law_422 rfl ?_
    refine gx_ldc2 (v := 4294967295) C (tq_6 2 (by decide +kernel) rfl) dL_law_423 ?_
    refine lv_land gX gB dL_law_426 ?_
    refine lv_lor gX gB dL_law_427 ?_
    refine gx_topl (show ((((xs (i + 1)).toInt64) <<< ((32 : Int32).toInt64 &&& 63)) ||| (((xs (i + 2)).toInt64) &&& 4294967295)) = sc_l xs (i + 1) from rfl) ?_
    refine lv_aload_n gX gB dL_law_428 rfl (lv_at hl 6 rfl) ?_
    refine lv_iload gX gB dL_law_429 (lv_at hl 1 rfl) ?_
    refine lv_iconst (v := 3) gX gB dL_law_431 (by decide) ?_
    refine lv_iadd gX gB dL_law_432 ?_
    refine gx_topi (show ((nI i) + 3) = nI (i + 3) from nI_add i 3) ?_
    refine va_sld C.x C.b hX hbl hbA hW.2.2 (nI_in (by omega) (by omega)) dL_law_433 ?_
    refine gx_topi (show xs (nI (i + 3)).toNatClampNeg = xs (i + 3) from by rw [nI_clamp (by omega)]) ?_
    refine lv_i2l gX gB dL_law_434 rfl ?_
    refine lv_bipush (v := 32) gX gB dL_law_435 (by decide) ?_
    refine lv_lshl gX gB dL_law_437 rfl ?_
    refine lv_aload_n gX gB dL_law_438 rfl (lv_at hl 6 rfl) ?_
    refine lv_iload gX gB dL_law_439 (lv_at hl 1 rfl) ?_
    refine lv_iconst (v := 4) gX gB dL_law_441 (by decide) ?_
    refine lv_iadd gX gB dL_law_442 ?_
    refine gx_topi (show ((nI i) + 4) = nI (i + 4) from nI_add i 4) ?_
    refine va_sld C.x C.b hX hbl hbA hW.2.2 (nI_in (by omega) (by omega)) dL_law_443 ?_
    refine gx_topi (show xs (nI (i + 4)).toNatClampNeg = xs (i + 4) from by rw [nI_clamp (by omega)]) ?_
    refine lv_i2l gX gB dL_law_444 rfl ?_
    refine gx_ldc2 (v := 4294967295) C (tq_6 2 (by decide +kernel) rfl) dL_law_445 ?_
    refine lv_land gX gB dL_law_448 ?_
    refine lv_lor gX gB dL_law_449 ?_
    refine gx_topl (show ((((xs (i + 3)).toInt64) <<< ((32 : Int32).toInt64 &&& 63)) ||| (((xs (i + 4)).toInt64) &&& 4294967295)) = sc_l xs (i + 3) from rfl) ?_
    have hW := gx_W.toM hW
    have hW : gx_W G A s ((([(ow, .inl (G.2.1 2, 1, .inr (.inl g)))] ++ u) ++ [(oD, .inl (G.2.1 4, 1, .inr (.inr (.inr (.inl gD)))))]) ++ [(ad 0, .inr (11, [.int cd, .int (nI pa.length), .ref (ad 1), .ref (ad 2), .ref (ad 3), .ref (ad 4), .ref (ad 5), .int (nI fa.length), .ref (ad 6), .ref (ad 7), .int (nI dn), .ref (ad 8), .long ex, .long ey, .long eg, .int (nI cn), .ref (ad 9), .ref (ad 10), .int (nI n), .int at0, .int fl, .int (nI ds.length), .ref (ad 11), .ref (ad 12)])), (ad 1, .inl (G.2.1 2, 16, .inr (.inl px))), (ad 2, .inl (G.2.1 2, 16, .inr (.inl py))), (ad 3, .inl (G.2.1 2, 16, .inr (.inl pz))), (ad 4, .inl (G.2.1 2, 16, .inr (.inl gr))), (ad 5, .inl (G.2.1 2, 16, .inr (.inl ou))), (ad 6, .inl (G.2.1 2, 12, .inr (.inl fx))), (ad 7, .inl (G.2.1 2, 12, .inr (.inl fy))), (ad 8, .inl (G.2.1 1, 8, .inl od)), (ad 9, .inl (G.2.1 1, 12, .inl cr)), (ad 10, .inl (G.2.1 1, 200, .inl ty)), (ad 11, .inl (G.2.1 1, 48, .inl to_)), (ad 12, .inl (G.2.1 1, 48, .inl dr))]) H locs := hW
    refine gx_callV (wr := ([(ow, .inl (G.2.1 2, 1, .inr (.inl g)))] ++ u) ++ [(oD, .inl (G.2.1 4, 1, .inr (.inr (.inr (.inl gD)))))]) (rest := []) C hW sL_87 (kX6_footB l G ad cd pa.length fa.length dn cn n ds.length ex ey eg at0 fl px py pz gr ou fx fy od cr ty to_ dr f12 (sc_l xs (i + 1)) (sc_l xs (i + 3)) nx N0 (fun z1 z2 => (hfn z1 z2).1)) ⟨0, rfl⟩ rfl rfl ⟨(by dsimp only; omega), (by dsimp only; omega)⟩ hl.1 rfl (Nat.le_of_ble_eq_true rfl) dL_law_450 ⟨(by dsimp only; omega), (by dsimp only; omega)⟩ (fun v9 u9 H locs hm hW => ?_)
    obtain ⟨bb, rfl, hval, hout⟩ := pr_foot_1 (ow := ow) (oD := oD) (cd := cd) (at0 := at0) (fl := fl) (dr := dr) hrl hfn hpx9 hm
    obtain ⟨cd9, pn9, fn9, dn9, cn9, sn9, tn9, ex9, ey9, eg9, at9, fl9, px9, py9, pz9, gr9, ou9, fx9, fy9, od9, cr9, ty9, to9, dr9, rfl, hcd, hnew⟩ := hout
    have hW : gx_W G A s ((([(ow, .inl (G.2.1 2, 1, .inr (.inl g)))] ++ u) ++ [(oD, .inl (G.2.1 4, 1, .inr (.inr (.inr (.inl gD)))))]) ++ [(ad 0, .inr (11, [.int cd9, .int (nI pn9), .ref (ad 1), .ref (ad 2), .ref (ad 3), .ref (ad 4), .ref (ad 5), .int (nI fn9), .ref (ad 6), .ref (ad 7), .int (nI dn9), .ref (ad 8), .long ex9, .long ey9, .long eg9, .int (nI cn9), .ref (ad 9), .ref (ad 10), .int (nI sn9), .int at9, .int fl9, .int (nI tn9), .ref (ad 11), .ref (ad 12)])), (ad 1, .inl (G.2.1 2, 16, .inr (.inl px9))), (ad 2, .inl (G.2.1 2, 16, .inr (.inl py9))), (ad 3, .inl (G.2.1 2, 16, .inr (.inl pz9))), (ad 4, .inl (G.2.1 2, 16, .inr (.inl gr9))), (ad 5, .inl (G.2.1 2, 16, .inr (.inl ou9))), (ad 6, .inl (G.2.1 2, 12, .inr (.inl fx9))), (ad 7, .inl (G.2.1 2, 12, .inr (.inl fy9))), (ad 8, .inl (G.2.1 1, 8, .inl od9)), (ad 9, .inl (G.2.1 1, 12, .inl cr9)), (ad 10, .inl (G.2.1 1, 200, .inl ty9)), (ad 11, .inl (G.2.1 1, 48, .inl to9)), (ad 12, .inl (G.2.1 1, 48, .inl dr9))]) H locs := hW
    refine W.eq (g2 := F0 m 453 ls [.int bb]) rfl ?_
    refine W.widen (k := cells + 41 + 0) (n := slots + 651 + 0) (by dsimp only; omega) (by dsimp only; omega) ?_
    refine lv_istore (lv' := [(7, .int bb), (6, .int 1), (5, .int (nI i)), (4, .ref oD), (3, .ref ow), (2, .ref (ad 0)), (1, .ref x), (0, .ref b0)]) gX gB dL_law_453 hl (by decide) rfl (fun ls hl => ?_)
    refine lv_aload_n gX gB dL_law_455 rfl (lv_at hl 5 rfl) ?_
    refine gx_callV (wr := ([(ow, .inl (G.2.1 2, 1, .inr (.inl g)))] ++ u) ++ [(oD, .inl (G.2.1 4, 1, .inr (.inr (.inr (.inl gD)))))]) (rest := []) C hW sL_81 (kX6_thrown l G ad cd9 pn9 fn9 dn9 cn9 sn9 tn9 ex9 ey9 eg9 at9 fl9 px9 py9 pz9 gr9 ou9 fx9 fy9 od9 cr9 ty9 to9 dr9) ⟨0, rfl⟩ rfl rfl ⟨(by dsimp only; omega), (by dsimp only; omega)⟩ hl.1 rfl (Nat.le_of_ble_eq_true rfl) dL_law_456 ⟨(by dsimp only; omega), (by dsimp only; omega)⟩ (fun v9 u9 H locs hp hW => ?_)
    obtain ⟨rfl, rfl⟩ := hp
    have hW : gx_W G A s ((([(ow, .inl (G.2.1 2, 1, .inr (.inl g)))] ++ u) ++ [(oD, .inl (G.2.1 4, 1, .inr (.inr (.inr (.inl gD)))))]) ++ [(ad 0, .inr (11, [.int cd9, .int (nI pn9), .ref (ad 1), .ref (ad 2), .ref (ad 3), .ref (ad 4), .ref (ad 5), .int (nI fn9), .ref (ad 6), .ref (ad 7), .int (nI dn9), .ref (ad 8), .long ex9, .long ey9, .long eg9, .int (nI cn9), .ref (ad 9), .ref (ad 10), .int (nI sn9), .int at9, .int fl9, .int (nI tn9), .ref (ad 11), .ref (ad 12)])), (ad 1, .inl (G.2.1 2, 16, .inr (.inl px9))), (ad 2, .inl (G.2.1 2, 16, .inr (.inl py9))), (ad 3, .inl (G.2.1 2, 16, .inr (.inl pz9))), (ad 4, .inl (G.2.1 2, 16, .inr (.inl gr9))), (ad 5, .inl (G.2.1 2, 16, .inr (.inl ou9))), (ad 6, .inl (G.2.1 2, 12, .inr (.inl fx9))), (ad 7, .inl (G.2.1 2, 12, .inr (.inl fy9))), (ad 8, .inl (G.2.1 1, 8, .inl od9)), (ad 9, .inl (G.2.1 1, 12, .inl cr9)), (ad 10, .inl (G.2.1 1, 200, .inl ty9)), (ad 11, .inl (G.2.1 1, 48, .inl to9)), (ad 12, .inl (G.2.1 1, 48, .inl dr9))]) H locs := hW
    refine W.eq (g2 := F0 m 459 ls [.int cd9]) rfl ?_
    refine W.widen (k := cells + 41 + 0 + 0) (n := slots + 651 + 0 + 0) (by dsimp only; omega) (by dsimp only; omega) ?_
    refine lv_iload gX gB dL_law_459 (lv_at hl 1 rfl) ?_
    refine lv_icmp_eq (tgt := 466) gX gB dL_law_461 (by decide) (fun _ => ?_) (fun h9 => absurd (show cd9 = (1 : Int32) from hcd) h9)
    refine lv_iload gX gB dL_law_466 (lv_at hl 1 rfl) ?_
    refine lv_if_ne (tgt := 490) gX gB dL_law_468 (by decide) (fun _ => ?_) (fun h9 => absurd h9 (show ¬ 1 = (0 : Int32) from by decide))
    refine lv_goto (tgt := 1766) gX gB dL_law_490 (by decide) ?_
    have hW := gx_W.ofM hW
    refine W.widen (k := cells + 64) (n := slots + 2000) (by omega) (by omega) ?_
    exact kk _ _ _ _ (hnew _ _) hW (lv_sub hl [2, 3, 4, 5, 6, 7] rfl)
