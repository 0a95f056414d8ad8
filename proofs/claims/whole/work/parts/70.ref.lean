/-! THE REFERENCE: side, tips, moment, most. -/
def sn_of (cn : Nat) : Nat := if cn < 3 then 0 else cn
set_option maxHeartbeats 4000000 in
set_option maxRecDepth 100000 in
theorem kX6_side (l : Launch) (G : gx_T) (ad : Nat → Nat) (cd : Int32) (pn fn dn cn sn tn : Nat) (ex ey eg : Int64) (at0 fl : Int32) (px py pz gr ou fx fy : Nat → Int64) (od cr ty to_ dr : Nat → Int32) (hpn : pn ≤ 16) (hcn : cn ≤ 12) (cf : Nat → Nat) (hcr : ∀ i, i < cn → cr i = nI (cf i)) (hcf : ∀ i, i < cn → cf i < 12) (k0 : Int32) : gx_M l G yX6_side cX6_side 2 (some .int) ({ frames := 1, cells := 0, slots := 0, locals := 20 } : Room) [.ref (ad 0), .int k0] ([(ad 0, .inr (11, [.int cd, .int (nI pn), .ref (ad 1), .ref (ad 2), .ref (ad 3), .ref (ad 4), .ref (ad 5), .int (nI fn), .ref (ad 6), .ref (ad 7), .int (nI dn), .ref (ad 8), .long ex, .long ey, .long eg, .int (nI cn), .ref (ad 9), .ref (ad 10), .int (nI sn), .int at0, .int fl, .int (nI tn), .ref (ad 11), .ref (ad 12)])), (ad 1, .inl (G.2.1 2, 16, .inr (.inl px))), (ad 2, .inl (G.2.1 2, 16, .inr (.inl py))), (ad 3, .inl (G.2.1 2, 16, .inr (.inl pz))), (ad 4, .inl (G.2.1 2, 16, .inr (.inl gr))), (ad 5, .inl (G.2.1 2, 16, .inr (.inl ou))), (ad 6, .inl (G.2.1 2, 12, .inr (.inl fx))), (ad 7, .inl (G.2.1 2, 12, .inr (.inl fy))), (ad 8, .inl (G.2.1 1, 8, .inl od)), (ad 9, .inl (G.2.1 1, 12, .inl cr)), (ad 10, .inl (G.2.1 1, 200, .inl ty)), (ad 11, .inl (G.2.1 1, 48, .inl to_)), (ad 12, .inl (G.2.1 1, 48, .inl dr))]) (fun v u => (sd_code (sn_of cn) k0 = 0 ∧ v = some (.int (sd_val (sn_of cn) (fun i => nI (cf i)) k0)) ∧ u = [(ad 0, .inr (11, [.int 0, .int (nI pn), .ref (ad 1), .ref (ad 2), .ref (ad 3), .ref (ad 4), .ref (ad 5), .int (nI fn), .ref (ad 6), .ref (ad 7), .int (nI dn), .ref (ad 8), .long ex, .long ey, .long eg, .int (nI cn), .ref (ad 9), .ref (ad 10), .int (nI sn), .int at0, .int fl, .int (nI tn), .ref (ad 11), .ref (ad 12)])), (ad 1, .inl (G.2.1 2, 16, .inr (.inl px))), (ad 2, .inl (G.2.1 2, 16, .inr (.inl py))), (ad 3, .inl (G.2.1 2, 16, .inr (.inl pz))), (ad 4, .inl (G.2.1 2, 16, .inr (.inl gr))), (ad 5, .inl (G.2.1 2, 16, .inr (.inl ou))), (ad 6, .inl (G.2.1 2, 12, .inr (.inl fx))), (ad 7, .inl (G.2.1 2, 12, .inr (.inl fy))), (ad 8, .inl (G.2.1 1, 8, .inl od)), (ad 9, .inl (G.2.1 1, 12, .inl cr)), (ad 10, .inl (G.2.1 1, 200, .inl ty)), (ad 11, .inl (G.2.1 1, 48, .inl to_)), (ad 12, .inl (G.2.1 1, 48, .inl dr))]) ∨ (¬ sd_code (sn_of cn) k0 = 0 ∧ v = some (.int 0) ∧ u = [(ad 0, .inr (11, [.int (sd_code (sn_of cn) k0), .int (nI pn), .ref (ad 1), .ref (ad 2), .ref (ad 3), .ref (ad 4), .ref (ad 5), .int (nI fn), .ref (ad 6), .ref (ad 7), .int (nI dn), .ref (ad 8), .long ex, .long ey, .long eg, .int (nI cn), .ref (ad 9), .ref (ad 10), .int (nI sn), .int at0, .int fl, .int (nI tn), .ref (ad 11), .ref (ad 12)])), (ad 1, .inl (G.2.1 2, 16, .inr (.inl px))), (ad 2, .inl (G.2.1 2, 16, .inr (.inl py))), (ad 3, .inl (G.2.1 2, 16, .inr (.inl pz))), (ad 4, .inl (G.2.1 2, 16, .inr (.inl gr))), (ad 5, .inl (G.2.1 2, 16, .inr (.inl ou))), (ad 6, .inl (G.2.1 2, 12, .inr (.inl fx))), (ad 7, .inl (G.2.1 2, 12, .inr (.inl fy))), (ad 8, .inl (G.2.1 1, 8, .inl od)), (ad 9, .inl (G.2.1 1, 12, .inl cr)), (ad 10, .inl (G.2.1 1, 200, .inl ty)), (ad 11, .inl (G.2.1 1, 48, .inl to_)), (ad 12, .inl (G.2.1 1, 48, .inl dr))])) := by
  refine gx_start (by decide +kernel) (Nat.le_of_ble_eq_true rfl) ?_
  intro p e s m args below meth c A ls C hr hnm hW hl
  have gX := C.x
  have gB := C.b
  have hl : lv_has ls 2 [(0, .ref (ad 0)), (1, .int k0)] := hl
  refine lv_aload_n gX gB dX6_side_0 rfl (lv_at hl 0 rfl) ?_
  refine gx_callV (wr := []) (rest := []) C hW sX6_113 (kX6_noPolygon l G ad cd pn fn dn cn sn tn ex ey eg at0 fl px py pz gr ou fx fy od cr ty to_ dr hcn) ⟨0, rfl⟩ rfl rfl ⟨(Nat.le_of_ble_eq_true rfl), (Nat.le_of_ble_eq_true rfl)⟩ hl.1 rfl (Nat.le_of_ble_eq_true rfl) dX6_side_1 ⟨(Nat.le_of_ble_eq_true rfl), (Nat.le_of_ble_eq_true rfl)⟩ (fun v9 u9 H locs hp hW => ?_)
  obtain ⟨rfl, hu⟩ := hp
  rw [hu] at hW
  have hW : gx_W G A s ([(ad 0, .inr (11, [.int (np_code cn), .int (nI pn), .ref (ad 1), .ref (ad 2), .ref (ad 3), .ref (ad 4), .ref (ad 5), .int (nI fn), .ref (ad 6), .ref (ad 7), .int (nI dn), .ref (ad 8), .long ex, .long ey, .long eg, .int (nI cn), .ref (ad 9), .ref (ad 10), .int (nI sn), .int at0, .int fl, .int (nI tn), .ref (ad 11), .ref (ad 12)])), (ad 1, .inl (G.2.1 2, 16, .inr (.inl px))), (ad 2, .inl (G.2.1 2, 16, .inr (.inl py))), (ad 3, .inl (G.2.1 2, 16, .inr (.inl pz))), (ad 4, .inl (G.2.1 2, 16, .inr (.inl gr))), (ad 5, .inl (G.2.1 2, 16, .inr (.inl ou))), (ad 6, .inl (G.2.1 2, 12, .inr (.inl fx))), (ad 7, .inl (G.2.1 2, 12, .inr (.inl fy))), (ad 8, .inl (G.2.1 1, 8, .inl od)), (ad 9, .inl (G.2.1 1, 12, .inl cr)), (ad 10, .inl (G.2.1 1, 200, .inl ty)), (ad 11, .inl (G.2.1 1, 48, .inl to_)), (ad 12, .inl (G.2.1 1, 48, .inl dr))]) H locs := hW
  refine W.eq (g2 := F0 m 4 ls [.int (np_code cn)]) rfl ?_
  refine W.widen (k := 0) (n := 0) (Nat.le_of_ble_eq_true rfl) (Nat.le_of_ble_eq_true rfl) ?_
  rcases Classical.em (cn < 3) with hcn3 | hcn3
  · have e1 : np_code cn = 1 := if_pos hcn3
    have e0 : sn_of cn = 0 := if_pos hcn3
    refine lv_if_eq (tgt := 9) gX gB dX6_side_4 (by decide) (fun h9 => absurd (show (np_code cn) = (0 : Int32) from h9) (by rw [e1]; decide)) (fun _ => ?_)
    refine lv_iconst (v := 0) gX gB dX6_side_7 (by decide) ?_
    exact gx_iret C hr hW (Or.inr ⟨by rw [show sd_code (sn_of cn) k0 = 1 from if_pos e0]; decide, rfl, by rw [show sd_code (sn_of cn) k0 = 1 from if_pos e0, e1]⟩) (Nat.le_of_ble_eq_true rfl) (Nat.le_of_ble_eq_true rfl) dX6_side_8
  · have e1 : np_code cn = 0 := if_neg hcn3
    have e0 : sn_of cn = cn := if_neg hcn3
    have e2 : ¬ sn_of cn = 0 := by rw [e0]; omega
    refine lv_if_eq (tgt := 9) gX gB dX6_side_4 (by decide) (fun _ => ?_) (fun h9 => absurd (show (np_code cn) = (0 : Int32) from e1) h9)
    refine lv_aload_n gX gB dX6_side_9 rfl (lv_at hl 0 rfl) ?_
    rcases Classical.em (k0 < 0) with hk0 | hk0
    · have e3 : sd_code (sn_of cn) k0 = 2 := by rw [sd_code, if_neg e2, if_pos hk0]
      refine lv_iload_n gX gB dX6_side_10 rfl (lv_at hl 1 rfl) ?_
      refine lv_if_ge (tgt := 18) gX gB dX6_side_11 (by decide) (fun h9 => absurd (show (0 : Int32) ≤ k0 from h9) (Int32.not_le.mpr hk0)) (fun _ => ?_)
      refine lv_iconst (v := 2) gX gB dX6_side_14 (by decide) ?_
      refine lv_goto (tgt := 19) gX gB dX6_side_15 (by decide) ?_
      refine gx_putE C hW clX6 fX6_47 0 rfl (Or.inl rfl) rfl rfl (Nat.le_of_ble_eq_true rfl) dX6_side_19 (fun H locs hW => ?_)
      have hW : gx_W G A s ([(ad 0, .inr (11, [.int 2, .int (nI pn), .ref (ad 1), .ref (ad 2), .ref (ad 3), .ref (ad 4), .ref (ad 5), .int (nI fn), .ref (ad 6), .ref (ad 7), .int (nI dn), .ref (ad 8), .long ex, .long ey, .long eg, .int (nI cn), .ref (ad 9), .ref (ad 10), .int (nI sn), .int at0, .int fl, .int (nI tn), .ref (ad 11), .ref (ad 12)])), (ad 1, .inl (G.2.1 2, 16, .inr (.inl px))), (ad 2, .inl (G.2.1 2, 16, .inr (.inl py))), (ad 3, .inl (G.2.1 2, 16, .inr (.inl pz))), (ad 4, .inl (G.2.1 2, 16, .inr (.inl gr))), (ad 5, .inl (G.2.1 2, 16, .inr (.inl ou))), (ad 6, .inl (G.2.1 2, 12, .inr (.inl fx))), (ad 7, .inl (G.2.1 2, 12, .inr (.inl fy))), (ad 8, .inl (G.2.1 1, 8, .inl od)), (ad 9, .inl (G.2.1 1, 12, .inl cr)), (ad 10, .inl (G.2.1 1, 200, .inl ty)), (ad 11, .inl (G.2.1 1, 48, .inl to_)), (ad 12, .inl (G.2.1 1, 48, .inl dr))]) H locs := hW
      refine lv_aload_n gX gB dX6_side_22 rfl (lv_at hl 0 rfl) ?_
      refine gx_get C hW fX6_47 ⟨0, rfl⟩ rfl dX6_side_23 ?_
      refine lv_if_le (tgt := 33) gX gB dX6_side_26 (by decide) (fun h9 => absurd (show 2 ≤ (0 : Int32) from h9) (by decide)) (fun _ => ?_)
      refine lv_iconst (v := 0) gX gB dX6_side_29 (by decide) ?_
      refine lv_goto (tgt := 51) gX gB dX6_side_30 (by decide) ?_
      exact gx_iret C hr hW (Or.inr ⟨by rw [e3]; decide, rfl, by rw [e3]⟩) (Nat.le_of_ble_eq_true rfl) (Nat.le_of_ble_eq_true rfl) dX6_side_51
    · have e3 : sd_code (sn_of cn) k0 = 0 := by rw [sd_code, if_neg e2, if_neg hk0]
      obtain ⟨k, hk31, rfl⟩ := nI_of hk0
      have hl : lv_has ls 2 [(0, .ref (ad 0)), (1, .int (nI k))] := hl
      refine lv_iload_n gX gB dX6_side_10 rfl (lv_at hl 1 rfl) ?_
      refine lv_if_ge (tgt := 18) gX gB dX6_side_11 (by decide) (fun _ => ?_) (fun h9 => absurd (show (0 : Int32) ≤ (nI k) from Int32.not_lt.mp hk0) h9)
      refine lv_iconst (v := 0) gX gB dX6_side_18 (by decide) ?_
      refine gx_putE C hW clX6 fX6_47 0 rfl (Or.inl rfl) rfl rfl (Nat.le_of_ble_eq_true rfl) dX6_side_19 (fun H locs hW => ?_)
      have hW : gx_W G A s ([(ad 0, .inr (11, [.int 0, .int (nI pn), .ref (ad 1), .ref (ad 2), .ref (ad 3), .ref (ad 4), .ref (ad 5), .int (nI fn), .ref (ad 6), .ref (ad 7), .int (nI dn), .ref (ad 8), .long ex, .long ey, .long eg, .int (nI cn), .ref (ad 9), .ref (ad 10), .int (nI sn), .int at0, .int fl, .int (nI tn), .ref (ad 11), .ref (ad 12)])), (ad 1, .inl (G.2.1 2, 16, .inr (.inl px))), (ad 2, .inl (G.2.1 2, 16, .inr (.inl py))), (ad 3, .inl (G.2.1 2, 16, .inr (.inl pz))), (ad 4, .inl (G.2.1 2, 16, .inr (.inl gr))), (ad 5, .inl (G.2.1 2, 16, .inr (.inl ou))), (ad 6, .inl (G.2.1 2, 12, .inr (.inl fx))), (ad 7, .inl (G.2.1 2, 12, .inr (.inl fy))), (ad 8, .inl (G.2.1 1, 8, .inl od)), (ad 9, .inl (G.2.1 1, 12, .inl cr)), (ad 10, .inl (G.2.1 1, 200, .inl ty)), (ad 11, .inl (G.2.1 1, 48, .inl to_)), (ad 12, .inl (G.2.1 1, 48, .inl dr))]) H locs := hW
      refine lv_aload_n gX gB dX6_side_22 rfl (lv_at hl 0 rfl) ?_
      refine gx_get C hW fX6_47 ⟨0, rfl⟩ rfl dX6_side_23 ?_
      refine lv_if_le (tgt := 33) gX gB dX6_side_26 (by decide) (fun _ => ?_) (fun h9 => absurd (show 0 ≤ (0 : Int32) from by decide) h9)
      refine lv_iload_n gX gB dX6_side_33 rfl (lv_at hl 1 rfl) ?_
      rcases Nat.lt_or_ge k cn with hkc | hkc
      · refine lv_aload_n gX gB dX6_side_34 rfl (lv_at hl 0 rfl) ?_
        refine gx_get C hW fX6_95 ⟨0, rfl⟩ rfl dX6_side_35 ?_
        refine lv_icmp_ge (tgt := 50) gX gB dX6_side_38 (by decide) (fun h9 => absurd (show (nI cn) ≤ (nI k) from h9) (nI_ge hkc (by omega))) (fun _ => ?_)
        refine lv_aload_n gX gB dX6_side_41 rfl (lv_at hl 0 rfl) ?_
        refine gx_get C hW fX6_35 ⟨0, rfl⟩ rfl dX6_side_42 ?_
        refine lv_iload_n gX gB dX6_side_45 rfl (lv_at hl 1 rfl) ?_
        refine gx_iald C hW ⟨9, rfl⟩ (j := k) rfl (by omega) (by decide) dX6_side_46 ?_
        refine gx_topi (show (cr k) = nI (cf k) from hcr k hkc) ?_
        refine lv_goto (tgt := 51) gX gB dX6_side_47 (by decide) ?_
        exact gx_iret C hr hW (Or.inl ⟨e3, by rw [e0, sd_val, if_pos ((nI_ltI hk31 (by omega)).mpr hkc), nI_clamp hk31], rfl⟩) (Nat.le_of_ble_eq_true rfl) (Nat.le_of_ble_eq_true rfl) dX6_side_51
      · refine lv_aload_n gX gB dX6_side_34 rfl (lv_at hl 0 rfl) ?_
        refine gx_get C hW fX6_95 ⟨0, rfl⟩ rfl dX6_side_35 ?_
        refine lv_icmp_ge (tgt := 50) gX gB dX6_side_38 (by decide) (fun _ => ?_) (fun h9 => absurd (show (nI cn) ≤ (nI k) from nI_le hkc hk31) h9)
        refine lv_iconst (v := (-1)) gX gB dX6_side_50 (by decide) ?_
        exact gx_iret C hr hW (Or.inl ⟨e3, by rw [e0, sd_val, if_neg (fun zz => absurd ((nI_ltI hk31 (by omega)).mp zz) (by omega))], rfl⟩) (Nat.le_of_ble_eq_true rfl) (Nat.le_of_ble_eq_true rfl) dX6_side_51
set_option maxHeartbeats 4000000 in
set_option maxRecDepth 100000 in
theorem kX6_tips (l : Launch) (G : gx_T) (ad : Nat → Nat) (cd : Int32) (pn fn dn cn sn tn : Nat) (ex ey eg : Int64) (at0 fl : Int32) (px py pz gr ou fx fy : Nat → Int64) (od cr ty to_ dr : Nat → Int32) (hpn : pn ≤ 16) (hcn : cn ≤ 12) (cf : Nat → Nat) (hcr : ∀ i, i < cn → cr i = nI (cf i)) (hcf : ∀ i, i < cn → cf i < 12) (hdn8 : dn ≤ 8) (yy : Nat → Nat → Int64) (hyy : ∀ q, q ≤ dn → ∀ k, k < pn → yy_ok py ou od q k (yy q k)) (k0 : Int32) : gx_M l G yX6_tips cX6_tips 2 (some .int) ({ frames := 3, cells := 0, slots := 0, locals := 96 } : Room) [.ref (ad 0), .int k0] ([(ad 0, .inr (11, [.int cd, .int (nI pn), .ref (ad 1), .ref (ad 2), .ref (ad 3), .ref (ad 4), .ref (ad 5), .int (nI fn), .ref (ad 6), .ref (ad 7), .int (nI dn), .ref (ad 8), .long ex, .long ey, .long eg, .int (nI cn), .ref (ad 9), .ref (ad 10), .int (nI sn), .int at0, .int fl, .int (nI tn), .ref (ad 11), .ref (ad 12)])), (ad 1, .inl (G.2.1 2, 16, .inr (.inl px))), (ad 2, .inl (G.2.1 2, 16, .inr (.inl py))), (ad 3, .inl (G.2.1 2, 16, .inr (.inl pz))), (ad 4, .inl (G.2.1 2, 16, .inr (.inl gr))), (ad 5, .inl (G.2.1 2, 16, .inr (.inl ou))), (ad 6, .inl (G.2.1 2, 12, .inr (.inl fx))), (ad 7, .inl (G.2.1 2, 12, .inr (.inl fy))), (ad 8, .inl (G.2.1 1, 8, .inl od)), (ad 9, .inl (G.2.1 1, 12, .inl cr)), (ad 10, .inl (G.2.1 1, 200, .inl ty)), (ad 11, .inl (G.2.1 1, 48, .inl to_)), (ad 12, .inl (G.2.1 1, 48, .inl dr))]) (fun v u => (tp_code (sn_of cn) (nI dn) k0 = 0 ∧ v = some (.int (nI (up_at (rf_mom fx fy px gr (yy k0.toNatClampNeg) cf cn pn ex ey eg) cn 0))) ∧ u = [(ad 0, .inr (11, [.int 0, .int (nI pn), .ref (ad 1), .ref (ad 2), .ref (ad 3), .ref (ad 4), .ref (ad 5), .int (nI fn), .ref (ad 6), .ref (ad 7), .int (nI dn), .ref (ad 8), .long ex, .long ey, .long eg, .int (nI cn), .ref (ad 9), .ref (ad 10), .int (nI sn), .int at0, .int fl, .int (nI tn), .ref (ad 11), .ref (ad 12)])), (ad 1, .inl (G.2.1 2, 16, .inr (.inl px))), (ad 2, .inl (G.2.1 2, 16, .inr (.inl py))), (ad 3, .inl (G.2.1 2, 16, .inr (.inl pz))), (ad 4, .inl (G.2.1 2, 16, .inr (.inl gr))), (ad 5, .inl (G.2.1 2, 16, .inr (.inl ou))), (ad 6, .inl (G.2.1 2, 12, .inr (.inl fx))), (ad 7, .inl (G.2.1 2, 12, .inr (.inl fy))), (ad 8, .inl (G.2.1 1, 8, .inl od)), (ad 9, .inl (G.2.1 1, 12, .inl cr)), (ad 10, .inl (G.2.1 1, 200, .inl ty)), (ad 11, .inl (G.2.1 1, 48, .inl to_)), (ad 12, .inl (G.2.1 1, 48, .inl dr))]) ∨ (¬ tp_code (sn_of cn) (nI dn) k0 = 0 ∧ v = some (.int 0) ∧ u = [(ad 0, .inr (11, [.int (tp_code (sn_of cn) (nI dn) k0), .int (nI pn), .ref (ad 1), .ref (ad 2), .ref (ad 3), .ref (ad 4), .ref (ad 5), .int (nI fn), .ref (ad 6), .ref (ad 7), .int (nI dn), .ref (ad 8), .long ex, .long ey, .long eg, .int (nI cn), .ref (ad 9), .ref (ad 10), .int (nI sn), .int at0, .int fl, .int (nI tn), .ref (ad 11), .ref (ad 12)])), (ad 1, .inl (G.2.1 2, 16, .inr (.inl px))), (ad 2, .inl (G.2.1 2, 16, .inr (.inl py))), (ad 3, .inl (G.2.1 2, 16, .inr (.inl pz))), (ad 4, .inl (G.2.1 2, 16, .inr (.inl gr))), (ad 5, .inl (G.2.1 2, 16, .inr (.inl ou))), (ad 6, .inl (G.2.1 2, 12, .inr (.inl fx))), (ad 7, .inl (G.2.1 2, 12, .inr (.inl fy))), (ad 8, .inl (G.2.1 1, 8, .inl od)), (ad 9, .inl (G.2.1 1, 12, .inl cr)), (ad 10, .inl (G.2.1 1, 200, .inl ty)), (ad 11, .inl (G.2.1 1, 48, .inl to_)), (ad 12, .inl (G.2.1 1, 48, .inl dr))])) := by
  refine gx_start (by decide +kernel) (Nat.le_of_ble_eq_true rfl) ?_
  intro p e s m args below meth c A ls C hr hnm hW hl
  have gX := C.x
  have gB := C.b
  have hl : lv_has ls 2 [(0, .ref (ad 0)), (1, .int k0)] := hl
  refine lv_aload_n gX gB dX6_tips_0 rfl (lv_at hl 0 rfl) ?_
  refine gx_callV (wr := []) (rest := []) C hW sX6_113 (kX6_noPolygon l G ad cd pn fn dn cn sn tn ex ey eg at0 fl px py pz gr ou fx fy od cr ty to_ dr hcn) ⟨0, rfl⟩ rfl rfl ⟨(Nat.le_of_ble_eq_true rfl), (Nat.le_of_ble_eq_true rfl)⟩ hl.1 rfl (Nat.le_of_ble_eq_true rfl) dX6_tips_1 ⟨(Nat.le_of_ble_eq_true rfl), (Nat.le_of_ble_eq_true rfl)⟩ (fun v9 u9 H locs hp hW => ?_)
  obtain ⟨rfl, hu⟩ := hp
  rw [hu] at hW
  have hW : gx_W G A s ([(ad 0, .inr (11, [.int (np_code cn), .int (nI pn), .ref (ad 1), .ref (ad 2), .ref (ad 3), .ref (ad 4), .ref (ad 5), .int (nI fn), .ref (ad 6), .ref (ad 7), .int (nI dn), .ref (ad 8), .long ex, .long ey, .long eg, .int (nI cn), .ref (ad 9), .ref (ad 10), .int (nI sn), .int at0, .int fl, .int (nI tn), .ref (ad 11), .ref (ad 12)])), (ad 1, .inl (G.2.1 2, 16, .inr (.inl px))), (ad 2, .inl (G.2.1 2, 16, .inr (.inl py))), (ad 3, .inl (G.2.1 2, 16, .inr (.inl pz))), (ad 4, .inl (G.2.1 2, 16, .inr (.inl gr))), (ad 5, .inl (G.2.1 2, 16, .inr (.inl ou))), (ad 6, .inl (G.2.1 2, 12, .inr (.inl fx))), (ad 7, .inl (G.2.1 2, 12, .inr (.inl fy))), (ad 8, .inl (G.2.1 1, 8, .inl od)), (ad 9, .inl (G.2.1 1, 12, .inl cr)), (ad 10, .inl (G.2.1 1, 200, .inl ty)), (ad 11, .inl (G.2.1 1, 48, .inl to_)), (ad 12, .inl (G.2.1 1, 48, .inl dr))]) H locs := hW
  refine W.eq (g2 := F0 m 4 ls [.int (np_code cn)]) rfl ?_
  refine W.widen (k := 0) (n := 0) (Nat.le_of_ble_eq_true rfl) (Nat.le_of_ble_eq_true rfl) ?_
  rcases Classical.em (cn < 3) with hcn3 | hcn3
  · have e1 : np_code cn = 1 := if_pos hcn3
    have e0 : sn_of cn = 0 := if_pos hcn3
    refine lv_if_eq (tgt := 9) gX gB dX6_tips_4 (by decide) (fun h9 => absurd (show (np_code cn) = (0 : Int32) from h9) (by rw [e1]; decide)) (fun _ => ?_)
    refine lv_iconst (v := 0) gX gB dX6_tips_7 (by decide) ?_
    exact gx_iret C hr hW (Or.inr ⟨by rw [show tp_code (sn_of cn) (nI dn) k0 = 1 from if_pos e0]; decide, rfl, by rw [show tp_code (sn_of cn) (nI dn) k0 = 1 from if_pos e0, e1]⟩) (Nat.le_of_ble_eq_true rfl) (Nat.le_of_ble_eq_true rfl) dX6_tips_8
  · have e1 : np_code cn = 0 := if_neg hcn3
    have e0 : sn_of cn = cn := if_neg hcn3
    have e2 : ¬ sn_of cn = 0 := by rw [e0]; omega
    refine lv_if_eq (tgt := 9) gX gB dX6_tips_4 (by decide) (fun _ => ?_) (fun h9 => absurd (show (np_code cn) = (0 : Int32) from e1) h9)
    refine lv_aload_n gX gB dX6_tips_9 rfl (lv_at hl 0 rfl) ?_
    rcases (by rcases Classical.em (k0 < 0) with h | h; exact Or.inl h; rcases Classical.em (nI dn < k0) with h2 | h2; exact Or.inr (Or.inl ⟨h, h2⟩); exact Or.inr (Or.inr ⟨h, h2⟩) : k0 < 0 ∨ (¬ k0 < 0 ∧ nI dn < k0) ∨ (¬ k0 < 0 ∧ ¬ nI dn < k0)) with hk0 | ⟨hk0, hk1⟩ | ⟨hk0, hk1⟩
    · have e3 : tp_code (sn_of cn) (nI dn) k0 = 2 := by rw [tp_code, if_neg e2, if_pos (Or.inl hk0)]
      refine lv_iload_n gX gB dX6_tips_10 rfl (lv_at hl 1 rfl) ?_
      refine lv_if_lt (tgt := 22) gX gB dX6_tips_11 (by decide) (fun _ => ?_) (fun h9 => absurd (show k0 < (0 : Int32) from hk0) h9)
      refine lv_iconst (v := 2) gX gB dX6_tips_22 (by decide) ?_
      refine lv_goto (tgt := 27) gX gB dX6_tips_23 (by decide) ?_
      refine gx_putE C hW clX6 fX6_47 0 rfl (Or.inl rfl) rfl rfl (Nat.le_of_ble_eq_true rfl) dX6_tips_27 (fun H locs hW => ?_)
      have hW : gx_W G A s ([(ad 0, .inr (11, [.int 2, .int (nI pn), .ref (ad 1), .ref (ad 2), .ref (ad 3), .ref (ad 4), .ref (ad 5), .int (nI fn), .ref (ad 6), .ref (ad 7), .int (nI dn), .ref (ad 8), .long ex, .long ey, .long eg, .int (nI cn), .ref (ad 9), .ref (ad 10), .int (nI sn), .int at0, .int fl, .int (nI tn), .ref (ad 11), .ref (ad 12)])), (ad 1, .inl (G.2.1 2, 16, .inr (.inl px))), (ad 2, .inl (G.2.1 2, 16, .inr (.inl py))), (ad 3, .inl (G.2.1 2, 16, .inr (.inl pz))), (ad 4, .inl (G.2.1 2, 16, .inr (.inl gr))), (ad 5, .inl (G.2.1 2, 16, .inr (.inl ou))), (ad 6, .inl (G.2.1 2, 12, .inr (.inl fx))), (ad 7, .inl (G.2.1 2, 12, .inr (.inl fy))), (ad 8, .inl (G.2.1 1, 8, .inl od)), (ad 9, .inl (G.2.1 1, 12, .inl cr)), (ad 10, .inl (G.2.1 1, 200, .inl ty)), (ad 11, .inl (G.2.1 1, 48, .inl to_)), (ad 12, .inl (G.2.1 1, 48, .inl dr))]) H locs := hW
      refine lv_aload_n gX gB dX6_tips_30 rfl (lv_at hl 0 rfl) ?_
      refine gx_get C hW fX6_47 ⟨0, rfl⟩ rfl dX6_tips_31 ?_
      refine lv_if_le (tgt := 41) gX gB dX6_tips_34 (by decide) (fun h9 => absurd (show 2 ≤ (0 : Int32) from h9) (by decide)) (fun _ => ?_)
      refine lv_iconst (v := 0) gX gB dX6_tips_37 (by decide) ?_
      refine lv_goto (tgt := 58) gX gB dX6_tips_38 (by decide) ?_
      exact gx_iret C hr hW (Or.inr ⟨by rw [e3]; decide, rfl, by rw [e3]⟩) (Nat.le_of_ble_eq_true rfl) (Nat.le_of_ble_eq_true rfl) dX6_tips_58
    · have e3 : tp_code (sn_of cn) (nI dn) k0 = 2 := by rw [tp_code, if_neg e2, if_pos (Or.inr hk1)]
      refine lv_iload_n gX gB dX6_tips_10 rfl (lv_at hl 1 rfl) ?_
      refine lv_if_lt (tgt := 22) gX gB dX6_tips_11 (by decide) (fun h9 => absurd (show k0 < (0 : Int32) from h9) (hk0)) (fun _ => ?_)
      refine lv_iload_n gX gB dX6_tips_14 rfl (lv_at hl 1 rfl) ?_
      refine lv_aload_n gX gB dX6_tips_15 rfl (lv_at hl 0 rfl) ?_
      refine gx_get C hW fX6_74 ⟨0, rfl⟩ rfl dX6_tips_16 ?_
      refine lv_icmp_le (tgt := 26) gX gB dX6_tips_19 (by decide) (fun h9 => absurd (show k0 ≤ (nI dn) from h9) (Int32.not_le.mpr hk1)) (fun _ => ?_)
      refine lv_iconst (v := 2) gX gB dX6_tips_22 (by decide) ?_
      refine lv_goto (tgt := 27) gX gB dX6_tips_23 (by decide) ?_
      refine gx_putE C hW clX6 fX6_47 0 rfl (Or.inl rfl) rfl rfl (Nat.le_of_ble_eq_true rfl) dX6_tips_27 (fun H locs hW => ?_)
      have hW : gx_W G A s ([(ad 0, .inr (11, [.int 2, .int (nI pn), .ref (ad 1), .ref (ad 2), .ref (ad 3), .ref (ad 4), .ref (ad 5), .int (nI fn), .ref (ad 6), .ref (ad 7), .int (nI dn), .ref (ad 8), .long ex, .long ey, .long eg, .int (nI cn), .ref (ad 9), .ref (ad 10), .int (nI sn), .int at0, .int fl, .int (nI tn), .ref (ad 11), .ref (ad 12)])), (ad 1, .inl (G.2.1 2, 16, .inr (.inl px))), (ad 2, .inl (G.2.1 2, 16, .inr (.inl py))), (ad 3, .inl (G.2.1 2, 16, .inr (.inl pz))), (ad 4, .inl (G.2.1 2, 16, .inr (.inl gr))), (ad 5, .inl (G.2.1 2, 16, .inr (.inl ou))), (ad 6, .inl (G.2.1 2, 12, .inr (.inl fx))), (ad 7, .inl (G.2.1 2, 12, .inr (.inl fy))), (ad 8, .inl (G.2.1 1, 8, .inl od)), (ad 9, .inl (G.2.1 1, 12, .inl cr)), (ad 10, .inl (G.2.1 1, 200, .inl ty)), (ad 11, .inl (G.2.1 1, 48, .inl to_)), (ad 12, .inl (G.2.1 1, 48, .inl dr))]) H locs := hW
      refine lv_aload_n gX gB dX6_tips_30 rfl (lv_at hl 0 rfl) ?_
      refine gx_get C hW fX6_47 ⟨0, rfl⟩ rfl dX6_tips_31 ?_
      refine lv_if_le (tgt := 41) gX gB dX6_tips_34 (by decide) (fun h9 => absurd (show 2 ≤ (0 : Int32) from h9) (by decide)) (fun _ => ?_)
      refine lv_iconst (v := 0) gX gB dX6_tips_37 (by decide) ?_
      refine lv_goto (tgt := 58) gX gB dX6_tips_38 (by decide) ?_
      exact gx_iret C hr hW (Or.inr ⟨by rw [e3]; decide, rfl, by rw [e3]⟩) (Nat.le_of_ble_eq_true rfl) (Nat.le_of_ble_eq_true rfl) dX6_tips_58
    · have e3 : tp_code (sn_of cn) (nI dn) k0 = 0 := by rw [tp_code, if_neg e2, if_neg (fun zz => zz.elim hk0 hk1)]
      obtain ⟨q, hk31, rfl⟩ := nI_of hk0
      have hqd : q ≤ dn := (nI_leI hk31 (by omega)).mp (Int32.not_lt.mp hk1)
      have hl : lv_has ls 2 [(0, .ref (ad 0)), (1, .int (nI q))] := hl
      refine lv_iload_n gX gB dX6_tips_10 rfl (lv_at hl 1 rfl) ?_
      refine lv_if_lt (tgt := 22) gX gB dX6_tips_11 (by decide) (fun h9 => absurd (show (nI q) < (0 : Int32) from h9) (hk0)) (fun _ => ?_)
      refine lv_iload_n gX gB dX6_tips_14 rfl (lv_at hl 1 rfl) ?_
      refine lv_aload_n gX gB dX6_tips_15 rfl (lv_at hl 0 rfl) ?_
      refine gx_get C hW fX6_74 ⟨0, rfl⟩ rfl dX6_tips_16 ?_
      refine lv_icmp_le (tgt := 26) gX gB dX6_tips_19 (by decide) (fun _ => ?_) (fun h9 => absurd (show (nI q) ≤ (nI dn) from Int32.not_lt.mp hk1) h9)
      refine lv_iconst (v := 0) gX gB dX6_tips_26 (by decide) ?_
      refine gx_putE C hW clX6 fX6_47 0 rfl (Or.inl rfl) rfl rfl (Nat.le_of_ble_eq_true rfl) dX6_tips_27 (fun H locs hW => ?_)
      have hW : gx_W G A s ([(ad 0, .inr (11, [.int 0, .int (nI pn), .ref (ad 1), .ref (ad 2), .ref (ad 3), .ref (ad 4), .ref (ad 5), .int (nI fn), .ref (ad 6), .ref (ad 7), .int (nI dn), .ref (ad 8), .long ex, .long ey, .long eg, .int (nI cn), .ref (ad 9), .ref (ad 10), .int (nI sn), .int at0, .int fl, .int (nI tn), .ref (ad 11), .ref (ad 12)])), (ad 1, .inl (G.2.1 2, 16, .inr (.inl px))), (ad 2, .inl (G.2.1 2, 16, .inr (.inl py))), (ad 3, .inl (G.2.1 2, 16, .inr (.inl pz))), (ad 4, .inl (G.2.1 2, 16, .inr (.inl gr))), (ad 5, .inl (G.2.1 2, 16, .inr (.inl ou))), (ad 6, .inl (G.2.1 2, 12, .inr (.inl fx))), (ad 7, .inl (G.2.1 2, 12, .inr (.inl fy))), (ad 8, .inl (G.2.1 1, 8, .inl od)), (ad 9, .inl (G.2.1 1, 12, .inl cr)), (ad 10, .inl (G.2.1 1, 200, .inl ty)), (ad 11, .inl (G.2.1 1, 48, .inl to_)), (ad 12, .inl (G.2.1 1, 48, .inl dr))]) H locs := hW
      refine lv_aload_n gX gB dX6_tips_30 rfl (lv_at hl 0 rfl) ?_
      refine gx_get C hW fX6_47 ⟨0, rfl⟩ rfl dX6_tips_31 ?_
      refine lv_if_le (tgt := 41) gX gB dX6_tips_34 (by decide) (fun _ => ?_) (fun h9 => absurd (show 0 ≤ (0 : Int32) from by decide) h9)
      refine lv_aload_n gX gB dX6_tips_41 rfl (lv_at hl 0 rfl) ?_
      refine lv_iload_n gX gB dX6_tips_42 rfl (lv_at hl 1 rfl) ?_
      refine lv_aload_n gX gB dX6_tips_43 rfl (lv_at hl 0 rfl) ?_
      refine gx_get C hW fX6_77 ⟨0, rfl⟩ rfl dX6_tips_44 ?_
      refine lv_aload_n gX gB dX6_tips_47 rfl (lv_at hl 0 rfl) ?_
      refine gx_get C hW fX6_81 ⟨0, rfl⟩ rfl dX6_tips_48 ?_
      refine lv_aload_n gX gB dX6_tips_51 rfl (lv_at hl 0 rfl) ?_
      refine gx_get C hW fX6_84 ⟨0, rfl⟩ rfl dX6_tips_52 ?_
      refine gx_callV (wr := []) (rest := []) C hW sX6_117 (kX6_tipping l G ad 0 pn fn dn cn sn tn ex ey eg at0 fl px py pz gr ou fx fy od cr ty to_ dr hpn hcn cf hcr hcf q (by omega) (yy q) (hyy q hqd) ex ey eg) ⟨0, rfl⟩ rfl rfl ⟨(Nat.le_of_ble_eq_true rfl), (Nat.le_of_ble_eq_true rfl)⟩ hl.1 rfl (Nat.le_of_ble_eq_true rfl) dX6_tips_55 ⟨(Nat.le_of_ble_eq_true rfl), (Nat.le_of_ble_eq_true rfl)⟩ (fun v9 u9 H locs hp hW => ?_)
      obtain ⟨rfl, hu⟩ := hp
      rw [hu] at hW
      have hW : gx_W G A s ([(ad 0, .inr (11, [.int 0, .int (nI pn), .ref (ad 1), .ref (ad 2), .ref (ad 3), .ref (ad 4), .ref (ad 5), .int (nI fn), .ref (ad 6), .ref (ad 7), .int (nI dn), .ref (ad 8), .long ex, .long ey, .long eg, .int (nI cn), .ref (ad 9), .ref (ad 10), .int (nI sn), .int at0, .int fl, .int (nI tn), .ref (ad 11), .ref (ad 12)])), (ad 1, .inl (G.2.1 2, 16, .inr (.inl px))), (ad 2, .inl (G.2.1 2, 16, .inr (.inl py))), (ad 3, .inl (G.2.1 2, 16, .inr (.inl pz))), (ad 4, .inl (G.2.1 2, 16, .inr (.inl gr))), (ad 5, .inl (G.2.1 2, 16, .inr (.inl ou))), (ad 6, .inl (G.2.1 2, 12, .inr (.inl fx))), (ad 7, .inl (G.2.1 2, 12, .inr (.inl fy))), (ad 8, .inl (G.2.1 1, 8, .inl od)), (ad 9, .inl (G.2.1 1, 12, .inl cr)), (ad 10, .inl (G.2.1 1, 200, .inl ty)), (ad 11, .inl (G.2.1 1, 48, .inl to_)), (ad 12, .inl (G.2.1 1, 48, .inl dr))]) H locs := hW
      refine W.eq (g2 := F0 m 58 ls [.int (nI (up_at (rf_mom fx fy px gr (yy q) cf cn pn ex ey eg) cn 0))]) rfl ?_
      refine W.widen (k := 0) (n := 0) (Nat.le_of_ble_eq_true rfl) (Nat.le_of_ble_eq_true rfl) ?_
      exact gx_iret C hr hW (Or.inl ⟨e3, by rw [nI_clamp hk31], rfl⟩) (Nat.le_of_ble_eq_true rfl) (Nat.le_of_ble_eq_true rfl) dX6_tips_58
set_option maxHeartbeats 4000000 in
set_option maxRecDepth 100000 in
theorem kX6_moment (l : Launch) (G : gx_T) (ad : Nat → Nat) (cd : Int32) (pn fn dn cn sn tn : Nat) (ex ey eg : Int64) (at0 fl : Int32) (px py pz gr ou fx fy : Nat → Int64) (od cr ty to_ dr : Nat → Int32) (hpn : pn ≤ 16) (hcn : cn ≤ 12) (cf : Nat → Nat) (hcr : ∀ i, i < cn → cr i = nI (cf i)) (hcf : ∀ i, i < cn → cf i < 12) (hdn8 : dn ≤ 8) (yy : Nat → Nat → Int64) (hyy : ∀ q, q ≤ dn → ∀ k, k < pn → yy_ok py ou od q k (yy q k)) (k0 w0 : Int32) : gx_M l G yX6_moment cX6_moment 3 (some .long) ({ frames := 2, cells := 0, slots := 0, locals := 67 } : Room) [.ref (ad 0), .int k0, .int w0] ([(ad 0, .inr (11, [.int cd, .int (nI pn), .ref (ad 1), .ref (ad 2), .ref (ad 3), .ref (ad 4), .ref (ad 5), .int (nI fn), .ref (ad 6), .ref (ad 7), .int (nI dn), .ref (ad 8), .long ex, .long ey, .long eg, .int (nI cn), .ref (ad 9), .ref (ad 10), .int (nI sn), .int at0, .int fl, .int (nI tn), .ref (ad 11), .ref (ad 12)])), (ad 1, .inl (G.2.1 2, 16, .inr (.inl px))), (ad 2, .inl (G.2.1 2, 16, .inr (.inl py))), (ad 3, .inl (G.2.1 2, 16, .inr (.inl pz))), (ad 4, .inl (G.2.1 2, 16, .inr (.inl gr))), (ad 5, .inl (G.2.1 2, 16, .inr (.inl ou))), (ad 6, .inl (G.2.1 2, 12, .inr (.inl fx))), (ad 7, .inl (G.2.1 2, 12, .inr (.inl fy))), (ad 8, .inl (G.2.1 1, 8, .inl od)), (ad 9, .inl (G.2.1 1, 12, .inl cr)), (ad 10, .inl (G.2.1 1, 200, .inl ty)), (ad 11, .inl (G.2.1 1, 48, .inl to_)), (ad 12, .inl (G.2.1 1, 48, .inl dr))]) (fun v u => (mm_code (sn_of cn) k0 w0 = 0 ∧ v = some (.long (rf_mom fx fy px gr (yy 0) cf cn pn ex ey (if w0 = 1 then eg else 0) k0.toNatClampNeg)) ∧ u = [(ad 0, .inr (11, [.int 0, .int (nI pn), .ref (ad 1), .ref (ad 2), .ref (ad 3), .ref (ad 4), .ref (ad 5), .int (nI fn), .ref (ad 6), .ref (ad 7), .int (nI dn), .ref (ad 8), .long ex, .long ey, .long eg, .int (nI cn), .ref (ad 9), .ref (ad 10), .int (nI sn), .int at0, .int fl, .int (nI tn), .ref (ad 11), .ref (ad 12)])), (ad 1, .inl (G.2.1 2, 16, .inr (.inl px))), (ad 2, .inl (G.2.1 2, 16, .inr (.inl py))), (ad 3, .inl (G.2.1 2, 16, .inr (.inl pz))), (ad 4, .inl (G.2.1 2, 16, .inr (.inl gr))), (ad 5, .inl (G.2.1 2, 16, .inr (.inl ou))), (ad 6, .inl (G.2.1 2, 12, .inr (.inl fx))), (ad 7, .inl (G.2.1 2, 12, .inr (.inl fy))), (ad 8, .inl (G.2.1 1, 8, .inl od)), (ad 9, .inl (G.2.1 1, 12, .inl cr)), (ad 10, .inl (G.2.1 1, 200, .inl ty)), (ad 11, .inl (G.2.1 1, 48, .inl to_)), (ad 12, .inl (G.2.1 1, 48, .inl dr))]) ∨ (¬ mm_code (sn_of cn) k0 w0 = 0 ∧ v = some (.long 0) ∧ u = [(ad 0, .inr (11, [.int (mm_code (sn_of cn) k0 w0), .int (nI pn), .ref (ad 1), .ref (ad 2), .ref (ad 3), .ref (ad 4), .ref (ad 5), .int (nI fn), .ref (ad 6), .ref (ad 7), .int (nI dn), .ref (ad 8), .long ex, .long ey, .long eg, .int (nI cn), .ref (ad 9), .ref (ad 10), .int (nI sn), .int at0, .int fl, .int (nI tn), .ref (ad 11), .ref (ad 12)])), (ad 1, .inl (G.2.1 2, 16, .inr (.inl px))), (ad 2, .inl (G.2.1 2, 16, .inr (.inl py))), (ad 3, .inl (G.2.1 2, 16, .inr (.inl pz))), (ad 4, .inl (G.2.1 2, 16, .inr (.inl gr))), (ad 5, .inl (G.2.1 2, 16, .inr (.inl ou))), (ad 6, .inl (G.2.1 2, 12, .inr (.inl fx))), (ad 7, .inl (G.2.1 2, 12, .inr (.inl fy))), (ad 8, .inl (G.2.1 1, 8, .inl od)), (ad 9, .inl (G.2.1 1, 12, .inl cr)), (ad 10, .inl (G.2.1 1, 200, .inl ty)), (ad 11, .inl (G.2.1 1, 48, .inl to_)), (ad 12, .inl (G.2.1 1, 48, .inl dr))])) := by
  refine gx_start (by decide +kernel) (Nat.le_of_ble_eq_true rfl) ?_
  intro p e s m args below meth c A ls C hr hnm hW hl
  have gX := C.x
  have gB := C.b
  have hl : lv_has ls 3 [(0, .ref (ad 0)), (1, .int k0), (2, .int w0)] := hl
  refine lv_aload_n gX gB dX6_moment_0 rfl (lv_at hl 0 rfl) ?_
  refine gx_callV (wr := []) (rest := []) C hW sX6_113 (kX6_noPolygon l G ad cd pn fn dn cn sn tn ex ey eg at0 fl px py pz gr ou fx fy od cr ty to_ dr hcn) ⟨0, rfl⟩ rfl rfl ⟨(Nat.le_of_ble_eq_true rfl), (Nat.le_of_ble_eq_true rfl)⟩ hl.1 rfl (Nat.le_of_ble_eq_true rfl) dX6_moment_1 ⟨(Nat.le_of_ble_eq_true rfl), (Nat.le_of_ble_eq_true rfl)⟩ (fun v9 u9 H locs hp hW => ?_)
  obtain ⟨rfl, hu⟩ := hp
  rw [hu] at hW
  have hW : gx_W G A s ([(ad 0, .inr (11, [.int (np_code cn), .int (nI pn), .ref (ad 1), .ref (ad 2), .ref (ad 3), .ref (ad 4), .ref (ad 5), .int (nI fn), .ref (ad 6), .ref (ad 7), .int (nI dn), .ref (ad 8), .long ex, .long ey, .long eg, .int (nI cn), .ref (ad 9), .ref (ad 10), .int (nI sn), .int at0, .int fl, .int (nI tn), .ref (ad 11), .ref (ad 12)])), (ad 1, .inl (G.2.1 2, 16, .inr (.inl px))), (ad 2, .inl (G.2.1 2, 16, .inr (.inl py))), (ad 3, .inl (G.2.1 2, 16, .inr (.inl pz))), (ad 4, .inl (G.2.1 2, 16, .inr (.inl gr))), (ad 5, .inl (G.2.1 2, 16, .inr (.inl ou))), (ad 6, .inl (G.2.1 2, 12, .inr (.inl fx))), (ad 7, .inl (G.2.1 2, 12, .inr (.inl fy))), (ad 8, .inl (G.2.1 1, 8, .inl od)), (ad 9, .inl (G.2.1 1, 12, .inl cr)), (ad 10, .inl (G.2.1 1, 200, .inl ty)), (ad 11, .inl (G.2.1 1, 48, .inl to_)), (ad 12, .inl (G.2.1 1, 48, .inl dr))]) H locs := hW
  refine W.eq (g2 := F0 m 4 ls [.int (np_code cn)]) rfl ?_
  refine W.widen (k := 0) (n := 0) (Nat.le_of_ble_eq_true rfl) (Nat.le_of_ble_eq_true rfl) ?_
  rcases Classical.em (cn < 3) with hcn3 | hcn3
  · have e1 : np_code cn = 1 := if_pos hcn3
    have e0 : sn_of cn = 0 := if_pos hcn3
    refine lv_if_eq (tgt := 9) gX gB dX6_moment_4 (by decide) (fun h9 => absurd (show (np_code cn) = (0 : Int32) from h9) (by rw [e1]; decide)) (fun _ => ?_)
    refine lv_lconst (v := 0) gX gB dX6_moment_7 (by decide) ?_
    exact gx_lret C hr hW (Or.inr ⟨by rw [show mm_code (sn_of cn) k0 w0 = 1 from if_pos e0]; decide, rfl, by rw [show mm_code (sn_of cn) k0 w0 = 1 from if_pos e0, e1]⟩) (Nat.le_of_ble_eq_true rfl) (Nat.le_of_ble_eq_true rfl) dX6_moment_8
  · have e1 : np_code cn = 0 := if_neg hcn3
    have e0 : sn_of cn = cn := if_neg hcn3
    have e2 : ¬ sn_of cn = 0 := by rw [e0]; omega
    refine lv_if_eq (tgt := 9) gX gB dX6_moment_4 (by decide) (fun _ => ?_) (fun h9 => absurd (show (np_code cn) = (0 : Int32) from e1) h9)
    refine lv_aload_n gX gB dX6_moment_9 rfl (lv_at hl 0 rfl) ?_
    rcases (by rcases Classical.em (k0 < 0) with h | h; exact Or.inl h; rcases Classical.em (k0 < nI cn) with h2 | h2; (rcases Classical.em (w0 < 0) with h3 | h3; exact Or.inr (Or.inr (Or.inl ⟨h, h2, h3⟩)); rcases Classical.em (1 < w0) with h4 | h4; exact Or.inr (Or.inr (Or.inr (Or.inl ⟨h, h2, h3, h4⟩))); exact Or.inr (Or.inr (Or.inr (Or.inr ⟨h, h2, h3, h4⟩)))); exact Or.inr (Or.inl ⟨h, h2⟩) : k0 < 0 ∨ (¬ k0 < 0 ∧ ¬ k0 < nI cn) ∨ (¬ k0 < 0 ∧ k0 < nI cn ∧ w0 < 0) ∨ (¬ k0 < 0 ∧ k0 < nI cn ∧ ¬ w0 < 0 ∧ 1 < w0) ∨ (¬ k0 < 0 ∧ k0 < nI cn ∧ ¬ w0 < 0 ∧ ¬ 1 < w0)) with hk0 | ⟨hk0, hk1⟩ | ⟨hk0, hk1, hw0⟩ | ⟨hk0, hk1, hw0, hw1⟩ | ⟨hk0, hk1, hw0, hw1⟩
    · have e3 : mm_code (sn_of cn) k0 w0 = 2 := by rw [mm_code, if_neg e2, if_pos (by rw [e0]; exact Or.inl hk0)]
      refine lv_iload_n gX gB dX6_moment_10 rfl (lv_at hl 1 rfl) ?_
      refine lv_if_lt (tgt := 31) gX gB dX6_moment_11 (by decide) (fun _ => ?_) (fun h9 => absurd (show k0 < (0 : Int32) from hk0) h9)
      refine lv_iconst (v := 2) gX gB dX6_moment_31 (by decide) ?_
      refine lv_goto (tgt := 36) gX gB dX6_moment_32 (by decide) ?_
      refine gx_putE C hW clX6 fX6_47 0 rfl (Or.inl rfl) rfl rfl (Nat.le_of_ble_eq_true rfl) dX6_moment_36 (fun H locs hW => ?_)
      have hW : gx_W G A s ([(ad 0, .inr (11, [.int 2, .int (nI pn), .ref (ad 1), .ref (ad 2), .ref (ad 3), .ref (ad 4), .ref (ad 5), .int (nI fn), .ref (ad 6), .ref (ad 7), .int (nI dn), .ref (ad 8), .long ex, .long ey, .long eg, .int (nI cn), .ref (ad 9), .ref (ad 10), .int (nI sn), .int at0, .int fl, .int (nI tn), .ref (ad 11), .ref (ad 12)])), (ad 1, .inl (G.2.1 2, 16, .inr (.inl px))), (ad 2, .inl (G.2.1 2, 16, .inr (.inl py))), (ad 3, .inl (G.2.1 2, 16, .inr (.inl pz))), (ad 4, .inl (G.2.1 2, 16, .inr (.inl gr))), (ad 5, .inl (G.2.1 2, 16, .inr (.inl ou))), (ad 6, .inl (G.2.1 2, 12, .inr (.inl fx))), (ad 7, .inl (G.2.1 2, 12, .inr (.inl fy))), (ad 8, .inl (G.2.1 1, 8, .inl od)), (ad 9, .inl (G.2.1 1, 12, .inl cr)), (ad 10, .inl (G.2.1 1, 200, .inl ty)), (ad 11, .inl (G.2.1 1, 48, .inl to_)), (ad 12, .inl (G.2.1 1, 48, .inl dr))]) H locs := hW
      refine lv_aload_n gX gB dX6_moment_39 rfl (lv_at hl 0 rfl) ?_
      refine gx_get C hW fX6_47 ⟨0, rfl⟩ rfl dX6_moment_40 ?_
      refine lv_if_le (tgt := 50) gX gB dX6_moment_43 (by decide) (fun h9 => absurd (show 2 ≤ (0 : Int32) from h9) (by decide)) (fun _ => ?_)
      refine lv_lconst (v := 0) gX gB dX6_moment_46 (by decide) ?_
      refine lv_goto (tgt := 77) gX gB dX6_moment_47 (by decide) ?_
      exact gx_lret C hr hW (Or.inr ⟨by rw [e3]; decide, rfl, by rw [e3]⟩) (Nat.le_of_ble_eq_true rfl) (Nat.le_of_ble_eq_true rfl) dX6_moment_77
    · have e3 : mm_code (sn_of cn) k0 w0 = 2 := by rw [mm_code, if_neg e2, if_pos (by rw [e0]; exact Or.inr (Or.inl hk1))]
      refine lv_iload_n gX gB dX6_moment_10 rfl (lv_at hl 1 rfl) ?_
      refine lv_if_lt (tgt := 31) gX gB dX6_moment_11 (by decide) (fun h9 => absurd (show k0 < (0 : Int32) from h9) (hk0)) (fun _ => ?_)
      refine lv_iload_n gX gB dX6_moment_14 rfl (lv_at hl 1 rfl) ?_
      refine lv_aload_n gX gB dX6_moment_15 rfl (lv_at hl 0 rfl) ?_
      refine gx_get C hW fX6_95 ⟨0, rfl⟩ rfl dX6_moment_16 ?_
      refine lv_icmp_ge (tgt := 31) gX gB dX6_moment_19 (by decide) (fun _ => ?_) (fun h9 => absurd (show (nI cn) ≤ k0 from Int32.not_lt.mp hk1) h9)
      refine lv_iconst (v := 2) gX gB dX6_moment_31 (by decide) ?_
      refine lv_goto (tgt := 36) gX gB dX6_moment_32 (by decide) ?_
      refine gx_putE C hW clX6 fX6_47 0 rfl (Or.inl rfl) rfl rfl (Nat.le_of_ble_eq_true rfl) dX6_moment_36 (fun H locs hW => ?_)
      have hW : gx_W G A s ([(ad 0, .inr (11, [.int 2, .int (nI pn), .ref (ad 1), .ref (ad 2), .ref (ad 3), .ref (ad 4), .ref (ad 5), .int (nI fn), .ref (ad 6), .ref (ad 7), .int (nI dn), .ref (ad 8), .long ex, .long ey, .long eg, .int (nI cn), .ref (ad 9), .ref (ad 10), .int (nI sn), .int at0, .int fl, .int (nI tn), .ref (ad 11), .ref (ad 12)])), (ad 1, .inl (G.2.1 2, 16, .inr (.inl px))), (ad 2, .inl (G.2.1 2, 16, .inr (.inl py))), (ad 3, .inl (G.2.1 2, 16, .inr (.inl pz))), (ad 4, .inl (G.2.1 2, 16, .inr (.inl gr))), (ad 5, .inl (G.2.1 2, 16, .inr (.inl ou))), (ad 6, .inl (G.2.1 2, 12, .inr (.inl fx))), (ad 7, .inl (G.2.1 2, 12, .inr (.inl fy))), (ad 8, .inl (G.2.1 1, 8, .inl od)), (ad 9, .inl (G.2.1 1, 12, .inl cr)), (ad 10, .inl (G.2.1 1, 200, .inl ty)), (ad 11, .inl (G.2.1 1, 48, .inl to_)), (ad 12, .inl (G.2.1 1, 48, .inl dr))]) H locs := hW
      refine lv_aload_n gX gB dX6_moment_39 rfl (lv_at hl 0 rfl) ?_
      refine gx_get C hW fX6_47 ⟨0, rfl⟩ rfl dX6_moment_40 ?_
      refine lv_if_le (tgt := 50) gX gB dX6_moment_43 (by decide) (fun h9 => absurd (show 2 ≤ (0 : Int32) from h9) (by decide)) (fun _ => ?_)
      refine lv_lconst (v := 0) gX gB dX6_moment_46 (by decide) ?_
      refine lv_goto (tgt := 77) gX gB dX6_moment_47 (by decide) ?_
      exact gx_lret C hr hW (Or.inr ⟨by rw [e3]; decide, rfl, by rw [e3]⟩) (Nat.le_of_ble_eq_true rfl) (Nat.le_of_ble_eq_true rfl) dX6_moment_77
    · have e3 : mm_code (sn_of cn) k0 w0 = 2 := by rw [mm_code, if_neg e2, if_pos (by rw [e0]; exact Or.inr (Or.inr (Or.inl hw0)))]
      refine lv_iload_n gX gB dX6_moment_10 rfl (lv_at hl 1 rfl) ?_
      refine lv_if_lt (tgt := 31) gX gB dX6_moment_11 (by decide) (fun h9 => absurd (show k0 < (0 : Int32) from h9) (hk0)) (fun _ => ?_)
      refine lv_iload_n gX gB dX6_moment_14 rfl (lv_at hl 1 rfl) ?_
      refine lv_aload_n gX gB dX6_moment_15 rfl (lv_at hl 0 rfl) ?_
      refine gx_get C hW fX6_95 ⟨0, rfl⟩ rfl dX6_moment_16 ?_
      refine lv_icmp_ge (tgt := 31) gX gB dX6_moment_19 (by decide) (fun h9 => absurd (show (nI cn) ≤ k0 from h9) (Int32.not_le.mpr hk1)) (fun _ => ?_)
      refine lv_iload_n gX gB dX6_moment_22 rfl (lv_at hl 2 rfl) ?_
      refine lv_if_lt (tgt := 31) gX gB dX6_moment_23 (by decide) (fun _ => ?_) (fun h9 => absurd (show w0 < (0 : Int32) from hw0) h9)
      refine lv_iconst (v := 2) gX gB dX6_moment_31 (by decide) ?_
      refine lv_goto (tgt := 36) gX gB dX6_moment_32 (by decide) ?_
      refine gx_putE C hW clX6 fX6_47 0 rfl (Or.inl rfl) rfl rfl (Nat.le_of_ble_eq_true rfl) dX6_moment_36 (fun H locs hW => ?_)
      have hW : gx_W G A s ([(ad 0, .inr (11, [.int 2, .int (nI pn), .ref (ad 1), .ref (ad 2), .ref (ad 3), .ref (ad 4), .ref (ad 5), .int (nI fn), .ref (ad 6), .ref (ad 7), .int (nI dn), .ref (ad 8), .long ex, .long ey, .long eg, .int (nI cn), .ref (ad 9), .ref (ad 10), .int (nI sn), .int at0, .int fl, .int (nI tn), .ref (ad 11), .ref (ad 12)])), (ad 1, .inl (G.2.1 2, 16, .inr (.inl px))), (ad 2, .inl (G.2.1 2, 16, .inr (.inl py))), (ad 3, .inl (G.2.1 2, 16, .inr (.inl pz))), (ad 4, .inl (G.2.1 2, 16, .inr (.inl gr))), (ad 5, .inl (G.2.1 2, 16, .inr (.inl ou))), (ad 6, .inl (G.2.1 2, 12, .inr (.inl fx))), (ad 7, .inl (G.2.1 2, 12, .inr (.inl fy))), (ad 8, .inl (G.2.1 1, 8, .inl od)), (ad 9, .inl (G.2.1 1, 12, .inl cr)), (ad 10, .inl (G.2.1 1, 200, .inl ty)), (ad 11, .inl (G.2.1 1, 48, .inl to_)), (ad 12, .inl (G.2.1 1, 48, .inl dr))]) H locs := hW
      refine lv_aload_n gX gB dX6_moment_39 rfl (lv_at hl 0 rfl) ?_
      refine gx_get C hW fX6_47 ⟨0, rfl⟩ rfl dX6_moment_40 ?_
      refine lv_if_le (tgt := 50) gX gB dX6_moment_43 (by decide) (fun h9 => absurd (show 2 ≤ (0 : Int32) from h9) (by decide)) (fun _ => ?_)
      refine lv_lconst (v := 0) gX gB dX6_moment_46 (by decide) ?_
      refine lv_goto (tgt := 77) gX gB dX6_moment_47 (by decide) ?_
      exact gx_lret C hr hW (Or.inr ⟨by rw [e3]; decide, rfl, by rw [e3]⟩) (Nat.le_of_ble_eq_true rfl) (Nat.le_of_ble_eq_true rfl) dX6_moment_77
    · have e3 : mm_code (sn_of cn) k0 w0 = 2 := by rw [mm_code, if_neg e2, if_pos (by rw [e0]; exact Or.inr (Or.inr (Or.inr hw1)))]
      refine lv_iload_n gX gB dX6_moment_10 rfl (lv_at hl 1 rfl) ?_
      refine lv_if_lt (tgt := 31) gX gB dX6_moment_11 (by decide) (fun h9 => absurd (show k0 < (0 : Int32) from h9) (hk0)) (fun _ => ?_)
      refine lv_iload_n gX gB dX6_moment_14 rfl (lv_at hl 1 rfl) ?_
      refine lv_aload_n gX gB dX6_moment_15 rfl (lv_at hl 0 rfl) ?_
      refine gx_get C hW fX6_95 ⟨0, rfl⟩ rfl dX6_moment_16 ?_
      refine lv_icmp_ge (tgt := 31) gX gB dX6_moment_19 (by decide) (fun h9 => absurd (show (nI cn) ≤ k0 from h9) (Int32.not_le.mpr hk1)) (fun _ => ?_)
      refine lv_iload_n gX gB dX6_moment_22 rfl (lv_at hl 2 rfl) ?_
      refine lv_if_lt (tgt := 31) gX gB dX6_moment_23 (by decide) (fun h9 => absurd (show w0 < (0 : Int32) from h9) (hw0)) (fun _ => ?_)
      refine lv_iload_n gX gB dX6_moment_26 rfl (lv_at hl 2 rfl) ?_
      refine lv_iconst (v := 1) gX gB dX6_moment_27 (by decide) ?_
      refine lv_icmp_le (tgt := 35) gX gB dX6_moment_28 (by decide) (fun h9 => absurd (show w0 ≤ (1 : Int32) from h9) (Int32.not_le.mpr hw1)) (fun _ => ?_)
      refine lv_iconst (v := 2) gX gB dX6_moment_31 (by decide) ?_
      refine lv_goto (tgt := 36) gX gB dX6_moment_32 (by decide) ?_
      refine gx_putE C hW clX6 fX6_47 0 rfl (Or.inl rfl) rfl rfl (Nat.le_of_ble_eq_true rfl) dX6_moment_36 (fun H locs hW => ?_)
      have hW : gx_W G A s ([(ad 0, .inr (11, [.int 2, .int (nI pn), .ref (ad 1), .ref (ad 2), .ref (ad 3), .ref (ad 4), .ref (ad 5), .int (nI fn), .ref (ad 6), .ref (ad 7), .int (nI dn), .ref (ad 8), .long ex, .long ey, .long eg, .int (nI cn), .ref (ad 9), .ref (ad 10), .int (nI sn), .int at0, .int fl, .int (nI tn), .ref (ad 11), .ref (ad 12)])), (ad 1, .inl (G.2.1 2, 16, .inr (.inl px))), (ad 2, .inl (G.2.1 2, 16, .inr (.inl py))), (ad 3, .inl (G.2.1 2, 16, .inr (.inl pz))), (ad 4, .inl (G.2.1 2, 16, .inr (.inl gr))), (ad 5, .inl (G.2.1 2, 16, .inr (.inl ou))), (ad 6, .inl (G.2.1 2, 12, .inr (.inl fx))), (ad 7, .inl (G.2.1 2, 12, .inr (.inl fy))), (ad 8, .inl (G.2.1 1, 8, .inl od)), (ad 9, .inl (G.2.1 1, 12, .inl cr)), (ad 10, .inl (G.2.1 1, 200, .inl ty)), (ad 11, .inl (G.2.1 1, 48, .inl to_)), (ad 12, .inl (G.2.1 1, 48, .inl dr))]) H locs := hW
      refine lv_aload_n gX gB dX6_moment_39 rfl (lv_at hl 0 rfl) ?_
      refine gx_get C hW fX6_47 ⟨0, rfl⟩ rfl dX6_moment_40 ?_
      refine lv_if_le (tgt := 50) gX gB dX6_moment_43 (by decide) (fun h9 => absurd (show 2 ≤ (0 : Int32) from h9) (by decide)) (fun _ => ?_)
      refine lv_lconst (v := 0) gX gB dX6_moment_46 (by decide) ?_
      refine lv_goto (tgt := 77) gX gB dX6_moment_47 (by decide) ?_
      exact gx_lret C hr hW (Or.inr ⟨by rw [e3]; decide, rfl, by rw [e3]⟩) (Nat.le_of_ble_eq_true rfl) (Nat.le_of_ble_eq_true rfl) dX6_moment_77
    · have e3 : mm_code (sn_of cn) k0 w0 = 0 := by rw [mm_code, if_neg e2, if_neg (by rw [e0]; exact fun zz => zz.elim hk0 (fun z2 => z2.elim (fun z3 => z3 hk1) (fun z4 => z4.elim hw0 hw1)))]
      obtain ⟨k, hk31, rfl⟩ := nI_of hk0
      have hkc : k < cn := (nI_ltI hk31 (by omega)).mp hk1
      have hl : lv_has ls 3 [(0, .ref (ad 0)), (1, .int (nI k)), (2, .int w0)] := hl
      refine lv_iload_n gX gB dX6_moment_10 rfl (lv_at hl 1 rfl) ?_
      refine lv_if_lt (tgt := 31) gX gB dX6_moment_11 (by decide) (fun h9 => absurd (show (nI k) < (0 : Int32) from h9) (hk0)) (fun _ => ?_)
      refine lv_iload_n gX gB dX6_moment_14 rfl (lv_at hl 1 rfl) ?_
      refine lv_aload_n gX gB dX6_moment_15 rfl (lv_at hl 0 rfl) ?_
      refine gx_get C hW fX6_95 ⟨0, rfl⟩ rfl dX6_moment_16 ?_
      refine lv_icmp_ge (tgt := 31) gX gB dX6_moment_19 (by decide) (fun h9 => absurd (show (nI cn) ≤ (nI k) from h9) (Int32.not_le.mpr hk1)) (fun _ => ?_)
      refine lv_iload_n gX gB dX6_moment_22 rfl (lv_at hl 2 rfl) ?_
      refine lv_if_lt (tgt := 31) gX gB dX6_moment_23 (by decide) (fun h9 => absurd (show w0 < (0 : Int32) from h9) (hw0)) (fun _ => ?_)
      refine lv_iload_n gX gB dX6_moment_26 rfl (lv_at hl 2 rfl) ?_
      refine lv_iconst (v := 1) gX gB dX6_moment_27 (by decide) ?_
      refine lv_icmp_le (tgt := 35) gX gB dX6_moment_28 (by decide) (fun _ => ?_) (fun h9 => absurd (show w0 ≤ (1 : Int32) from Int32.not_lt.mp hw1) h9)
      refine lv_iconst (v := 0) gX gB dX6_moment_35 (by decide) ?_
      refine gx_putE C hW clX6 fX6_47 0 rfl (Or.inl rfl) rfl rfl (Nat.le_of_ble_eq_true rfl) dX6_moment_36 (fun H locs hW => ?_)
      have hW : gx_W G A s ([(ad 0, .inr (11, [.int 0, .int (nI pn), .ref (ad 1), .ref (ad 2), .ref (ad 3), .ref (ad 4), .ref (ad 5), .int (nI fn), .ref (ad 6), .ref (ad 7), .int (nI dn), .ref (ad 8), .long ex, .long ey, .long eg, .int (nI cn), .ref (ad 9), .ref (ad 10), .int (nI sn), .int at0, .int fl, .int (nI tn), .ref (ad 11), .ref (ad 12)])), (ad 1, .inl (G.2.1 2, 16, .inr (.inl px))), (ad 2, .inl (G.2.1 2, 16, .inr (.inl py))), (ad 3, .inl (G.2.1 2, 16, .inr (.inl pz))), (ad 4, .inl (G.2.1 2, 16, .inr (.inl gr))), (ad 5, .inl (G.2.1 2, 16, .inr (.inl ou))), (ad 6, .inl (G.2.1 2, 12, .inr (.inl fx))), (ad 7, .inl (G.2.1 2, 12, .inr (.inl fy))), (ad 8, .inl (G.2.1 1, 8, .inl od)), (ad 9, .inl (G.2.1 1, 12, .inl cr)), (ad 10, .inl (G.2.1 1, 200, .inl ty)), (ad 11, .inl (G.2.1 1, 48, .inl to_)), (ad 12, .inl (G.2.1 1, 48, .inl dr))]) H locs := hW
      refine lv_aload_n gX gB dX6_moment_39 rfl (lv_at hl 0 rfl) ?_
      refine gx_get C hW fX6_47 ⟨0, rfl⟩ rfl dX6_moment_40 ?_
      refine lv_if_le (tgt := 50) gX gB dX6_moment_43 (by decide) (fun _ => ?_) (fun h9 => absurd (show 0 ≤ (0 : Int32) from by decide) h9)
      refine lv_aload_n gX gB dX6_moment_50 rfl (lv_at hl 0 rfl) ?_
      refine lv_iload_n gX gB dX6_moment_51 rfl (lv_at hl 1 rfl) ?_
      refine lv_iconst (v := 0) gX gB dX6_moment_52 (by decide) ?_
      refine lv_aload_n gX gB dX6_moment_53 rfl (lv_at hl 0 rfl) ?_
      refine gx_get C hW fX6_77 ⟨0, rfl⟩ rfl dX6_moment_54 ?_
      refine lv_aload_n gX gB dX6_moment_57 rfl (lv_at hl 0 rfl) ?_
      refine gx_get C hW fX6_81 ⟨0, rfl⟩ rfl dX6_moment_58 ?_
      refine lv_iload_n gX gB dX6_moment_61 rfl (lv_at hl 2 rfl) ?_
      refine lv_iconst (v := 1) gX gB dX6_moment_62 (by decide) ?_
      refine lv_icmp_ne (tgt := 73) gX gB dX6_moment_63 (by decide) (fun c63 => ?_) (fun c63 => ?_)
      · refine lv_lconst (v := 0) gX gB dX6_moment_73 (by decide) ?_
        refine gx_callV (wr := []) (rest := []) C hW sX6_109 (kX6_momentOf l G ad 0 pn fn dn cn sn tn ex ey eg at0 fl px py pz gr ou fx fy od cr ty to_ dr hpn hcn cf hcr hcf 0 (Nat.zero_le _) (yy 0) (hyy 0 (Nat.zero_le _)) ex ey 0 k hkc) ⟨0, rfl⟩ rfl rfl ⟨(Nat.le_of_ble_eq_true rfl), (Nat.le_of_ble_eq_true rfl)⟩ hl.1 rfl (Nat.le_of_ble_eq_true rfl) dX6_moment_74 ⟨(Nat.le_of_ble_eq_true rfl), (Nat.le_of_ble_eq_true rfl)⟩ (fun v9 u9 H locs hp hW => ?_)
        obtain ⟨rfl, hu⟩ := hp
        rw [hu] at hW
        have hW : gx_W G A s ([(ad 0, .inr (11, [.int 0, .int (nI pn), .ref (ad 1), .ref (ad 2), .ref (ad 3), .ref (ad 4), .ref (ad 5), .int (nI fn), .ref (ad 6), .ref (ad 7), .int (nI dn), .ref (ad 8), .long ex, .long ey, .long eg, .int (nI cn), .ref (ad 9), .ref (ad 10), .int (nI sn), .int at0, .int fl, .int (nI tn), .ref (ad 11), .ref (ad 12)])), (ad 1, .inl (G.2.1 2, 16, .inr (.inl px))), (ad 2, .inl (G.2.1 2, 16, .inr (.inl py))), (ad 3, .inl (G.2.1 2, 16, .inr (.inl pz))), (ad 4, .inl (G.2.1 2, 16, .inr (.inl gr))), (ad 5, .inl (G.2.1 2, 16, .inr (.inl ou))), (ad 6, .inl (G.2.1 2, 12, .inr (.inl fx))), (ad 7, .inl (G.2.1 2, 12, .inr (.inl fy))), (ad 8, .inl (G.2.1 1, 8, .inl od)), (ad 9, .inl (G.2.1 1, 12, .inl cr)), (ad 10, .inl (G.2.1 1, 200, .inl ty)), (ad 11, .inl (G.2.1 1, 48, .inl to_)), (ad 12, .inl (G.2.1 1, 48, .inl dr))]) H locs := hW
        refine W.eq (g2 := F0 m 77 ls [.long (rf_mom fx fy px gr (yy 0) cf cn pn ex ey 0 k)]) rfl ?_
        refine W.widen (k := 0) (n := 0) (Nat.le_of_ble_eq_true rfl) (Nat.le_of_ble_eq_true rfl) ?_
        exact gx_lret C hr hW (Or.inl ⟨e3, by rw [nI_clamp hk31, if_neg c63], rfl⟩) (Nat.le_of_ble_eq_true rfl) (Nat.le_of_ble_eq_true rfl) dX6_moment_77
      · refine lv_aload_n gX gB dX6_moment_66 rfl (lv_at hl 0 rfl) ?_
        refine gx_get C hW fX6_84 ⟨0, rfl⟩ rfl dX6_moment_67 ?_
        refine lv_goto (tgt := 74) gX gB dX6_moment_70 (by decide) ?_
        refine gx_callV (wr := []) (rest := []) C hW sX6_109 (kX6_momentOf l G ad 0 pn fn dn cn sn tn ex ey eg at0 fl px py pz gr ou fx fy od cr ty to_ dr hpn hcn cf hcr hcf 0 (Nat.zero_le _) (yy 0) (hyy 0 (Nat.zero_le _)) ex ey eg k hkc) ⟨0, rfl⟩ rfl rfl ⟨(Nat.le_of_ble_eq_true rfl), (Nat.le_of_ble_eq_true rfl)⟩ hl.1 rfl (Nat.le_of_ble_eq_true rfl) dX6_moment_74 ⟨(Nat.le_of_ble_eq_true rfl), (Nat.le_of_ble_eq_true rfl)⟩ (fun v9 u9 H locs hp hW => ?_)
        obtain ⟨rfl, hu⟩ := hp
        rw [hu] at hW
        have hW : gx_W G A s ([(ad 0, .inr (11, [.int 0, .int (nI pn), .ref (ad 1), .ref (ad 2), .ref (ad 3), .ref (ad 4), .ref (ad 5), .int (nI fn), .ref (ad 6), .ref (ad 7), .int (nI dn), .ref (ad 8), .long ex, .long ey, .long eg, .int (nI cn), .ref (ad 9), .ref (ad 10), .int (nI sn), .int at0, .int fl, .int (nI tn), .ref (ad 11), .ref (ad 12)])), (ad 1, .inl (G.2.1 2, 16, .inr (.inl px))), (ad 2, .inl (G.2.1 2, 16, .inr (.inl py))), (ad 3, .inl (G.2.1 2, 16, .inr (.inl pz))), (ad 4, .inl (G.2.1 2, 16, .inr (.inl gr))), (ad 5, .inl (G.2.1 2, 16, .inr (.inl ou))), (ad 6, .inl (G.2.1 2, 12, .inr (.inl fx))), (ad 7, .inl (G.2.1 2, 12, .inr (.inl fy))), (ad 8, .inl (G.2.1 1, 8, .inl od)), (ad 9, .inl (G.2.1 1, 12, .inl cr)), (ad 10, .inl (G.2.1 1, 200, .inl ty)), (ad 11, .inl (G.2.1 1, 48, .inl to_)), (ad 12, .inl (G.2.1 1, 48, .inl dr))]) H locs := hW
        refine W.eq (g2 := F0 m 77 ls [.long (rf_mom fx fy px gr (yy 0) cf cn pn ex ey eg k)]) rfl ?_
        refine W.widen (k := 0) (n := 0) (Nat.le_of_ble_eq_true rfl) (Nat.le_of_ble_eq_true rfl) ?_
        exact gx_lret C hr hW (Or.inl ⟨e3, by rw [nI_clamp hk31, if_pos c63], rfl⟩) (Nat.le_of_ble_eq_true rfl) (Nat.le_of_ble_eq_true rfl) dX6_moment_77
theorem up_le (mom : Nat → Int64) : ∀ n i, up_at mom n i ≤ n + i := by
  intro n
  induction n with
  | zero => intro i; exact Nat.zero_le _
  | succ n ih =>
    intro i
    show (if mom i < 0 then i + 1 else up_at mom n (i + 1)) ≤ n + 1 + i
    split
    · omega
    · have := ih (i + 1)
      omega
set_option maxHeartbeats 4000000 in
set_option maxRecDepth 100000 in
theorem kX6_most (l : Launch) (G : gx_T) (ad : Nat → Nat) (cd : Int32) (pn fn dn cn sn tn : Nat) (ex ey eg : Int64) (at0 fl : Int32) (px py pz gr ou fx fy : Nat → Int64) (od cr ty to_ dr : Nat → Int32) (hpn : pn ≤ 16) (hcn : cn ≤ 12) (cf : Nat → Nat) (hcr : ∀ i, i < cn → cr i = nI (cf i)) (hcf : ∀ i, i < cn → cf i < 12) (hdn8 : dn ≤ 8) (yy : Nat → Nat → Int64) (hyy : ∀ q, q ≤ dn → ∀ k, k < pn → yy_ok py ou od q k (yy q k)) : gx_M l G yX6_most cX6_most 2 (some .int) ({ frames := 3, cells := 0, slots := 0, locals := 96 } : Room) [.ref (ad 0)] ([(ad 0, .inr (11, [.int cd, .int (nI pn), .ref (ad 1), .ref (ad 2), .ref (ad 3), .ref (ad 4), .ref (ad 5), .int (nI fn), .ref (ad 6), .ref (ad 7), .int (nI dn), .ref (ad 8), .long ex, .long ey, .long eg, .int (nI cn), .ref (ad 9), .ref (ad 10), .int (nI sn), .int at0, .int fl, .int (nI tn), .ref (ad 11), .ref (ad 12)])), (ad 1, .inl (G.2.1 2, 16, .inr (.inl px))), (ad 2, .inl (G.2.1 2, 16, .inr (.inl py))), (ad 3, .inl (G.2.1 2, 16, .inr (.inl pz))), (ad 4, .inl (G.2.1 2, 16, .inr (.inl gr))), (ad 5, .inl (G.2.1 2, 16, .inr (.inl ou))), (ad 6, .inl (G.2.1 2, 12, .inr (.inl fx))), (ad 7, .inl (G.2.1 2, 12, .inr (.inl fy))), (ad 8, .inl (G.2.1 1, 8, .inl od)), (ad 9, .inl (G.2.1 1, 12, .inl cr)), (ad 10, .inl (G.2.1 1, 200, .inl ty)), (ad 11, .inl (G.2.1 1, 48, .inl to_)), (ad 12, .inl (G.2.1 1, 48, .inl dr))]) (fun v u => (ms_code (sn_of cn) = 0 ∧ v = some (.int (nI (ms_at (fun q => up_at (rf_mom fx fy px gr (yy q) cf cn pn ex ey eg) cn 0) (dn + 1)) - 1)) ∧ u = [(ad 0, .inr (11, [.int 0, .int (nI pn), .ref (ad 1), .ref (ad 2), .ref (ad 3), .ref (ad 4), .ref (ad 5), .int (nI fn), .ref (ad 6), .ref (ad 7), .int (nI dn), .ref (ad 8), .long ex, .long ey, .long eg, .int (nI cn), .ref (ad 9), .ref (ad 10), .int (nI sn), .int at0, .int fl, .int (nI tn), .ref (ad 11), .ref (ad 12)])), (ad 1, .inl (G.2.1 2, 16, .inr (.inl px))), (ad 2, .inl (G.2.1 2, 16, .inr (.inl py))), (ad 3, .inl (G.2.1 2, 16, .inr (.inl pz))), (ad 4, .inl (G.2.1 2, 16, .inr (.inl gr))), (ad 5, .inl (G.2.1 2, 16, .inr (.inl ou))), (ad 6, .inl (G.2.1 2, 12, .inr (.inl fx))), (ad 7, .inl (G.2.1 2, 12, .inr (.inl fy))), (ad 8, .inl (G.2.1 1, 8, .inl od)), (ad 9, .inl (G.2.1 1, 12, .inl cr)), (ad 10, .inl (G.2.1 1, 200, .inl ty)), (ad 11, .inl (G.2.1 1, 48, .inl to_)), (ad 12, .inl (G.2.1 1, 48, .inl dr))]) ∨ (¬ ms_code (sn_of cn) = 0 ∧ v = some (.int 0) ∧ u = [(ad 0, .inr (11, [.int (ms_code (sn_of cn)), .int (nI pn), .ref (ad 1), .ref (ad 2), .ref (ad 3), .ref (ad 4), .ref (ad 5), .int (nI fn), .ref (ad 6), .ref (ad 7), .int (nI dn), .ref (ad 8), .long ex, .long ey, .long eg, .int (nI cn), .ref (ad 9), .ref (ad 10), .int (nI sn), .int at0, .int fl, .int (nI tn), .ref (ad 11), .ref (ad 12)])), (ad 1, .inl (G.2.1 2, 16, .inr (.inl px))), (ad 2, .inl (G.2.1 2, 16, .inr (.inl py))), (ad 3, .inl (G.2.1 2, 16, .inr (.inl pz))), (ad 4, .inl (G.2.1 2, 16, .inr (.inl gr))), (ad 5, .inl (G.2.1 2, 16, .inr (.inl ou))), (ad 6, .inl (G.2.1 2, 12, .inr (.inl fx))), (ad 7, .inl (G.2.1 2, 12, .inr (.inl fy))), (ad 8, .inl (G.2.1 1, 8, .inl od)), (ad 9, .inl (G.2.1 1, 12, .inl cr)), (ad 10, .inl (G.2.1 1, 200, .inl ty)), (ad 11, .inl (G.2.1 1, 48, .inl to_)), (ad 12, .inl (G.2.1 1, 48, .inl dr))])) := by
  refine gx_start (by decide +kernel) (Nat.le_of_ble_eq_true rfl) ?_
  intro p e s m args below meth c A ls C hr hnm hW hl
  have gX := C.x
  have gB := C.b
  have hl : lv_has ls 2 [(0, .ref (ad 0))] := hl
  refine lv_aload_n gX gB dX6_most_0 rfl (lv_at hl 0 rfl) ?_
  refine gx_callV (wr := []) (rest := []) C hW sX6_113 (kX6_noPolygon l G ad cd pn fn dn cn sn tn ex ey eg at0 fl px py pz gr ou fx fy od cr ty to_ dr hcn) ⟨0, rfl⟩ rfl rfl ⟨(Nat.le_of_ble_eq_true rfl), (Nat.le_of_ble_eq_true rfl)⟩ hl.1 rfl (Nat.le_of_ble_eq_true rfl) dX6_most_1 ⟨(Nat.le_of_ble_eq_true rfl), (Nat.le_of_ble_eq_true rfl)⟩ (fun v9 u9 H locs hp hW => ?_)
  obtain ⟨rfl, hu⟩ := hp
  rw [hu] at hW
  have hW : gx_W G A s ([(ad 0, .inr (11, [.int (np_code cn), .int (nI pn), .ref (ad 1), .ref (ad 2), .ref (ad 3), .ref (ad 4), .ref (ad 5), .int (nI fn), .ref (ad 6), .ref (ad 7), .int (nI dn), .ref (ad 8), .long ex, .long ey, .long eg, .int (nI cn), .ref (ad 9), .ref (ad 10), .int (nI sn), .int at0, .int fl, .int (nI tn), .ref (ad 11), .ref (ad 12)])), (ad 1, .inl (G.2.1 2, 16, .inr (.inl px))), (ad 2, .inl (G.2.1 2, 16, .inr (.inl py))), (ad 3, .inl (G.2.1 2, 16, .inr (.inl pz))), (ad 4, .inl (G.2.1 2, 16, .inr (.inl gr))), (ad 5, .inl (G.2.1 2, 16, .inr (.inl ou))), (ad 6, .inl (G.2.1 2, 12, .inr (.inl fx))), (ad 7, .inl (G.2.1 2, 12, .inr (.inl fy))), (ad 8, .inl (G.2.1 1, 8, .inl od)), (ad 9, .inl (G.2.1 1, 12, .inl cr)), (ad 10, .inl (G.2.1 1, 200, .inl ty)), (ad 11, .inl (G.2.1 1, 48, .inl to_)), (ad 12, .inl (G.2.1 1, 48, .inl dr))]) H locs := hW
  refine W.eq (g2 := F0 m 4 ls [.int (np_code cn)]) rfl ?_
  refine W.widen (k := 0) (n := 0) (Nat.le_of_ble_eq_true rfl) (Nat.le_of_ble_eq_true rfl) ?_
  rcases Classical.em (cn < 3) with hcn3 | hcn3
  · have e1 : np_code cn = 1 := if_pos hcn3
    have e0 : sn_of cn = 0 := if_pos hcn3
    refine lv_if_eq (tgt := 9) gX gB dX6_most_4 (by decide) (fun h9 => absurd (show (np_code cn) = (0 : Int32) from h9) (by rw [e1]; decide)) (fun _ => ?_)
    refine lv_iconst (v := 0) gX gB dX6_most_7 (by decide) ?_
    exact gx_iret C hr hW (Or.inr ⟨by rw [show ms_code (sn_of cn) = 1 from if_pos e0]; decide, rfl, by rw [show ms_code (sn_of cn) = 1 from if_pos e0, e1]⟩) (Nat.le_of_ble_eq_true rfl) (Nat.le_of_ble_eq_true rfl) dX6_most_8
  · have e1 : np_code cn = 0 := if_neg hcn3
    have e0 : sn_of cn = cn := if_neg hcn3
    have e2 : ¬ sn_of cn = 0 := by rw [e0]; omega
    refine lv_if_eq (tgt := 9) gX gB dX6_most_4 (by decide) (fun _ => ?_) (fun h9 => absurd (show (np_code cn) = (0 : Int32) from e1) h9)
    refine lv_iconst (v := 0) gX gB dX6_most_9 (by decide) ?_
    refine lv_istore_n (lv' := [(1, .int 0), (0, .ref (ad 0))]) gX gB dX6_most_10 rfl hl (by decide) rfl (fun ls hl => ?_)
    have hl : lv_has ls 2 [(1, .int (nI 0)), (0, .ref (ad 0))] := hl
    have e3 : ms_code (sn_of cn) = 0 := by rw [ms_code, if_neg e2]
    have loop : ∀ (fu : Nat) (q : Nat), (dn + 2 - q < fu) → (q ≤ dn + 1) → (ms_at (fun q => up_at (rf_mom fx fy px gr (yy q) cf cn pn ex ey eg) cn 0) q = q) → ∀ (H : Heap) (locs : List Loc), gx_W G A s ([(ad 0, .inr (11, [.int (np_code cn), .int (nI pn), .ref (ad 1), .ref (ad 2), .ref (ad 3), .ref (ad 4), .ref (ad 5), .int (nI fn), .ref (ad 6), .ref (ad 7), .int (nI dn), .ref (ad 8), .long ex, .long ey, .long eg, .int (nI cn), .ref (ad 9), .ref (ad 10), .int (nI sn), .int at0, .int fl, .int (nI tn), .ref (ad 11), .ref (ad 12)])), (ad 1, .inl (G.2.1 2, 16, .inr (.inl px))), (ad 2, .inl (G.2.1 2, 16, .inr (.inl py))), (ad 3, .inl (G.2.1 2, 16, .inr (.inl pz))), (ad 4, .inl (G.2.1 2, 16, .inr (.inl gr))), (ad 5, .inl (G.2.1 2, 16, .inr (.inl ou))), (ad 6, .inl (G.2.1 2, 12, .inr (.inl fx))), (ad 7, .inl (G.2.1 2, 12, .inr (.inl fy))), (ad 8, .inl (G.2.1 1, 8, .inl od)), (ad 9, .inl (G.2.1 1, 12, .inl cr)), (ad 10, .inl (G.2.1 1, 200, .inl ty)), (ad 11, .inl (G.2.1 1, 48, .inl to_)), (ad 12, .inl (G.2.1 1, 48, .inl dr))]) H locs → ∀ ls : Array Slot, lv_has ls 2 [(1, .int (nI q)), (0, .ref (ad 0))] → W p l e ({ frames := 3, cells := 0, slots := 0, locals := 96 } : Room) s m args below meth c H locs 0 0 (MQ below (gx_Q G A (fun v u => (ms_code (sn_of cn) = 0 ∧ v = some (.int (nI (ms_at (fun q => up_at (rf_mom fx fy px gr (yy q) cf cn pn ex ey eg) cn 0) (dn + 1)) - 1)) ∧ u = [(ad 0, .inr (11, [.int 0, .int (nI pn), .ref (ad 1), .ref (ad 2), .ref (ad 3), .ref (ad 4), .ref (ad 5), .int (nI fn), .ref (ad 6), .ref (ad 7), .int (nI dn), .ref (ad 8), .long ex, .long ey, .long eg, .int (nI cn), .ref (ad 9), .ref (ad 10), .int (nI sn), .int at0, .int fl, .int (nI tn), .ref (ad 11), .ref (ad 12)])), (ad 1, .inl (G.2.1 2, 16, .inr (.inl px))), (ad 2, .inl (G.2.1 2, 16, .inr (.inl py))), (ad 3, .inl (G.2.1 2, 16, .inr (.inl pz))), (ad 4, .inl (G.2.1 2, 16, .inr (.inl gr))), (ad 5, .inl (G.2.1 2, 16, .inr (.inl ou))), (ad 6, .inl (G.2.1 2, 12, .inr (.inl fx))), (ad 7, .inl (G.2.1 2, 12, .inr (.inl fy))), (ad 8, .inl (G.2.1 1, 8, .inl od)), (ad 9, .inl (G.2.1 1, 12, .inl cr)), (ad 10, .inl (G.2.1 1, 200, .inl ty)), (ad 11, .inl (G.2.1 1, 48, .inl to_)), (ad 12, .inl (G.2.1 1, 48, .inl dr))]) ∨ (¬ ms_code (sn_of cn) = 0 ∧ v = some (.int 0) ∧ u = [(ad 0, .inr (11, [.int (ms_code (sn_of cn)), .int (nI pn), .ref (ad 1), .ref (ad 2), .ref (ad 3), .ref (ad 4), .ref (ad 5), .int (nI fn), .ref (ad 6), .ref (ad 7), .int (nI dn), .ref (ad 8), .long ex, .long ey, .long eg, .int (nI cn), .ref (ad 9), .ref (ad 10), .int (nI sn), .int at0, .int fl, .int (nI tn), .ref (ad 11), .ref (ad 12)])), (ad 1, .inl (G.2.1 2, 16, .inr (.inl px))), (ad 2, .inl (G.2.1 2, 16, .inr (.inl py))), (ad 3, .inl (G.2.1 2, 16, .inr (.inl pz))), (ad 4, .inl (G.2.1 2, 16, .inr (.inl gr))), (ad 5, .inl (G.2.1 2, 16, .inr (.inl ou))), (ad 6, .inl (G.2.1 2, 12, .inr (.inl fx))), (ad 7, .inl (G.2.1 2, 12, .inr (.inl fy))), (ad 8, .inl (G.2.1 1, 8, .inl od)), (ad 9, .inl (G.2.1 1, 12, .inl cr)), (ad 10, .inl (G.2.1 1, 200, .inl ty)), (ad 11, .inl (G.2.1 1, 48, .inl to_)), (ad 12, .inl (G.2.1 1, 48, .inl dr))]))) args s (({ frames := 3, cells := 0, slots := 0, locals := 96 } : Room)).cells (({ frames := 3, cells := 0, slots := 0, locals := 96 } : Room)).slots A) (F0 m 11 ls []) := by
      intro fu
      induction fu with
      | zero => intro q hfu hq hq0 H locs hW ls hl; exact absurd hfu (Nat.not_lt_zero _)
      | succ fu ih =>
        intro q hfu hq hq0 H locs hW ls hl
        rcases Nat.lt_or_ge dn q with hjk | hjk
        · refine lv_iload_n gX gB dX6_most_11 rfl (lv_at hl 0 rfl) ?_
          refine lv_aload_n gX gB dX6_most_12 rfl (lv_at hl 1 rfl) ?_
          refine gx_get C hW fX6_74 ⟨0, rfl⟩ rfl dX6_most_13 ?_
          refine lv_icmp_gt (tgt := 45) gX gB dX6_most_16 (by decide) (fun _ => ?_) (fun h9 => absurd (show (nI dn) < (nI q) from nI_lt hjk (by omega)) h9)
          refine lv_iload_n gX gB dX6_most_45 rfl (lv_at hl 0 rfl) ?_
          refine lv_iconst (v := 1) gX gB dX6_most_46 (by decide) ?_
          refine lv_isub gX gB dX6_most_47 ?_
          exact gx_iret C hr hW (Or.inl ⟨e3, by rw [show q = dn + 1 by omega] at hq0 ⊢; rw [hq0], by rw [e1]⟩) (Nat.le_of_ble_eq_true rfl) (Nat.le_of_ble_eq_true rfl) dX6_most_48
        · refine lv_iload_n gX gB dX6_most_11 rfl (lv_at hl 0 rfl) ?_
          refine lv_aload_n gX gB dX6_most_12 rfl (lv_at hl 1 rfl) ?_
          refine gx_get C hW fX6_74 ⟨0, rfl⟩ rfl dX6_most_13 ?_
          refine lv_icmp_gt (tgt := 45) gX gB dX6_most_16 (by decide) (fun h9 => absurd (show (nI dn) < (nI q) from h9) (nI_nlt hjk (by omega))) (fun _ => ?_)
          refine lv_aload_n gX gB dX6_most_19 rfl (lv_at hl 1 rfl) ?_
          refine lv_iload_n gX gB dX6_most_20 rfl (lv_at hl 0 rfl) ?_
          refine lv_aload_n gX gB dX6_most_21 rfl (lv_at hl 1 rfl) ?_
          refine gx_get C hW fX6_77 ⟨0, rfl⟩ rfl dX6_most_22 ?_
          refine lv_aload_n gX gB dX6_most_25 rfl (lv_at hl 1 rfl) ?_
          refine gx_get C hW fX6_81 ⟨0, rfl⟩ rfl dX6_most_26 ?_
          refine lv_aload_n gX gB dX6_most_29 rfl (lv_at hl 1 rfl) ?_
          refine gx_get C hW fX6_84 ⟨0, rfl⟩ rfl dX6_most_30 ?_
          refine gx_callV (wr := []) (rest := []) C hW sX6_117 (kX6_tipping l G ad (np_code cn) pn fn dn cn sn tn ex ey eg at0 fl px py pz gr ou fx fy od cr ty to_ dr hpn hcn cf hcr hcf q (by omega) (yy q) (hyy q (by omega)) ex ey eg) ⟨0, rfl⟩ rfl rfl ⟨(Nat.le_of_ble_eq_true rfl), (Nat.le_of_ble_eq_true rfl)⟩ hl.1 rfl (Nat.le_of_ble_eq_true rfl) dX6_most_33 ⟨(Nat.le_of_ble_eq_true rfl), (Nat.le_of_ble_eq_true rfl)⟩ (fun v9 u9 H locs hp hW => ?_)
          obtain ⟨rfl, hu⟩ := hp
          rw [hu] at hW
          have hW : gx_W G A s ([(ad 0, .inr (11, [.int (np_code cn), .int (nI pn), .ref (ad 1), .ref (ad 2), .ref (ad 3), .ref (ad 4), .ref (ad 5), .int (nI fn), .ref (ad 6), .ref (ad 7), .int (nI dn), .ref (ad 8), .long ex, .long ey, .long eg, .int (nI cn), .ref (ad 9), .ref (ad 10), .int (nI sn), .int at0, .int fl, .int (nI tn), .ref (ad 11), .ref (ad 12)])), (ad 1, .inl (G.2.1 2, 16, .inr (.inl px))), (ad 2, .inl (G.2.1 2, 16, .inr (.inl py))), (ad 3, .inl (G.2.1 2, 16, .inr (.inl pz))), (ad 4, .inl (G.2.1 2, 16, .inr (.inl gr))), (ad 5, .inl (G.2.1 2, 16, .inr (.inl ou))), (ad 6, .inl (G.2.1 2, 12, .inr (.inl fx))), (ad 7, .inl (G.2.1 2, 12, .inr (.inl fy))), (ad 8, .inl (G.2.1 1, 8, .inl od)), (ad 9, .inl (G.2.1 1, 12, .inl cr)), (ad 10, .inl (G.2.1 1, 200, .inl ty)), (ad 11, .inl (G.2.1 1, 48, .inl to_)), (ad 12, .inl (G.2.1 1, 48, .inl dr))]) H locs := hW
          refine W.eq (g2 := F0 m 36 ls [.int (nI (up_at (rf_mom fx fy px gr (yy q) cf cn pn ex ey eg) cn 0))]) rfl ?_
          refine W.widen (k := 0) (n := 0) (Nat.le_of_ble_eq_true rfl) (Nat.le_of_ble_eq_true rfl) ?_
          refine lv_if_ne (tgt := 45) gX gB dX6_most_36 (by decide) (fun c36 => ?_) (fun c36 => ?_)
          · refine lv_iload_n gX gB dX6_most_45 rfl (lv_at hl 0 rfl) ?_
            refine lv_iconst (v := 1) gX gB dX6_most_46 (by decide) ?_
            refine lv_isub gX gB dX6_most_47 ?_
            exact gx_iret C hr hW (Or.inl ⟨e3, by rw [ms_stop hq0 (fun zz => c36 (by rw [zz]; rfl)) (dn + 1) (by omega)], by rw [e1]⟩) (Nat.le_of_ble_eq_true rfl) (Nat.le_of_ble_eq_true rfl) dX6_most_48
          · refine lv_iinc (v := nI (q + 1)) (lv' := [(1, .int (nI (q + 1))), (0, .ref (ad 0))]) gX gB dX6_most_39 hl (k := 0) rfl (by exact nI_1 q) (by decide) rfl (fun ls hl => ?_)
            refine lv_goto (tgt := 11) gX gB dX6_most_42 (by decide) ?_
            exact ih (q + 1) (by omega) (by omega) (ms_go hq0 ((nI_eq (b := 0) (by have := up_le (rf_mom fx fy px gr (yy q) cf cn pn ex ey eg) cn 0; omega) (by decide)).mp c36)) _ _ hW ls (lv_sub hl [0, 1] rfl)
    exact loop (dn + 3) 0 (by omega) (Nat.zero_le _) rfl _ _ hW ls (lv_sub hl [0, 1] rfl)
