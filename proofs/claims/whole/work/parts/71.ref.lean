/-! THE REFERENCE: unit, cross, openIn, testAt, test, anchor. -/
def op_q (dn d : Nat) : Nat := if dn < d then dn else d
theorem op_q_le (dn d : Nat) : op_q dn d ≤ dn := by
  unfold op_q
  split <;> omega
def cr_s (fx fy : Nat → Int64) (a b : Nat) : Int64 := (fx a - fx 0) * (fy b - fy 0) - (fy a - fy 0) * (fx b - fx 0)
theorem nI_4 (k : Nat) : 4 * nI k = nI (4 * k) := (Int32.ofNat_mul 4 k).symm
def tv_at (fx fy px gr : Nat → Int64) (yy : Nat → Nat → Int64) (cf : Nat → Nat) (to_ : Nat → Int32) (dk : Nat → Nat) (dn cn pn k : Nat) : Nat := up_at (rf_mom fx fy px gr (yy (op_q dn (dk k))) cf cn pn (to_ (4 * k)).toInt64 (to_ (4 * k + 1)).toInt64 (to_ (4 * k + 2)).toInt64) cn 0
set_option maxHeartbeats 4000000 in
set_option maxRecDepth 100000 in
theorem kX6_unit (l : Launch) (G : gx_T) (ad : Nat → Nat) (cd : Int32) (pn fn dn cn sn tn : Nat) (ex ey eg : Int64) (at0 fl : Int32) (px py pz gr ou fx fy : Nat → Int64) (od cr ty to_ dr : Nat → Int32) (hsn : sn ≤ 200) (u0 : Int32) : gx_M l G yX6_unit cX6_unit 3 (some .boolean) ({ frames := 0, cells := 0, slots := 0, locals := 0 } : Room) [.ref (ad 0), .int u0] ([(ad 0, .inr (11, [.int cd, .int (nI pn), .ref (ad 1), .ref (ad 2), .ref (ad 3), .ref (ad 4), .ref (ad 5), .int (nI fn), .ref (ad 6), .ref (ad 7), .int (nI dn), .ref (ad 8), .long ex, .long ey, .long eg, .int (nI cn), .ref (ad 9), .ref (ad 10), .int (nI sn), .int at0, .int fl, .int (nI tn), .ref (ad 11), .ref (ad 12)])), (ad 1, .inl (G.2.1 2, 16, .inr (.inl px))), (ad 2, .inl (G.2.1 2, 16, .inr (.inl py))), (ad 3, .inl (G.2.1 2, 16, .inr (.inl pz))), (ad 4, .inl (G.2.1 2, 16, .inr (.inl gr))), (ad 5, .inl (G.2.1 2, 16, .inr (.inl ou))), (ad 6, .inl (G.2.1 2, 12, .inr (.inl fx))), (ad 7, .inl (G.2.1 2, 12, .inr (.inl fy))), (ad 8, .inl (G.2.1 1, 8, .inl od)), (ad 9, .inl (G.2.1 1, 12, .inl cr)), (ad 10, .inl (G.2.1 1, 200, .inl ty)), (ad 11, .inl (G.2.1 1, 48, .inl to_)), (ad 12, .inl (G.2.1 1, 48, .inl dr))]) (fun v u => (un_ok sn u0 ∧ v = some (.int 1) ∧ u = [(ad 0, .inr (11, [.int 0, .int (nI pn), .ref (ad 1), .ref (ad 2), .ref (ad 3), .ref (ad 4), .ref (ad 5), .int (nI fn), .ref (ad 6), .ref (ad 7), .int (nI dn), .ref (ad 8), .long ex, .long ey, .long eg, .int (nI cn), .ref (ad 9), .ref (ad 10), .int (nI (sn + 1)), .int at0, .int fl, .int (nI tn), .ref (ad 11), .ref (ad 12)])), (ad 1, .inl (G.2.1 2, 16, .inr (.inl px))), (ad 2, .inl (G.2.1 2, 16, .inr (.inl py))), (ad 3, .inl (G.2.1 2, 16, .inr (.inl pz))), (ad 4, .inl (G.2.1 2, 16, .inr (.inl gr))), (ad 5, .inl (G.2.1 2, 16, .inr (.inl ou))), (ad 6, .inl (G.2.1 2, 12, .inr (.inl fx))), (ad 7, .inl (G.2.1 2, 12, .inr (.inl fy))), (ad 8, .inl (G.2.1 1, 8, .inl od)), (ad 9, .inl (G.2.1 1, 12, .inl cr)), (ad 10, .inl (G.2.1 1, 200, .inl (upd ty sn u0))), (ad 11, .inl (G.2.1 1, 48, .inl to_)), (ad 12, .inl (G.2.1 1, 48, .inl dr))]) ∨ (¬ un_ok sn u0 ∧ v = some (.int 0) ∧ u = [(ad 0, .inr (11, [.int 0, .int (nI pn), .ref (ad 1), .ref (ad 2), .ref (ad 3), .ref (ad 4), .ref (ad 5), .int (nI fn), .ref (ad 6), .ref (ad 7), .int (nI dn), .ref (ad 8), .long ex, .long ey, .long eg, .int (nI cn), .ref (ad 9), .ref (ad 10), .int (nI sn), .int at0, .int fl, .int (nI tn), .ref (ad 11), .ref (ad 12)])), (ad 1, .inl (G.2.1 2, 16, .inr (.inl px))), (ad 2, .inl (G.2.1 2, 16, .inr (.inl py))), (ad 3, .inl (G.2.1 2, 16, .inr (.inl pz))), (ad 4, .inl (G.2.1 2, 16, .inr (.inl gr))), (ad 5, .inl (G.2.1 2, 16, .inr (.inl ou))), (ad 6, .inl (G.2.1 2, 12, .inr (.inl fx))), (ad 7, .inl (G.2.1 2, 12, .inr (.inl fy))), (ad 8, .inl (G.2.1 1, 8, .inl od)), (ad 9, .inl (G.2.1 1, 12, .inl cr)), (ad 10, .inl (G.2.1 1, 200, .inl ty)), (ad 11, .inl (G.2.1 1, 48, .inl to_)), (ad 12, .inl (G.2.1 1, 48, .inl dr))])) := by
  refine gx_start (by decide +kernel) (Nat.le_of_ble_eq_true rfl) ?_
  intro p e s m args below meth c A ls C hr hnm hW hl
  have gX := C.x
  have gB := C.b
  have hl : lv_has ls 3 [(0, .ref (ad 0)), (1, .int u0)] := hl
  refine lv_aload_n gX gB dX6_unit_0 rfl (lv_at hl 0 rfl) ?_
  refine lv_iconst (v := 0) gX gB dX6_unit_1 (by decide) ?_
  refine gx_putE C hW clX6 fX6_47 0 rfl (Or.inl rfl) rfl rfl (Nat.le_of_ble_eq_true rfl) dX6_unit_2 (fun H locs hW => ?_)
  have hW : gx_W G A s ([(ad 0, .inr (11, [.int 0, .int (nI pn), .ref (ad 1), .ref (ad 2), .ref (ad 3), .ref (ad 4), .ref (ad 5), .int (nI fn), .ref (ad 6), .ref (ad 7), .int (nI dn), .ref (ad 8), .long ex, .long ey, .long eg, .int (nI cn), .ref (ad 9), .ref (ad 10), .int (nI sn), .int at0, .int fl, .int (nI tn), .ref (ad 11), .ref (ad 12)])), (ad 1, .inl (G.2.1 2, 16, .inr (.inl px))), (ad 2, .inl (G.2.1 2, 16, .inr (.inl py))), (ad 3, .inl (G.2.1 2, 16, .inr (.inl pz))), (ad 4, .inl (G.2.1 2, 16, .inr (.inl gr))), (ad 5, .inl (G.2.1 2, 16, .inr (.inl ou))), (ad 6, .inl (G.2.1 2, 12, .inr (.inl fx))), (ad 7, .inl (G.2.1 2, 12, .inr (.inl fy))), (ad 8, .inl (G.2.1 1, 8, .inl od)), (ad 9, .inl (G.2.1 1, 12, .inl cr)), (ad 10, .inl (G.2.1 1, 200, .inl ty)), (ad 11, .inl (G.2.1 1, 48, .inl to_)), (ad 12, .inl (G.2.1 1, 48, .inl dr))]) H locs := hW
  refine lv_aload_n gX gB dX6_unit_5 rfl (lv_at hl 0 rfl) ?_
  rcases (by rcases Nat.lt_or_ge sn 200 with h3 | h3; (rcases Classical.em (u0 < 32) with h | h; exact Or.inr (Or.inl ⟨h3, h⟩); rcases Classical.em (126 < u0) with h2 | h2; exact Or.inr (Or.inr (Or.inl ⟨h3, h, h2⟩)); exact Or.inr (Or.inr (Or.inr ⟨h3, h, h2⟩))); exact Or.inl h3 : 200 ≤ sn ∨ (sn < 200 ∧ u0 < 32) ∨ (sn < 200 ∧ ¬ u0 < 32 ∧ 126 < u0) ∨ (sn < 200 ∧ ¬ u0 < 32 ∧ ¬ 126 < u0)) with h200 | ⟨h200, h32⟩ | ⟨h200, h32, h126⟩ | ⟨h200, h32, h126⟩
  · refine gx_get C hW fX6_121 ⟨0, rfl⟩ rfl dX6_unit_6 ?_
    refine lv_sipush (v := 200) gX gB dX6_unit_9 (by decide) ?_
    refine lv_icmp_ge (tgt := 31) gX gB dX6_unit_12 (by decide) (fun _ => ?_) (fun h9 => absurd (show (200 : Int32) ≤ (nI sn) from nI_le (a := 200) h200 (by omega)) h9)
    refine lv_iconst (v := 0) gX gB dX6_unit_31 (by decide) ?_
    refine lv_istore_n (lv' := [(2, .int 0), (0, .ref (ad 0)), (1, .int u0)]) gX gB dX6_unit_32 rfl hl (by decide) rfl (fun ls hl => ?_)
    refine lv_iload_n gX gB dX6_unit_33 rfl (lv_at hl 0 rfl) ?_
    refine lv_if_eq (tgt := 57) gX gB dX6_unit_34 (by decide) (fun _ => ?_) (fun h9 => absurd (show 0 = (0 : Int32) from by decide) h9)
    refine lv_iload_n gX gB dX6_unit_57 rfl (lv_at hl 0 rfl) ?_
    exact gx_zret C hr (by decide) hW (Or.inr ⟨fun zz => absurd zz.2.2 (by omega), rfl, rfl⟩) (Nat.le_of_ble_eq_true rfl) (Nat.le_of_ble_eq_true rfl) dX6_unit_58
  · refine gx_get C hW fX6_121 ⟨0, rfl⟩ rfl dX6_unit_6 ?_
    refine lv_sipush (v := 200) gX gB dX6_unit_9 (by decide) ?_
    refine lv_icmp_ge (tgt := 31) gX gB dX6_unit_12 (by decide) (fun h9 => absurd (show (200 : Int32) ≤ (nI sn) from h9) (Int32.not_le.mpr ((nI_ltI (a := sn) (b := 200) (by omega) (by decide)).mpr h200))) (fun _ => ?_)
    refine lv_iload_n gX gB dX6_unit_15 rfl (lv_at hl 1 rfl) ?_
    refine lv_bipush (v := 32) gX gB dX6_unit_16 (by decide) ?_
    refine lv_icmp_lt (tgt := 31) gX gB dX6_unit_18 (by decide) (fun _ => ?_) (fun h9 => absurd (show u0 < (32 : Int32) from h32) h9)
    refine lv_iconst (v := 0) gX gB dX6_unit_31 (by decide) ?_
    refine lv_istore_n (lv' := [(2, .int 0), (0, .ref (ad 0)), (1, .int u0)]) gX gB dX6_unit_32 rfl hl (by decide) rfl (fun ls hl => ?_)
    refine lv_iload_n gX gB dX6_unit_33 rfl (lv_at hl 0 rfl) ?_
    refine lv_if_eq (tgt := 57) gX gB dX6_unit_34 (by decide) (fun _ => ?_) (fun h9 => absurd (show 0 = (0 : Int32) from by decide) h9)
    refine lv_iload_n gX gB dX6_unit_57 rfl (lv_at hl 0 rfl) ?_
    exact gx_zret C hr (by decide) hW (Or.inr ⟨fun zz => zz.1 h32, rfl, rfl⟩) (Nat.le_of_ble_eq_true rfl) (Nat.le_of_ble_eq_true rfl) dX6_unit_58
  · refine gx_get C hW fX6_121 ⟨0, rfl⟩ rfl dX6_unit_6 ?_
    refine lv_sipush (v := 200) gX gB dX6_unit_9 (by decide) ?_
    refine lv_icmp_ge (tgt := 31) gX gB dX6_unit_12 (by decide) (fun h9 => absurd (show (200 : Int32) ≤ (nI sn) from h9) (Int32.not_le.mpr ((nI_ltI (a := sn) (b := 200) (by omega) (by decide)).mpr h200))) (fun _ => ?_)
    refine lv_iload_n gX gB dX6_unit_15 rfl (lv_at hl 1 rfl) ?_
    refine lv_bipush (v := 32) gX gB dX6_unit_16 (by decide) ?_
    refine lv_icmp_lt (tgt := 31) gX gB dX6_unit_18 (by decide) (fun h9 => absurd (show u0 < (32 : Int32) from h9) (h32)) (fun _ => ?_)
    refine lv_iload_n gX gB dX6_unit_21 rfl (lv_at hl 1 rfl) ?_
    refine lv_bipush (v := 126) gX gB dX6_unit_22 (by decide) ?_
    refine lv_icmp_gt (tgt := 31) gX gB dX6_unit_24 (by decide) (fun _ => ?_) (fun h9 => absurd (show (126 : Int32) < u0 from h126) h9)
    refine lv_iconst (v := 0) gX gB dX6_unit_31 (by decide) ?_
    refine lv_istore_n (lv' := [(2, .int 0), (0, .ref (ad 0)), (1, .int u0)]) gX gB dX6_unit_32 rfl hl (by decide) rfl (fun ls hl => ?_)
    refine lv_iload_n gX gB dX6_unit_33 rfl (lv_at hl 0 rfl) ?_
    refine lv_if_eq (tgt := 57) gX gB dX6_unit_34 (by decide) (fun _ => ?_) (fun h9 => absurd (show 0 = (0 : Int32) from by decide) h9)
    refine lv_iload_n gX gB dX6_unit_57 rfl (lv_at hl 0 rfl) ?_
    exact gx_zret C hr (by decide) hW (Or.inr ⟨fun zz => zz.2.1 h126, rfl, rfl⟩) (Nat.le_of_ble_eq_true rfl) (Nat.le_of_ble_eq_true rfl) dX6_unit_58
  · refine gx_get C hW fX6_121 ⟨0, rfl⟩ rfl dX6_unit_6 ?_
    refine lv_sipush (v := 200) gX gB dX6_unit_9 (by decide) ?_
    refine lv_icmp_ge (tgt := 31) gX gB dX6_unit_12 (by decide) (fun h9 => absurd (show (200 : Int32) ≤ (nI sn) from h9) (Int32.not_le.mpr ((nI_ltI (a := sn) (b := 200) (by omega) (by decide)).mpr h200))) (fun _ => ?_)
    refine lv_iload_n gX gB dX6_unit_15 rfl (lv_at hl 1 rfl) ?_
    refine lv_bipush (v := 32) gX gB dX6_unit_16 (by decide) ?_
    refine lv_icmp_lt (tgt := 31) gX gB dX6_unit_18 (by decide) (fun h9 => absurd (show u0 < (32 : Int32) from h9) (h32)) (fun _ => ?_)
    refine lv_iload_n gX gB dX6_unit_21 rfl (lv_at hl 1 rfl) ?_
    refine lv_bipush (v := 126) gX gB dX6_unit_22 (by decide) ?_
    refine lv_icmp_gt (tgt := 31) gX gB dX6_unit_24 (by decide) (fun h9 => absurd (show (126 : Int32) < u0 from h9) (h126)) (fun _ => ?_)
    refine lv_iconst (v := 1) gX gB dX6_unit_27 (by decide) ?_
    refine lv_goto (tgt := 32) gX gB dX6_unit_28 (by decide) ?_
    refine lv_istore_n (lv' := [(2, .int 1), (0, .ref (ad 0)), (1, .int u0)]) gX gB dX6_unit_32 rfl hl (by decide) rfl (fun ls hl => ?_)
    refine lv_iload_n gX gB dX6_unit_33 rfl (lv_at hl 0 rfl) ?_
    refine lv_if_eq (tgt := 57) gX gB dX6_unit_34 (by decide) (fun h9 => absurd (show 1 = (0 : Int32) from h9) (by decide)) (fun _ => ?_)
    refine lv_aload_n gX gB dX6_unit_37 rfl (lv_at hl 1 rfl) ?_
    refine gx_get C hW fX6_38 ⟨0, rfl⟩ rfl dX6_unit_38 ?_
    refine lv_aload_n gX gB dX6_unit_41 rfl (lv_at hl 1 rfl) ?_
    refine gx_get C hW fX6_121 ⟨0, rfl⟩ rfl dX6_unit_42 ?_
    refine lv_iload_n gX gB dX6_unit_45 rfl (lv_at hl 2 rfl) ?_
    refine gx_iastE C hW 10 (j := sn) rfl rfl (by omega) (by decide) dX6_unit_46 (fun H locs hW => ?_)
    have hW : gx_W G A s ([(ad 0, .inr (11, [.int 0, .int (nI pn), .ref (ad 1), .ref (ad 2), .ref (ad 3), .ref (ad 4), .ref (ad 5), .int (nI fn), .ref (ad 6), .ref (ad 7), .int (nI dn), .ref (ad 8), .long ex, .long ey, .long eg, .int (nI cn), .ref (ad 9), .ref (ad 10), .int (nI sn), .int at0, .int fl, .int (nI tn), .ref (ad 11), .ref (ad 12)])), (ad 1, .inl (G.2.1 2, 16, .inr (.inl px))), (ad 2, .inl (G.2.1 2, 16, .inr (.inl py))), (ad 3, .inl (G.2.1 2, 16, .inr (.inl pz))), (ad 4, .inl (G.2.1 2, 16, .inr (.inl gr))), (ad 5, .inl (G.2.1 2, 16, .inr (.inl ou))), (ad 6, .inl (G.2.1 2, 12, .inr (.inl fx))), (ad 7, .inl (G.2.1 2, 12, .inr (.inl fy))), (ad 8, .inl (G.2.1 1, 8, .inl od)), (ad 9, .inl (G.2.1 1, 12, .inl cr)), (ad 10, .inl (G.2.1 1, 200, .inl (upd ty sn u0))), (ad 11, .inl (G.2.1 1, 48, .inl to_)), (ad 12, .inl (G.2.1 1, 48, .inl dr))]) H locs := hW
    refine lv_aload_n gX gB dX6_unit_47 rfl (lv_at hl 1 rfl) ?_
    refine lv_dup gX gB dX6_unit_48 rfl ?_
    refine gx_get C hW fX6_121 ⟨0, rfl⟩ rfl dX6_unit_49 ?_
    refine lv_iconst (v := 1) gX gB dX6_unit_52 (by decide) ?_
    refine lv_iadd gX gB dX6_unit_53 ?_
    refine gx_topi (show ((nI sn) + 1) = nI (sn + 1) from nI_1 sn) ?_
    refine gx_putE C hW clX6 fX6_121 0 rfl (Or.inl rfl) rfl rfl (Nat.le_of_ble_eq_true rfl) dX6_unit_54 (fun H locs hW => ?_)
    have hW : gx_W G A s ([(ad 0, .inr (11, [.int 0, .int (nI pn), .ref (ad 1), .ref (ad 2), .ref (ad 3), .ref (ad 4), .ref (ad 5), .int (nI fn), .ref (ad 6), .ref (ad 7), .int (nI dn), .ref (ad 8), .long ex, .long ey, .long eg, .int (nI cn), .ref (ad 9), .ref (ad 10), .int (nI (sn + 1)), .int at0, .int fl, .int (nI tn), .ref (ad 11), .ref (ad 12)])), (ad 1, .inl (G.2.1 2, 16, .inr (.inl px))), (ad 2, .inl (G.2.1 2, 16, .inr (.inl py))), (ad 3, .inl (G.2.1 2, 16, .inr (.inl pz))), (ad 4, .inl (G.2.1 2, 16, .inr (.inl gr))), (ad 5, .inl (G.2.1 2, 16, .inr (.inl ou))), (ad 6, .inl (G.2.1 2, 12, .inr (.inl fx))), (ad 7, .inl (G.2.1 2, 12, .inr (.inl fy))), (ad 8, .inl (G.2.1 1, 8, .inl od)), (ad 9, .inl (G.2.1 1, 12, .inl cr)), (ad 10, .inl (G.2.1 1, 200, .inl (upd ty sn u0))), (ad 11, .inl (G.2.1 1, 48, .inl to_)), (ad 12, .inl (G.2.1 1, 48, .inl dr))]) H locs := hW
    refine lv_iload_n gX gB dX6_unit_57 rfl (lv_at hl 0 rfl) ?_
    exact gx_zret C hr (by decide) hW (Or.inl ⟨⟨h32, h126, h200⟩, rfl, rfl⟩) (Nat.le_of_ble_eq_true rfl) (Nat.le_of_ble_eq_true rfl) dX6_unit_58
set_option maxHeartbeats 4000000 in
set_option maxRecDepth 100000 in
theorem kX6_cross (l : Launch) (G : gx_T) (ad : Nat → Nat) (cd : Int32) (pn fn dn cn sn tn : Nat) (ex ey eg : Int64) (at0 fl : Int32) (px py pz gr ou fx fy : Nat → Int64) (od cr ty to_ dr : Nat → Int32) (a b : Nat) (ha : a < 12) (hb : b < 12) : gx_M l G yX6_cross cX6_cross 3 (some .long) ({ frames := 0, cells := 0, slots := 0, locals := 0 } : Room) [.ref (ad 0), .int (nI a), .int (nI b)] ([(ad 0, .inr (11, [.int cd, .int (nI pn), .ref (ad 1), .ref (ad 2), .ref (ad 3), .ref (ad 4), .ref (ad 5), .int (nI fn), .ref (ad 6), .ref (ad 7), .int (nI dn), .ref (ad 8), .long ex, .long ey, .long eg, .int (nI cn), .ref (ad 9), .ref (ad 10), .int (nI sn), .int at0, .int fl, .int (nI tn), .ref (ad 11), .ref (ad 12)])), (ad 1, .inl (G.2.1 2, 16, .inr (.inl px))), (ad 2, .inl (G.2.1 2, 16, .inr (.inl py))), (ad 3, .inl (G.2.1 2, 16, .inr (.inl pz))), (ad 4, .inl (G.2.1 2, 16, .inr (.inl gr))), (ad 5, .inl (G.2.1 2, 16, .inr (.inl ou))), (ad 6, .inl (G.2.1 2, 12, .inr (.inl fx))), (ad 7, .inl (G.2.1 2, 12, .inr (.inl fy))), (ad 8, .inl (G.2.1 1, 8, .inl od)), (ad 9, .inl (G.2.1 1, 12, .inl cr)), (ad 10, .inl (G.2.1 1, 200, .inl ty)), (ad 11, .inl (G.2.1 1, 48, .inl to_)), (ad 12, .inl (G.2.1 1, 48, .inl dr))]) (fun v u => v = some (.long (cr_s fx fy a b)) ∧ u = [(ad 0, .inr (11, [.int cd, .int (nI pn), .ref (ad 1), .ref (ad 2), .ref (ad 3), .ref (ad 4), .ref (ad 5), .int (nI fn), .ref (ad 6), .ref (ad 7), .int (nI dn), .ref (ad 8), .long ex, .long ey, .long eg, .int (nI cn), .ref (ad 9), .ref (ad 10), .int (nI sn), .int at0, .int fl, .int (nI tn), .ref (ad 11), .ref (ad 12)])), (ad 1, .inl (G.2.1 2, 16, .inr (.inl px))), (ad 2, .inl (G.2.1 2, 16, .inr (.inl py))), (ad 3, .inl (G.2.1 2, 16, .inr (.inl pz))), (ad 4, .inl (G.2.1 2, 16, .inr (.inl gr))), (ad 5, .inl (G.2.1 2, 16, .inr (.inl ou))), (ad 6, .inl (G.2.1 2, 12, .inr (.inl fx))), (ad 7, .inl (G.2.1 2, 12, .inr (.inl fy))), (ad 8, .inl (G.2.1 1, 8, .inl od)), (ad 9, .inl (G.2.1 1, 12, .inl cr)), (ad 10, .inl (G.2.1 1, 200, .inl ty)), (ad 11, .inl (G.2.1 1, 48, .inl to_)), (ad 12, .inl (G.2.1 1, 48, .inl dr))]) := by
  refine gx_start (by decide +kernel) (Nat.le_of_ble_eq_true rfl) ?_
  intro p e s m args below meth c A ls C hr hnm hW hl
  have gX := C.x
  have gB := C.b
  have hl : lv_has ls 3 [(0, .ref (ad 0)), (1, .int (nI a)), (2, .int (nI b))] := hl
  refine lv_aload_n gX gB dX6_cross_0 rfl (lv_at hl 0 rfl) ?_
  refine gx_get C hW fX6_25 ⟨0, rfl⟩ rfl dX6_cross_1 ?_
  refine lv_iload_n gX gB dX6_cross_4 rfl (lv_at hl 1 rfl) ?_
  refine gx_lald C hW ⟨6, rfl⟩ (j := a) rfl (by omega) (by decide) dX6_cross_5 ?_
  refine lv_aload_n gX gB dX6_cross_6 rfl (lv_at hl 0 rfl) ?_
  refine gx_get C hW fX6_25 ⟨0, rfl⟩ rfl dX6_cross_7 ?_
  refine lv_iconst (v := 0) gX gB dX6_cross_10 (by decide) ?_
  refine gx_lald C hW ⟨6, rfl⟩ (j := 0) (by decide) (by decide) (by decide) dX6_cross_11 ?_
  refine lv_lsub gX gB dX6_cross_12 ?_
  refine lv_aload_n gX gB dX6_cross_13 rfl (lv_at hl 0 rfl) ?_
  refine gx_get C hW fX6_28 ⟨0, rfl⟩ rfl dX6_cross_14 ?_
  refine lv_iload_n gX gB dX6_cross_17 rfl (lv_at hl 2 rfl) ?_
  refine gx_lald C hW ⟨7, rfl⟩ (j := b) rfl (by omega) (by decide) dX6_cross_18 ?_
  refine lv_aload_n gX gB dX6_cross_19 rfl (lv_at hl 0 rfl) ?_
  refine gx_get C hW fX6_28 ⟨0, rfl⟩ rfl dX6_cross_20 ?_
  refine lv_iconst (v := 0) gX gB dX6_cross_23 (by decide) ?_
  refine gx_lald C hW ⟨7, rfl⟩ (j := 0) (by decide) (by decide) (by decide) dX6_cross_24 ?_
  refine lv_lsub gX gB dX6_cross_25 ?_
  refine lv_lmul gX gB dX6_cross_26 ?_
  refine lv_aload_n gX gB dX6_cross_27 rfl (lv_at hl 0 rfl) ?_
  refine gx_get C hW fX6_28 ⟨0, rfl⟩ rfl dX6_cross_28 ?_
  refine lv_iload_n gX gB dX6_cross_31 rfl (lv_at hl 1 rfl) ?_
  refine gx_lald C hW ⟨7, rfl⟩ (j := a) rfl (by omega) (by decide) dX6_cross_32 ?_
  refine lv_aload_n gX gB dX6_cross_33 rfl (lv_at hl 0 rfl) ?_
  refine gx_get C hW fX6_28 ⟨0, rfl⟩ rfl dX6_cross_34 ?_
  refine lv_iconst (v := 0) gX gB dX6_cross_37 (by decide) ?_
  refine gx_lald C hW ⟨7, rfl⟩ (j := 0) (by decide) (by decide) (by decide) dX6_cross_38 ?_
  refine lv_lsub gX gB dX6_cross_39 ?_
  refine lv_aload_n gX gB dX6_cross_40 rfl (lv_at hl 0 rfl) ?_
  refine gx_get C hW fX6_25 ⟨0, rfl⟩ rfl dX6_cross_41 ?_
  refine lv_iload_n gX gB dX6_cross_44 rfl (lv_at hl 2 rfl) ?_
  refine gx_lald C hW ⟨6, rfl⟩ (j := b) rfl (by omega) (by decide) dX6_cross_45 ?_
  refine lv_aload_n gX gB dX6_cross_46 rfl (lv_at hl 0 rfl) ?_
  refine gx_get C hW fX6_25 ⟨0, rfl⟩ rfl dX6_cross_47 ?_
  refine lv_iconst (v := 0) gX gB dX6_cross_50 (by decide) ?_
  refine gx_lald C hW ⟨6, rfl⟩ (j := 0) (by decide) (by decide) (by decide) dX6_cross_51 ?_
  refine lv_lsub gX gB dX6_cross_52 ?_
  refine lv_lmul gX gB dX6_cross_53 ?_
  refine lv_lsub gX gB dX6_cross_54 ?_
  exact gx_lret C hr hW (⟨rfl, rfl⟩) (Nat.le_of_ble_eq_true rfl) (Nat.le_of_ble_eq_true rfl) dX6_cross_55
set_option maxHeartbeats 4000000 in
set_option maxRecDepth 100000 in
theorem kX6_openIn (l : Launch) (G : gx_T) (ad : Nat → Nat) (cd : Int32) (pn fn dn cn sn tn : Nat) (ex ey eg : Int64) (at0 fl : Int32) (px py pz gr ou fx fy : Nat → Int64) (od cr ty to_ dr : Nat → Int32) (hdn8 : dn ≤ 8) (htn : tn ≤ 12) (dk : Nat → Nat) (hdk : ∀ k, k < tn → to_ (4 * k + 3) = nI (dk k)) (hdk2 : ∀ k, k < tn → dk k < 2 ^ 31) (k : Nat) (hk : k < tn) : gx_M l G yX6_openIn cX6_openIn 2 (some .int) ({ frames := 0, cells := 0, slots := 0, locals := 0 } : Room) [.ref (ad 0), .int (nI k)] ([(ad 0, .inr (11, [.int cd, .int (nI pn), .ref (ad 1), .ref (ad 2), .ref (ad 3), .ref (ad 4), .ref (ad 5), .int (nI fn), .ref (ad 6), .ref (ad 7), .int (nI dn), .ref (ad 8), .long ex, .long ey, .long eg, .int (nI cn), .ref (ad 9), .ref (ad 10), .int (nI sn), .int at0, .int fl, .int (nI tn), .ref (ad 11), .ref (ad 12)])), (ad 1, .inl (G.2.1 2, 16, .inr (.inl px))), (ad 2, .inl (G.2.1 2, 16, .inr (.inl py))), (ad 3, .inl (G.2.1 2, 16, .inr (.inl pz))), (ad 4, .inl (G.2.1 2, 16, .inr (.inl gr))), (ad 5, .inl (G.2.1 2, 16, .inr (.inl ou))), (ad 6, .inl (G.2.1 2, 12, .inr (.inl fx))), (ad 7, .inl (G.2.1 2, 12, .inr (.inl fy))), (ad 8, .inl (G.2.1 1, 8, .inl od)), (ad 9, .inl (G.2.1 1, 12, .inl cr)), (ad 10, .inl (G.2.1 1, 200, .inl ty)), (ad 11, .inl (G.2.1 1, 48, .inl to_)), (ad 12, .inl (G.2.1 1, 48, .inl dr))]) (fun v u => v = some (.int (nI (op_q dn (dk k)))) ∧ u = [(ad 0, .inr (11, [.int cd, .int (nI pn), .ref (ad 1), .ref (ad 2), .ref (ad 3), .ref (ad 4), .ref (ad 5), .int (nI fn), .ref (ad 6), .ref (ad 7), .int (nI dn), .ref (ad 8), .long ex, .long ey, .long eg, .int (nI cn), .ref (ad 9), .ref (ad 10), .int (nI sn), .int at0, .int fl, .int (nI tn), .ref (ad 11), .ref (ad 12)])), (ad 1, .inl (G.2.1 2, 16, .inr (.inl px))), (ad 2, .inl (G.2.1 2, 16, .inr (.inl py))), (ad 3, .inl (G.2.1 2, 16, .inr (.inl pz))), (ad 4, .inl (G.2.1 2, 16, .inr (.inl gr))), (ad 5, .inl (G.2.1 2, 16, .inr (.inl ou))), (ad 6, .inl (G.2.1 2, 12, .inr (.inl fx))), (ad 7, .inl (G.2.1 2, 12, .inr (.inl fy))), (ad 8, .inl (G.2.1 1, 8, .inl od)), (ad 9, .inl (G.2.1 1, 12, .inl cr)), (ad 10, .inl (G.2.1 1, 200, .inl ty)), (ad 11, .inl (G.2.1 1, 48, .inl to_)), (ad 12, .inl (G.2.1 1, 48, .inl dr))]) := by
  refine gx_start (by decide +kernel) (Nat.le_of_ble_eq_true rfl) ?_
  intro p e s m args below meth c A ls C hr hnm hW hl
  have gX := C.x
  have gB := C.b
  have hl : lv_has ls 2 [(0, .ref (ad 0)), (1, .int (nI k))] := hl
  refine lv_aload_n gX gB dX6_openIn_0 rfl (lv_at hl 0 rfl) ?_
  refine gx_get C hW fX6_41 ⟨0, rfl⟩ rfl dX6_openIn_1 ?_
  refine lv_iconst (v := 4) gX gB dX6_openIn_4 (by decide) ?_
  refine lv_iload_n gX gB dX6_openIn_5 rfl (lv_at hl 1 rfl) ?_
  refine lv_imul gX gB dX6_openIn_6 ?_
  refine gx_topi (show (4 * (nI k)) = nI (4 * k) from nI_4 k) ?_
  refine lv_iconst (v := 3) gX gB dX6_openIn_7 (by decide) ?_
  refine lv_iadd gX gB dX6_openIn_8 ?_
  refine gx_topi (show ((nI (4 * k)) + 3) = nI (4 * k + 3) from nI_add (4 * k) 3) ?_
  refine gx_iald C hW ⟨11, rfl⟩ (j := (4 * k + 3)) rfl (by omega) (by decide) dX6_openIn_9 ?_
  refine gx_topi (show (to_ (4 * k + 3)) = nI (dk k) from hdk k hk) ?_
  refine lv_aload_n gX gB dX6_openIn_10 rfl (lv_at hl 0 rfl) ?_
  refine gx_get C hW fX6_74 ⟨0, rfl⟩ rfl dX6_openIn_11 ?_
  rcases Classical.em (dn < dk k) with hdd | hdd
  · refine lv_icmp_le (tgt := 24) gX gB dX6_openIn_14 (by decide) (fun h9 => absurd (show (nI (dk k)) ≤ (nI dn) from h9) (Int32.not_le.mpr ((nI_ltI (by omega) (hdk2 k hk)).mpr hdd))) (fun _ => ?_)
    refine lv_aload_n gX gB dX6_openIn_17 rfl (lv_at hl 0 rfl) ?_
    refine gx_get C hW fX6_74 ⟨0, rfl⟩ rfl dX6_openIn_18 ?_
    refine lv_goto (tgt := 34) gX gB dX6_openIn_21 (by decide) ?_
    exact gx_iret C hr hW (⟨by rw [op_q, if_pos hdd], rfl⟩) (Nat.le_of_ble_eq_true rfl) (Nat.le_of_ble_eq_true rfl) dX6_openIn_34
  · refine lv_icmp_le (tgt := 24) gX gB dX6_openIn_14 (by decide) (fun _ => ?_) (fun h9 => absurd (show (nI (dk k)) ≤ (nI dn) from Int32.not_lt.mp (fun zz => hdd ((nI_ltI (by omega) (hdk2 k hk)).mp zz))) h9)
    refine lv_aload_n gX gB dX6_openIn_24 rfl (lv_at hl 0 rfl) ?_
    refine gx_get C hW fX6_41 ⟨0, rfl⟩ rfl dX6_openIn_25 ?_
    refine lv_iconst (v := 4) gX gB dX6_openIn_28 (by decide) ?_
    refine lv_iload_n gX gB dX6_openIn_29 rfl (lv_at hl 1 rfl) ?_
    refine lv_imul gX gB dX6_openIn_30 ?_
    refine gx_topi (show (4 * (nI k)) = nI (4 * k) from nI_4 k) ?_
    refine lv_iconst (v := 3) gX gB dX6_openIn_31 (by decide) ?_
    refine lv_iadd gX gB dX6_openIn_32 ?_
    refine gx_topi (show ((nI (4 * k)) + 3) = nI (4 * k + 3) from nI_add (4 * k) 3) ?_
    refine gx_iald C hW ⟨11, rfl⟩ (j := (4 * k + 3)) rfl (by omega) (by decide) dX6_openIn_33 ?_
    refine gx_topi (show (to_ (4 * k + 3)) = nI (dk k) from hdk k hk) ?_
    exact gx_iret C hr hW (⟨by rw [op_q, if_neg hdd], rfl⟩) (Nat.le_of_ble_eq_true rfl) (Nat.le_of_ble_eq_true rfl) dX6_openIn_34
set_option maxHeartbeats 4000000 in
set_option maxRecDepth 100000 in
theorem kX6_testAt (l : Launch) (G : gx_T) (ad : Nat → Nat) (cd : Int32) (pn fn dn cn sn tn : Nat) (ex ey eg : Int64) (at0 fl : Int32) (px py pz gr ou fx fy : Nat → Int64) (od cr ty to_ dr : Nat → Int32) (hpn : pn ≤ 16) (hcn : cn ≤ 12) (cf : Nat → Nat) (hcr : ∀ i, i < cn → cr i = nI (cf i)) (hcf : ∀ i, i < cn → cf i < 12) (hdn8 : dn ≤ 8) (yy : Nat → Nat → Int64) (hyy : ∀ q, q ≤ dn → ∀ k, k < pn → yy_ok py ou od q k (yy q k)) (htn : tn ≤ 12) (dk : Nat → Nat) (hdk : ∀ k, k < tn → to_ (4 * k + 3) = nI (dk k)) (hdk2 : ∀ k, k < tn → dk k < 2 ^ 31) (k : Nat) (hk : k < tn) : gx_M l G yX6_testAt cX6_testAt 2 (some .int) ({ frames := 3, cells := 0, slots := 0, locals := 96 } : Room) [.ref (ad 0), .int (nI k)] ([(ad 0, .inr (11, [.int cd, .int (nI pn), .ref (ad 1), .ref (ad 2), .ref (ad 3), .ref (ad 4), .ref (ad 5), .int (nI fn), .ref (ad 6), .ref (ad 7), .int (nI dn), .ref (ad 8), .long ex, .long ey, .long eg, .int (nI cn), .ref (ad 9), .ref (ad 10), .int (nI sn), .int at0, .int fl, .int (nI tn), .ref (ad 11), .ref (ad 12)])), (ad 1, .inl (G.2.1 2, 16, .inr (.inl px))), (ad 2, .inl (G.2.1 2, 16, .inr (.inl py))), (ad 3, .inl (G.2.1 2, 16, .inr (.inl pz))), (ad 4, .inl (G.2.1 2, 16, .inr (.inl gr))), (ad 5, .inl (G.2.1 2, 16, .inr (.inl ou))), (ad 6, .inl (G.2.1 2, 12, .inr (.inl fx))), (ad 7, .inl (G.2.1 2, 12, .inr (.inl fy))), (ad 8, .inl (G.2.1 1, 8, .inl od)), (ad 9, .inl (G.2.1 1, 12, .inl cr)), (ad 10, .inl (G.2.1 1, 200, .inl ty)), (ad 11, .inl (G.2.1 1, 48, .inl to_)), (ad 12, .inl (G.2.1 1, 48, .inl dr))]) (fun v u => v = some (.int (nI (tv_at fx fy px gr yy cf to_ dk dn cn pn k))) ∧ u = [(ad 0, .inr (11, [.int cd, .int (nI pn), .ref (ad 1), .ref (ad 2), .ref (ad 3), .ref (ad 4), .ref (ad 5), .int (nI fn), .ref (ad 6), .ref (ad 7), .int (nI dn), .ref (ad 8), .long ex, .long ey, .long eg, .int (nI cn), .ref (ad 9), .ref (ad 10), .int (nI sn), .int at0, .int fl, .int (nI tn), .ref (ad 11), .ref (ad 12)])), (ad 1, .inl (G.2.1 2, 16, .inr (.inl px))), (ad 2, .inl (G.2.1 2, 16, .inr (.inl py))), (ad 3, .inl (G.2.1 2, 16, .inr (.inl pz))), (ad 4, .inl (G.2.1 2, 16, .inr (.inl gr))), (ad 5, .inl (G.2.1 2, 16, .inr (.inl ou))), (ad 6, .inl (G.2.1 2, 12, .inr (.inl fx))), (ad 7, .inl (G.2.1 2, 12, .inr (.inl fy))), (ad 8, .inl (G.2.1 1, 8, .inl od)), (ad 9, .inl (G.2.1 1, 12, .inl cr)), (ad 10, .inl (G.2.1 1, 200, .inl ty)), (ad 11, .inl (G.2.1 1, 48, .inl to_)), (ad 12, .inl (G.2.1 1, 48, .inl dr))]) := by
  refine gx_start (by decide +kernel) (Nat.le_of_ble_eq_true rfl) ?_
  intro p e s m args below meth c A ls C hr hnm hW hl
  have gX := C.x
  have gB := C.b
  have hl : lv_has ls 2 [(0, .ref (ad 0)), (1, .int (nI k))] := hl
  refine lv_aload_n gX gB dX6_testAt_0 rfl (lv_at hl 0 rfl) ?_
  refine lv_aload_n gX gB dX6_testAt_1 rfl (lv_at hl 0 rfl) ?_
  refine lv_iload_n gX gB dX6_testAt_2 rfl (lv_at hl 1 rfl) ?_
  refine gx_callV (wr := []) (rest := [.ref (ad 0)]) C hW sX6_148 (kX6_openIn l G ad cd pn fn dn cn sn tn ex ey eg at0 fl px py pz gr ou fx fy od cr ty to_ dr hdn8 htn dk hdk hdk2 k hk) ⟨0, rfl⟩ rfl rfl ⟨(Nat.le_of_ble_eq_true rfl), (Nat.le_of_ble_eq_true rfl)⟩ hl.1 rfl (Nat.le_of_ble_eq_true rfl) dX6_testAt_3 ⟨(Nat.le_of_ble_eq_true rfl), (Nat.le_of_ble_eq_true rfl)⟩ (fun v9 u9 H locs hp hW => ?_)
  obtain ⟨rfl, hu⟩ := hp
  rw [hu] at hW
  have hW : gx_W G A s ([(ad 0, .inr (11, [.int cd, .int (nI pn), .ref (ad 1), .ref (ad 2), .ref (ad 3), .ref (ad 4), .ref (ad 5), .int (nI fn), .ref (ad 6), .ref (ad 7), .int (nI dn), .ref (ad 8), .long ex, .long ey, .long eg, .int (nI cn), .ref (ad 9), .ref (ad 10), .int (nI sn), .int at0, .int fl, .int (nI tn), .ref (ad 11), .ref (ad 12)])), (ad 1, .inl (G.2.1 2, 16, .inr (.inl px))), (ad 2, .inl (G.2.1 2, 16, .inr (.inl py))), (ad 3, .inl (G.2.1 2, 16, .inr (.inl pz))), (ad 4, .inl (G.2.1 2, 16, .inr (.inl gr))), (ad 5, .inl (G.2.1 2, 16, .inr (.inl ou))), (ad 6, .inl (G.2.1 2, 12, .inr (.inl fx))), (ad 7, .inl (G.2.1 2, 12, .inr (.inl fy))), (ad 8, .inl (G.2.1 1, 8, .inl od)), (ad 9, .inl (G.2.1 1, 12, .inl cr)), (ad 10, .inl (G.2.1 1, 200, .inl ty)), (ad 11, .inl (G.2.1 1, 48, .inl to_)), (ad 12, .inl (G.2.1 1, 48, .inl dr))]) H locs := hW
  refine W.eq (g2 := F0 m 6 ls [.int (nI (op_q dn (dk k))), .ref (ad 0)]) rfl ?_
  refine W.widen (k := 0) (n := 0) (Nat.le_of_ble_eq_true rfl) (Nat.le_of_ble_eq_true rfl) ?_
  refine lv_aload_n gX gB dX6_testAt_6 rfl (lv_at hl 0 rfl) ?_
  refine gx_get C hW fX6_41 ⟨0, rfl⟩ rfl dX6_testAt_7 ?_
  refine lv_iconst (v := 4) gX gB dX6_testAt_10 (by decide) ?_
  refine lv_iload_n gX gB dX6_testAt_11 rfl (lv_at hl 1 rfl) ?_
  refine lv_imul gX gB dX6_testAt_12 ?_
  refine gx_topi (show (4 * (nI k)) = nI (4 * k) from nI_4 k) ?_
  refine gx_iald C hW ⟨11, rfl⟩ (j := (4 * k)) rfl (by omega) (by decide) dX6_testAt_13 ?_
  refine lv_i2l gX gB dX6_testAt_14 rfl ?_
  refine lv_aload_n gX gB dX6_testAt_15 rfl (lv_at hl 0 rfl) ?_
  refine gx_get C hW fX6_41 ⟨0, rfl⟩ rfl dX6_testAt_16 ?_
  refine lv_iconst (v := 4) gX gB dX6_testAt_19 (by decide) ?_
  refine lv_iload_n gX gB dX6_testAt_20 rfl (lv_at hl 1 rfl) ?_
  refine lv_imul gX gB dX6_testAt_21 ?_
  refine gx_topi (show (4 * (nI k)) = nI (4 * k) from nI_4 k) ?_
  refine lv_iconst (v := 1) gX gB dX6_testAt_22 (by decide) ?_
  refine lv_iadd gX gB dX6_testAt_23 ?_
  refine gx_topi (show ((nI (4 * k)) + 1) = nI (4 * k + 1) from nI_add (4 * k) 1) ?_
  refine gx_iald C hW ⟨11, rfl⟩ (j := (4 * k + 1)) rfl (by omega) (by decide) dX6_testAt_24 ?_
  refine lv_i2l gX gB dX6_testAt_25 rfl ?_
  refine lv_aload_n gX gB dX6_testAt_26 rfl (lv_at hl 0 rfl) ?_
  refine gx_get C hW fX6_41 ⟨0, rfl⟩ rfl dX6_testAt_27 ?_
  refine lv_iconst (v := 4) gX gB dX6_testAt_30 (by decide) ?_
  refine lv_iload_n gX gB dX6_testAt_31 rfl (lv_at hl 1 rfl) ?_
  refine lv_imul gX gB dX6_testAt_32 ?_
  refine gx_topi (show (4 * (nI k)) = nI (4 * k) from nI_4 k) ?_
  refine lv_iconst (v := 2) gX gB dX6_testAt_33 (by decide) ?_
  refine lv_iadd gX gB dX6_testAt_34 ?_
  refine gx_topi (show ((nI (4 * k)) + 2) = nI (4 * k + 2) from nI_add (4 * k) 2) ?_
  refine gx_iald C hW ⟨11, rfl⟩ (j := (4 * k + 2)) rfl (by omega) (by decide) dX6_testAt_35 ?_
  refine lv_i2l gX gB dX6_testAt_36 rfl ?_
  refine gx_callV (wr := []) (rest := []) C hW sX6_117 (kX6_tipping l G ad cd pn fn dn cn sn tn ex ey eg at0 fl px py pz gr ou fx fy od cr ty to_ dr hpn hcn cf hcr hcf (op_q dn (dk k)) (by have := op_q_le dn (dk k); omega) (yy (op_q dn (dk k))) (hyy _ (op_q_le _ _)) (to_ (4 * k)).toInt64 (to_ (4 * k + 1)).toInt64 (to_ (4 * k + 2)).toInt64) ⟨0, rfl⟩ rfl rfl ⟨(Nat.le_of_ble_eq_true rfl), (Nat.le_of_ble_eq_true rfl)⟩ hl.1 rfl (Nat.le_of_ble_eq_true rfl) dX6_testAt_37 ⟨(Nat.le_of_ble_eq_true rfl), (Nat.le_of_ble_eq_true rfl)⟩ (fun v9 u9 H locs hp hW => ?_)
  obtain ⟨rfl, hu⟩ := hp
  rw [hu] at hW
  have hW : gx_W G A s ([(ad 0, .inr (11, [.int cd, .int (nI pn), .ref (ad 1), .ref (ad 2), .ref (ad 3), .ref (ad 4), .ref (ad 5), .int (nI fn), .ref (ad 6), .ref (ad 7), .int (nI dn), .ref (ad 8), .long ex, .long ey, .long eg, .int (nI cn), .ref (ad 9), .ref (ad 10), .int (nI sn), .int at0, .int fl, .int (nI tn), .ref (ad 11), .ref (ad 12)])), (ad 1, .inl (G.2.1 2, 16, .inr (.inl px))), (ad 2, .inl (G.2.1 2, 16, .inr (.inl py))), (ad 3, .inl (G.2.1 2, 16, .inr (.inl pz))), (ad 4, .inl (G.2.1 2, 16, .inr (.inl gr))), (ad 5, .inl (G.2.1 2, 16, .inr (.inl ou))), (ad 6, .inl (G.2.1 2, 12, .inr (.inl fx))), (ad 7, .inl (G.2.1 2, 12, .inr (.inl fy))), (ad 8, .inl (G.2.1 1, 8, .inl od)), (ad 9, .inl (G.2.1 1, 12, .inl cr)), (ad 10, .inl (G.2.1 1, 200, .inl ty)), (ad 11, .inl (G.2.1 1, 48, .inl to_)), (ad 12, .inl (G.2.1 1, 48, .inl dr))]) H locs := hW
  refine W.eq (g2 := F0 m 40 ls [.int (nI (tv_at fx fy px gr yy cf to_ dk dn cn pn k))]) rfl ?_
  refine W.widen (k := 0) (n := 0) (Nat.le_of_ble_eq_true rfl) (Nat.le_of_ble_eq_true rfl) ?_
  exact gx_iret C hr hW (⟨rfl, rfl⟩) (Nat.le_of_ble_eq_true rfl) (Nat.le_of_ble_eq_true rfl) dX6_testAt_40
theorem ts_w2 {w : Int32} (h0 : ¬ w < 0) (h1 : ¬ 2 < w) (h2 : ¬ w = 0) (h3 : ¬ w = 1) : w = 2 := by
  obtain ⟨j, hj, rfl⟩ := nI_of2 (M := 2) (n := 2) (by decide) h0 (Int32.not_lt.mp h1)
  rcases (by omega : j = 0 ∨ j = 1 ∨ j = 2) with rfl | rfl | rfl
  · exact absurd rfl h2
  · exact absurd rfl h3
  · rfl
set_option maxHeartbeats 4000000 in
set_option maxRecDepth 100000 in
theorem kX6_test (l : Launch) (G : gx_T) (ad : Nat → Nat) (cd : Int32) (pn fn dn cn sn tn : Nat) (ex ey eg : Int64) (at0 fl : Int32) (px py pz gr ou fx fy : Nat → Int64) (od cr ty to_ dr : Nat → Int32) (hpn : pn ≤ 16) (hcn : cn ≤ 12) (cf : Nat → Nat) (hcr : ∀ i, i < cn → cr i = nI (cf i)) (hcf : ∀ i, i < cn → cf i < 12) (hdn8 : dn ≤ 8) (yy : Nat → Nat → Int64) (hyy : ∀ q, q ≤ dn → ∀ k, k < pn → yy_ok py ou od q k (yy q k)) (htn : tn ≤ 12) (dk : Nat → Nat) (hdk : ∀ k, k < tn → to_ (4 * k + 3) = nI (dk k)) (hdk2 : ∀ k, k < tn → dk k < 2 ^ 31) (k0 w0 : Int32) : gx_M l G yX6_test cX6_test 3 (some .int) ({ frames := 4, cells := 0, slots := 0, locals := 117 } : Room) [.ref (ad 0), .int k0, .int w0] ([(ad 0, .inr (11, [.int cd, .int (nI pn), .ref (ad 1), .ref (ad 2), .ref (ad 3), .ref (ad 4), .ref (ad 5), .int (nI fn), .ref (ad 6), .ref (ad 7), .int (nI dn), .ref (ad 8), .long ex, .long ey, .long eg, .int (nI cn), .ref (ad 9), .ref (ad 10), .int (nI sn), .int at0, .int fl, .int (nI tn), .ref (ad 11), .ref (ad 12)])), (ad 1, .inl (G.2.1 2, 16, .inr (.inl px))), (ad 2, .inl (G.2.1 2, 16, .inr (.inl py))), (ad 3, .inl (G.2.1 2, 16, .inr (.inl pz))), (ad 4, .inl (G.2.1 2, 16, .inr (.inl gr))), (ad 5, .inl (G.2.1 2, 16, .inr (.inl ou))), (ad 6, .inl (G.2.1 2, 12, .inr (.inl fx))), (ad 7, .inl (G.2.1 2, 12, .inr (.inl fy))), (ad 8, .inl (G.2.1 1, 8, .inl od)), (ad 9, .inl (G.2.1 1, 12, .inl cr)), (ad 10, .inl (G.2.1 1, 200, .inl ty)), (ad 11, .inl (G.2.1 1, 48, .inl to_)), (ad 12, .inl (G.2.1 1, 48, .inl dr))]) (fun v u => (ts_code tn (sn_of cn) k0 w0 = 0 ∧ v = some (.int (if w0 = 1 then to_ (4 * k0.toNatClampNeg + 2) else if w0 = 2 then nI (op_q dn (dk k0.toNatClampNeg)) else nI (tv_at fx fy px gr yy cf to_ dk dn cn pn k0.toNatClampNeg))) ∧ u = [(ad 0, .inr (11, [.int 0, .int (nI pn), .ref (ad 1), .ref (ad 2), .ref (ad 3), .ref (ad 4), .ref (ad 5), .int (nI fn), .ref (ad 6), .ref (ad 7), .int (nI dn), .ref (ad 8), .long ex, .long ey, .long eg, .int (nI cn), .ref (ad 9), .ref (ad 10), .int (nI sn), .int at0, .int fl, .int (nI tn), .ref (ad 11), .ref (ad 12)])), (ad 1, .inl (G.2.1 2, 16, .inr (.inl px))), (ad 2, .inl (G.2.1 2, 16, .inr (.inl py))), (ad 3, .inl (G.2.1 2, 16, .inr (.inl pz))), (ad 4, .inl (G.2.1 2, 16, .inr (.inl gr))), (ad 5, .inl (G.2.1 2, 16, .inr (.inl ou))), (ad 6, .inl (G.2.1 2, 12, .inr (.inl fx))), (ad 7, .inl (G.2.1 2, 12, .inr (.inl fy))), (ad 8, .inl (G.2.1 1, 8, .inl od)), (ad 9, .inl (G.2.1 1, 12, .inl cr)), (ad 10, .inl (G.2.1 1, 200, .inl ty)), (ad 11, .inl (G.2.1 1, 48, .inl to_)), (ad 12, .inl (G.2.1 1, 48, .inl dr))]) ∨ (¬ ts_code tn (sn_of cn) k0 w0 = 0 ∧ v = some (.int 0) ∧ u = [(ad 0, .inr (11, [.int (ts_code tn (sn_of cn) k0 w0), .int (nI pn), .ref (ad 1), .ref (ad 2), .ref (ad 3), .ref (ad 4), .ref (ad 5), .int (nI fn), .ref (ad 6), .ref (ad 7), .int (nI dn), .ref (ad 8), .long ex, .long ey, .long eg, .int (nI cn), .ref (ad 9), .ref (ad 10), .int (nI sn), .int at0, .int fl, .int (nI tn), .ref (ad 11), .ref (ad 12)])), (ad 1, .inl (G.2.1 2, 16, .inr (.inl px))), (ad 2, .inl (G.2.1 2, 16, .inr (.inl py))), (ad 3, .inl (G.2.1 2, 16, .inr (.inl pz))), (ad 4, .inl (G.2.1 2, 16, .inr (.inl gr))), (ad 5, .inl (G.2.1 2, 16, .inr (.inl ou))), (ad 6, .inl (G.2.1 2, 12, .inr (.inl fx))), (ad 7, .inl (G.2.1 2, 12, .inr (.inl fy))), (ad 8, .inl (G.2.1 1, 8, .inl od)), (ad 9, .inl (G.2.1 1, 12, .inl cr)), (ad 10, .inl (G.2.1 1, 200, .inl ty)), (ad 11, .inl (G.2.1 1, 48, .inl to_)), (ad 12, .inl (G.2.1 1, 48, .inl dr))])) := by
  refine gx_start (by decide +kernel) (Nat.le_of_ble_eq_true rfl) ?_
  intro p e s m args below meth c A ls C hr hnm hW hl
  have gX := C.x
  have gB := C.b
  have hl : lv_has ls 3 [(0, .ref (ad 0)), (1, .int k0), (2, .int w0)] := hl
  refine lv_aload_n gX gB dX6_test_0 rfl (lv_at hl 0 rfl) ?_
  have hcase : (k0 < 0) ∨ (¬ k0 < 0 ∧ ¬ k0 < nI tn) ∨ (¬ k0 < 0 ∧ k0 < nI tn ∧ w0 < 0) ∨ (¬ k0 < 0 ∧ k0 < nI tn ∧ ¬ w0 < 0 ∧ 2 < w0) ∨ (¬ k0 < 0 ∧ k0 < nI tn ∧ ¬ w0 < 0 ∧ ¬ 2 < w0 ∧ w0 = 0 ∧ cn < 3) ∨ (¬ k0 < 0 ∧ k0 < nI tn ∧ ¬ w0 < 0 ∧ ¬ 2 < w0 ∧ w0 = 0 ∧ ¬ cn < 3) ∨ (¬ k0 < 0 ∧ k0 < nI tn ∧ ¬ w0 < 0 ∧ ¬ 2 < w0 ∧ ¬ w0 = 0 ∧ w0 = 1) ∨ (¬ k0 < 0 ∧ k0 < nI tn ∧ ¬ w0 < 0 ∧ ¬ 2 < w0 ∧ ¬ w0 = 0 ∧ ¬ w0 = 1) := by
    rcases Classical.em (k0 < 0) with h1 | h1
    · exact Or.inl h1
    rcases Classical.em (k0 < nI tn) with h2 | h2
    rotate_left 1
    · exact Or.inr (Or.inl ⟨h1, h2⟩)
    rcases Classical.em (w0 < 0) with h3 | h3
    · exact Or.inr (Or.inr (Or.inl ⟨h1, h2, h3⟩))
    rcases Classical.em (2 < w0) with h4 | h4
    · exact Or.inr (Or.inr (Or.inr (Or.inl ⟨h1, h2, h3, h4⟩)))
    rcases Classical.em (w0 = 0) with h5 | h5
    · rcases Classical.em (cn < 3) with h6 | h6
      · exact Or.inr (Or.inr (Or.inr (Or.inr (Or.inl ⟨h1, h2, h3, h4, h5, h6⟩))))
      · exact Or.inr (Or.inr (Or.inr (Or.inr (Or.inr (Or.inl ⟨h1, h2, h3, h4, h5, h6⟩)))))
    rcases Classical.em (w0 = 1) with h6 | h6
    · exact Or.inr (Or.inr (Or.inr (Or.inr (Or.inr (Or.inr (Or.inl ⟨h1, h2, h3, h4, h5, h6⟩))))))
    · exact Or.inr (Or.inr (Or.inr (Or.inr (Or.inr (Or.inr (Or.inr ⟨h1, h2, h3, h4, h5, h6⟩))))))
  rcases hcase with hk0 | ⟨hk0, hk1⟩ | ⟨hk0, hk1, hw0⟩ | ⟨hk0, hk1, hw0, hw1⟩ | ⟨hk0, hk1, hw0, hw1, hw2, hcn3⟩ | ⟨hk0, hk1, hw0, hw1, hw2, hcn3⟩ | ⟨hk0, hk1, hw0, hw1, hw2, hw3⟩ | ⟨hk0, hk1, hw0, hw1, hw2, hw3⟩
  · have e3 : ts_code tn (sn_of cn) k0 w0 = 1 := by rw [ts_code, if_pos (Or.inl hk0)]
    refine lv_iload_n gX gB dX6_test_1 rfl (lv_at hl 1 rfl) ?_
    refine lv_if_lt (tgt := 13) gX gB dX6_test_2 (by decide) (fun _ => ?_) (fun h9 => absurd (show k0 < (0 : Int32) from hk0) h9)
    refine lv_iconst (v := 1) gX gB dX6_test_13 (by decide) ?_
    refine lv_goto (tgt := 47) gX gB dX6_test_14 (by decide) ?_
    refine gx_putE C hW clX6 fX6_47 0 rfl (Or.inl rfl) rfl rfl (Nat.le_of_ble_eq_true rfl) dX6_test_47 (fun H locs hW => ?_)
    have hW : gx_W G A s ([(ad 0, .inr (11, [.int 1, .int (nI pn), .ref (ad 1), .ref (ad 2), .ref (ad 3), .ref (ad 4), .ref (ad 5), .int (nI fn), .ref (ad 6), .ref (ad 7), .int (nI dn), .ref (ad 8), .long ex, .long ey, .long eg, .int (nI cn), .ref (ad 9), .ref (ad 10), .int (nI sn), .int at0, .int fl, .int (nI tn), .ref (ad 11), .ref (ad 12)])), (ad 1, .inl (G.2.1 2, 16, .inr (.inl px))), (ad 2, .inl (G.2.1 2, 16, .inr (.inl py))), (ad 3, .inl (G.2.1 2, 16, .inr (.inl pz))), (ad 4, .inl (G.2.1 2, 16, .inr (.inl gr))), (ad 5, .inl (G.2.1 2, 16, .inr (.inl ou))), (ad 6, .inl (G.2.1 2, 12, .inr (.inl fx))), (ad 7, .inl (G.2.1 2, 12, .inr (.inl fy))), (ad 8, .inl (G.2.1 1, 8, .inl od)), (ad 9, .inl (G.2.1 1, 12, .inl cr)), (ad 10, .inl (G.2.1 1, 200, .inl ty)), (ad 11, .inl (G.2.1 1, 48, .inl to_)), (ad 12, .inl (G.2.1 1, 48, .inl dr))]) H locs := hW
    refine lv_aload_n gX gB dX6_test_50 rfl (lv_at hl 0 rfl) ?_
    refine gx_get C hW fX6_47 ⟨0, rfl⟩ rfl dX6_test_51 ?_
    refine lv_if_le (tgt := 59) gX gB dX6_test_54 (by decide) (fun h9 => absurd (show 1 ≤ (0 : Int32) from h9) (by decide)) (fun _ => ?_)
    refine lv_iconst (v := 0) gX gB dX6_test_57 (by decide) ?_
    exact gx_iret C hr hW (Or.inr ⟨by rw [e3]; decide, rfl, by rw [e3]⟩) (Nat.le_of_ble_eq_true rfl) (Nat.le_of_ble_eq_true rfl) dX6_test_58
  · have e3 : ts_code tn (sn_of cn) k0 w0 = 1 := by rw [ts_code, if_pos (Or.inr hk1)]
    refine lv_iload_n gX gB dX6_test_1 rfl (lv_at hl 1 rfl) ?_
    refine lv_if_lt (tgt := 13) gX gB dX6_test_2 (by decide) (fun h9 => absurd (show k0 < (0 : Int32) from h9) (hk0)) (fun _ => ?_)
    refine lv_iload_n gX gB dX6_test_5 rfl (lv_at hl 1 rfl) ?_
    refine lv_aload_n gX gB dX6_test_6 rfl (lv_at hl 0 rfl) ?_
    refine gx_get C hW fX6_145 ⟨0, rfl⟩ rfl dX6_test_7 ?_
    refine lv_icmp_lt (tgt := 17) gX gB dX6_test_10 (by decide) (fun h9 => absurd (show k0 < (nI tn) from h9) (hk1)) (fun _ => ?_)
    refine lv_iconst (v := 1) gX gB dX6_test_13 (by decide) ?_
    refine lv_goto (tgt := 47) gX gB dX6_test_14 (by decide) ?_
    refine gx_putE C hW clX6 fX6_47 0 rfl (Or.inl rfl) rfl rfl (Nat.le_of_ble_eq_true rfl) dX6_test_47 (fun H locs hW => ?_)
    have hW : gx_W G A s ([(ad 0, .inr (11, [.int 1, .int (nI pn), .ref (ad 1), .ref (ad 2), .ref (ad 3), .ref (ad 4), .ref (ad 5), .int (nI fn), .ref (ad 6), .ref (ad 7), .int (nI dn), .ref (ad 8), .long ex, .long ey, .long eg, .int (nI cn), .ref (ad 9), .ref (ad 10), .int (nI sn), .int at0, .int fl, .int (nI tn), .ref (ad 11), .ref (ad 12)])), (ad 1, .inl (G.2.1 2, 16, .inr (.inl px))), (ad 2, .inl (G.2.1 2, 16, .inr (.inl py))), (ad 3, .inl (G.2.1 2, 16, .inr (.inl pz))), (ad 4, .inl (G.2.1 2, 16, .inr (.inl gr))), (ad 5, .inl (G.2.1 2, 16, .inr (.inl ou))), (ad 6, .inl (G.2.1 2, 12, .inr (.inl fx))), (ad 7, .inl (G.2.1 2, 12, .inr (.inl fy))), (ad 8, .inl (G.2.1 1, 8, .inl od)), (ad 9, .inl (G.2.1 1, 12, .inl cr)), (ad 10, .inl (G.2.1 1, 200, .inl ty)), (ad 11, .inl (G.2.1 1, 48, .inl to_)), (ad 12, .inl (G.2.1 1, 48, .inl dr))]) H locs := hW
    refine lv_aload_n gX gB dX6_test_50 rfl (lv_at hl 0 rfl) ?_
    refine gx_get C hW fX6_47 ⟨0, rfl⟩ rfl dX6_test_51 ?_
    refine lv_if_le (tgt := 59) gX gB dX6_test_54 (by decide) (fun h9 => absurd (show 1 ≤ (0 : Int32) from h9) (by decide)) (fun _ => ?_)
    refine lv_iconst (v := 0) gX gB dX6_test_57 (by decide) ?_
    exact gx_iret C hr hW (Or.inr ⟨by rw [e3]; decide, rfl, by rw [e3]⟩) (Nat.le_of_ble_eq_true rfl) (Nat.le_of_ble_eq_true rfl) dX6_test_58
  · have e3 : ts_code tn (sn_of cn) k0 w0 = 2 := by rw [ts_code, if_neg (fun zz => zz.elim hk0 (fun z2 => z2 hk1)), if_pos (Or.inl hw0)]
    refine lv_iload_n gX gB dX6_test_1 rfl (lv_at hl 1 rfl) ?_
    refine lv_if_lt (tgt := 13) gX gB dX6_test_2 (by decide) (fun h9 => absurd (show k0 < (0 : Int32) from h9) (hk0)) (fun _ => ?_)
    refine lv_iload_n gX gB dX6_test_5 rfl (lv_at hl 1 rfl) ?_
    refine lv_aload_n gX gB dX6_test_6 rfl (lv_at hl 0 rfl) ?_
    refine gx_get C hW fX6_145 ⟨0, rfl⟩ rfl dX6_test_7 ?_
    refine lv_icmp_lt (tgt := 17) gX gB dX6_test_10 (by decide) (fun _ => ?_) (fun h9 => absurd (show k0 < (nI tn) from hk1) h9)
    refine lv_iload_n gX gB dX6_test_17 rfl (lv_at hl 2 rfl) ?_
    refine lv_if_lt (tgt := 26) gX gB dX6_test_18 (by decide) (fun _ => ?_) (fun h9 => absurd (show w0 < (0 : Int32) from hw0) h9)
    refine lv_iconst (v := 2) gX gB dX6_test_26 (by decide) ?_
    refine lv_goto (tgt := 47) gX gB dX6_test_27 (by decide) ?_
    refine gx_putE C hW clX6 fX6_47 0 rfl (Or.inl rfl) rfl rfl (Nat.le_of_ble_eq_true rfl) dX6_test_47 (fun H locs hW => ?_)
    have hW : gx_W G A s ([(ad 0, .inr (11, [.int 2, .int (nI pn), .ref (ad 1), .ref (ad 2), .ref (ad 3), .ref (ad 4), .ref (ad 5), .int (nI fn), .ref (ad 6), .ref (ad 7), .int (nI dn), .ref (ad 8), .long ex, .long ey, .long eg, .int (nI cn), .ref (ad 9), .ref (ad 10), .int (nI sn), .int at0, .int fl, .int (nI tn), .ref (ad 11), .ref (ad 12)])), (ad 1, .inl (G.2.1 2, 16, .inr (.inl px))), (ad 2, .inl (G.2.1 2, 16, .inr (.inl py))), (ad 3, .inl (G.2.1 2, 16, .inr (.inl pz))), (ad 4, .inl (G.2.1 2, 16, .inr (.inl gr))), (ad 5, .inl (G.2.1 2, 16, .inr (.inl ou))), (ad 6, .inl (G.2.1 2, 12, .inr (.inl fx))), (ad 7, .inl (G.2.1 2, 12, .inr (.inl fy))), (ad 8, .inl (G.2.1 1, 8, .inl od)), (ad 9, .inl (G.2.1 1, 12, .inl cr)), (ad 10, .inl (G.2.1 1, 200, .inl ty)), (ad 11, .inl (G.2.1 1, 48, .inl to_)), (ad 12, .inl (G.2.1 1, 48, .inl dr))]) H locs := hW
    refine lv_aload_n gX gB dX6_test_50 rfl (lv_at hl 0 rfl) ?_
    refine gx_get C hW fX6_47 ⟨0, rfl⟩ rfl dX6_test_51 ?_
    refine lv_if_le (tgt := 59) gX gB dX6_test_54 (by decide) (fun h9 => absurd (show 2 ≤ (0 : Int32) from h9) (by decide)) (fun _ => ?_)
    refine lv_iconst (v := 0) gX gB dX6_test_57 (by decide) ?_
    exact gx_iret C hr hW (Or.inr ⟨by rw [e3]; decide, rfl, by rw [e3]⟩) (Nat.le_of_ble_eq_true rfl) (Nat.le_of_ble_eq_true rfl) dX6_test_58
  · have e3 : ts_code tn (sn_of cn) k0 w0 = 2 := by rw [ts_code, if_neg (fun zz => zz.elim hk0 (fun z2 => z2 hk1)), if_pos (Or.inr hw1)]
    refine lv_iload_n gX gB dX6_test_1 rfl (lv_at hl 1 rfl) ?_
    refine lv_if_lt (tgt := 13) gX gB dX6_test_2 (by decide) (fun h9 => absurd (show k0 < (0 : Int32) from h9) (hk0)) (fun _ => ?_)
    refine lv_iload_n gX gB dX6_test_5 rfl (lv_at hl 1 rfl) ?_
    refine lv_aload_n gX gB dX6_test_6 rfl (lv_at hl 0 rfl) ?_
    refine gx_get C hW fX6_145 ⟨0, rfl⟩ rfl dX6_test_7 ?_
    refine lv_icmp_lt (tgt := 17) gX gB dX6_test_10 (by decide) (fun _ => ?_) (fun h9 => absurd (show k0 < (nI tn) from hk1) h9)
    refine lv_iload_n gX gB dX6_test_17 rfl (lv_at hl 2 rfl) ?_
    refine lv_if_lt (tgt := 26) gX gB dX6_test_18 (by decide) (fun h9 => absurd (show w0 < (0 : Int32) from h9) (hw0)) (fun _ => ?_)
    refine lv_iload_n gX gB dX6_test_21 rfl (lv_at hl 2 rfl) ?_
    refine lv_iconst (v := 2) gX gB dX6_test_22 (by decide) ?_
    refine lv_icmp_le (tgt := 30) gX gB dX6_test_23 (by decide) (fun h9 => absurd (show w0 ≤ (2 : Int32) from h9) (Int32.not_le.mpr hw1)) (fun _ => ?_)
    refine lv_iconst (v := 2) gX gB dX6_test_26 (by decide) ?_
    refine lv_goto (tgt := 47) gX gB dX6_test_27 (by decide) ?_
    refine gx_putE C hW clX6 fX6_47 0 rfl (Or.inl rfl) rfl rfl (Nat.le_of_ble_eq_true rfl) dX6_test_47 (fun H locs hW => ?_)
    have hW : gx_W G A s ([(ad 0, .inr (11, [.int 2, .int (nI pn), .ref (ad 1), .ref (ad 2), .ref (ad 3), .ref (ad 4), .ref (ad 5), .int (nI fn), .ref (ad 6), .ref (ad 7), .int (nI dn), .ref (ad 8), .long ex, .long ey, .long eg, .int (nI cn), .ref (ad 9), .ref (ad 10), .int (nI sn), .int at0, .int fl, .int (nI tn), .ref (ad 11), .ref (ad 12)])), (ad 1, .inl (G.2.1 2, 16, .inr (.inl px))), (ad 2, .inl (G.2.1 2, 16, .inr (.inl py))), (ad 3, .inl (G.2.1 2, 16, .inr (.inl pz))), (ad 4, .inl (G.2.1 2, 16, .inr (.inl gr))), (ad 5, .inl (G.2.1 2, 16, .inr (.inl ou))), (ad 6, .inl (G.2.1 2, 12, .inr (.inl fx))), (ad 7, .inl (G.2.1 2, 12, .inr (.inl fy))), (ad 8, .inl (G.2.1 1, 8, .inl od)), (ad 9, .inl (G.2.1 1, 12, .inl cr)), (ad 10, .inl (G.2.1 1, 200, .inl ty)), (ad 11, .inl (G.2.1 1, 48, .inl to_)), (ad 12, .inl (G.2.1 1, 48, .inl dr))]) H locs := hW
    refine lv_aload_n gX gB dX6_test_50 rfl (lv_at hl 0 rfl) ?_
    refine gx_get C hW fX6_47 ⟨0, rfl⟩ rfl dX6_test_51 ?_
    refine lv_if_le (tgt := 59) gX gB dX6_test_54 (by decide) (fun h9 => absurd (show 2 ≤ (0 : Int32) from h9) (by decide)) (fun _ => ?_)
    refine lv_iconst (v := 0) gX gB dX6_test_57 (by decide) ?_
    exact gx_iret C hr hW (Or.inr ⟨by rw [e3]; decide, rfl, by rw [e3]⟩) (Nat.le_of_ble_eq_true rfl) (Nat.le_of_ble_eq_true rfl) dX6_test_58
  · have e3 : ts_code tn (sn_of cn) k0 w0 = 3 := by rw [ts_code, if_neg (fun zz => zz.elim hk0 (fun z2 => z2 hk1)), if_neg (fun zz => zz.elim hw0 hw1), if_pos ⟨hw2, if_pos hcn3⟩]
    refine lv_iload_n gX gB dX6_test_1 rfl (lv_at hl 1 rfl) ?_
    refine lv_if_lt (tgt := 13) gX gB dX6_test_2 (by decide) (fun h9 => absurd (show k0 < (0 : Int32) from h9) (hk0)) (fun _ => ?_)
    refine lv_iload_n gX gB dX6_test_5 rfl (lv_at hl 1 rfl) ?_
    refine lv_aload_n gX gB dX6_test_6 rfl (lv_at hl 0 rfl) ?_
    refine gx_get C hW fX6_145 ⟨0, rfl⟩ rfl dX6_test_7 ?_
    refine lv_icmp_lt (tgt := 17) gX gB dX6_test_10 (by decide) (fun _ => ?_) (fun h9 => absurd (show k0 < (nI tn) from hk1) h9)
    refine lv_iload_n gX gB dX6_test_17 rfl (lv_at hl 2 rfl) ?_
    refine lv_if_lt (tgt := 26) gX gB dX6_test_18 (by decide) (fun h9 => absurd (show w0 < (0 : Int32) from h9) (hw0)) (fun _ => ?_)
    refine lv_iload_n gX gB dX6_test_21 rfl (lv_at hl 2 rfl) ?_
    refine lv_iconst (v := 2) gX gB dX6_test_22 (by decide) ?_
    refine lv_icmp_le (tgt := 30) gX gB dX6_test_23 (by decide) (fun _ => ?_) (fun h9 => absurd (show w0 ≤ (2 : Int32) from Int32.not_lt.mp hw1) h9)
    refine lv_iload_n gX gB dX6_test_30 rfl (lv_at hl 2 rfl) ?_
    refine lv_if_ne (tgt := 46) gX gB dX6_test_31 (by decide) (fun h9 => absurd (show ¬ w0 = (0 : Int32) from h9) (fun zz => zz hw2)) (fun _ => ?_)
    refine lv_aload_n gX gB dX6_test_34 rfl (lv_at hl 0 rfl) ?_
    refine gx_get C hW fX6_95 ⟨0, rfl⟩ rfl dX6_test_35 ?_
    refine lv_iconst (v := 3) gX gB dX6_test_38 (by decide) ?_
    refine lv_icmp_ge (tgt := 46) gX gB dX6_test_39 (by decide) (fun h9 => absurd (show (3 : Int32) ≤ (nI cn) from h9) (nI_ge (a := cn) (b := 3) hcn3 (by decide))) (fun _ => ?_)
    refine lv_iconst (v := 3) gX gB dX6_test_42 (by decide) ?_
    refine lv_goto (tgt := 47) gX gB dX6_test_43 (by decide) ?_
    refine gx_putE C hW clX6 fX6_47 0 rfl (Or.inl rfl) rfl rfl (Nat.le_of_ble_eq_true rfl) dX6_test_47 (fun H locs hW => ?_)
    have hW : gx_W G A s ([(ad 0, .inr (11, [.int 3, .int (nI pn), .ref (ad 1), .ref (ad 2), .ref (ad 3), .ref (ad 4), .ref (ad 5), .int (nI fn), .ref (ad 6), .ref (ad 7), .int (nI dn), .ref (ad 8), .long ex, .long ey, .long eg, .int (nI cn), .ref (ad 9), .ref (ad 10), .int (nI sn), .int at0, .int fl, .int (nI tn), .ref (ad 11), .ref (ad 12)])), (ad 1, .inl (G.2.1 2, 16, .inr (.inl px))), (ad 2, .inl (G.2.1 2, 16, .inr (.inl py))), (ad 3, .inl (G.2.1 2, 16, .inr (.inl pz))), (ad 4, .inl (G.2.1 2, 16, .inr (.inl gr))), (ad 5, .inl (G.2.1 2, 16, .inr (.inl ou))), (ad 6, .inl (G.2.1 2, 12, .inr (.inl fx))), (ad 7, .inl (G.2.1 2, 12, .inr (.inl fy))), (ad 8, .inl (G.2.1 1, 8, .inl od)), (ad 9, .inl (G.2.1 1, 12, .inl cr)), (ad 10, .inl (G.2.1 1, 200, .inl ty)), (ad 11, .inl (G.2.1 1, 48, .inl to_)), (ad 12, .inl (G.2.1 1, 48, .inl dr))]) H locs := hW
    refine lv_aload_n gX gB dX6_test_50 rfl (lv_at hl 0 rfl) ?_
    refine gx_get C hW fX6_47 ⟨0, rfl⟩ rfl dX6_test_51 ?_
    refine lv_if_le (tgt := 59) gX gB dX6_test_54 (by decide) (fun h9 => absurd (show 3 ≤ (0 : Int32) from h9) (by decide)) (fun _ => ?_)
    refine lv_iconst (v := 0) gX gB dX6_test_57 (by decide) ?_
    exact gx_iret C hr hW (Or.inr ⟨by rw [e3]; decide, rfl, by rw [e3]⟩) (Nat.le_of_ble_eq_true rfl) (Nat.le_of_ble_eq_true rfl) dX6_test_58
  · have e3 : ts_code tn (sn_of cn) k0 w0 = 0 := by rw [ts_code, if_neg (fun zz => zz.elim hk0 (fun z2 => z2 hk1)), if_neg (fun zz => zz.elim hw0 hw1), if_neg (fun zz => absurd zz.2 (by rw [sn_of, if_neg hcn3]; omega))]
    obtain ⟨k, hk31, rfl⟩ := nI_of hk0
    have hk : k < tn := (nI_ltI hk31 (by omega)).mp hk1
    have hl : lv_has ls 3 [(0, .ref (ad 0)), (1, .int (nI k)), (2, .int w0)] := hl
    refine lv_iload_n gX gB dX6_test_1 rfl (lv_at hl 1 rfl) ?_
    refine lv_if_lt (tgt := 13) gX gB dX6_test_2 (by decide) (fun h9 => absurd (show (nI k) < (0 : Int32) from h9) (hk0)) (fun _ => ?_)
    refine lv_iload_n gX gB dX6_test_5 rfl (lv_at hl 1 rfl) ?_
    refine lv_aload_n gX gB dX6_test_6 rfl (lv_at hl 0 rfl) ?_
    refine gx_get C hW fX6_145 ⟨0, rfl⟩ rfl dX6_test_7 ?_
    refine lv_icmp_lt (tgt := 17) gX gB dX6_test_10 (by decide) (fun _ => ?_) (fun h9 => absurd (show (nI k) < (nI tn) from hk1) h9)
    refine lv_iload_n gX gB dX6_test_17 rfl (lv_at hl 2 rfl) ?_
    refine lv_if_lt (tgt := 26) gX gB dX6_test_18 (by decide) (fun h9 => absurd (show w0 < (0 : Int32) from h9) (hw0)) (fun _ => ?_)
    refine lv_iload_n gX gB dX6_test_21 rfl (lv_at hl 2 rfl) ?_
    refine lv_iconst (v := 2) gX gB dX6_test_22 (by decide) ?_
    refine lv_icmp_le (tgt := 30) gX gB dX6_test_23 (by decide) (fun _ => ?_) (fun h9 => absurd (show w0 ≤ (2 : Int32) from Int32.not_lt.mp hw1) h9)
    refine lv_iload_n gX gB dX6_test_30 rfl (lv_at hl 2 rfl) ?_
    refine lv_if_ne (tgt := 46) gX gB dX6_test_31 (by decide) (fun h9 => absurd (show ¬ w0 = (0 : Int32) from h9) (fun zz => zz hw2)) (fun _ => ?_)
    refine lv_aload_n gX gB dX6_test_34 rfl (lv_at hl 0 rfl) ?_
    refine gx_get C hW fX6_95 ⟨0, rfl⟩ rfl dX6_test_35 ?_
    refine lv_iconst (v := 3) gX gB dX6_test_38 (by decide) ?_
    refine lv_icmp_ge (tgt := 46) gX gB dX6_test_39 (by decide) (fun _ => ?_) (fun h9 => absurd (show (3 : Int32) ≤ (nI cn) from (nI_leI (a := 3) (b := cn) (by decide) (by omega)).mpr (by omega)) h9)
    refine lv_iconst (v := 0) gX gB dX6_test_46 (by decide) ?_
    refine gx_putE C hW clX6 fX6_47 0 rfl (Or.inl rfl) rfl rfl (Nat.le_of_ble_eq_true rfl) dX6_test_47 (fun H locs hW => ?_)
    have hW : gx_W G A s ([(ad 0, .inr (11, [.int 0, .int (nI pn), .ref (ad 1), .ref (ad 2), .ref (ad 3), .ref (ad 4), .ref (ad 5), .int (nI fn), .ref (ad 6), .ref (ad 7), .int (nI dn), .ref (ad 8), .long ex, .long ey, .long eg, .int (nI cn), .ref (ad 9), .ref (ad 10), .int (nI sn), .int at0, .int fl, .int (nI tn), .ref (ad 11), .ref (ad 12)])), (ad 1, .inl (G.2.1 2, 16, .inr (.inl px))), (ad 2, .inl (G.2.1 2, 16, .inr (.inl py))), (ad 3, .inl (G.2.1 2, 16, .inr (.inl pz))), (ad 4, .inl (G.2.1 2, 16, .inr (.inl gr))), (ad 5, .inl (G.2.1 2, 16, .inr (.inl ou))), (ad 6, .inl (G.2.1 2, 12, .inr (.inl fx))), (ad 7, .inl (G.2.1 2, 12, .inr (.inl fy))), (ad 8, .inl (G.2.1 1, 8, .inl od)), (ad 9, .inl (G.2.1 1, 12, .inl cr)), (ad 10, .inl (G.2.1 1, 200, .inl ty)), (ad 11, .inl (G.2.1 1, 48, .inl to_)), (ad 12, .inl (G.2.1 1, 48, .inl dr))]) H locs := hW
    refine lv_aload_n gX gB dX6_test_50 rfl (lv_at hl 0 rfl) ?_
    refine gx_get C hW fX6_47 ⟨0, rfl⟩ rfl dX6_test_51 ?_
    refine lv_if_le (tgt := 59) gX gB dX6_test_54 (by decide) (fun _ => ?_) (fun h9 => absurd (show 0 ≤ (0 : Int32) from by decide) h9)
    refine lv_iload_n gX gB dX6_test_59 rfl (lv_at hl 2 rfl) ?_
    refine lv_if_ne (tgt := 71) gX gB dX6_test_60 (by decide) (fun h9 => absurd (show ¬ w0 = (0 : Int32) from h9) (fun zz => zz hw2)) (fun _ => ?_)
    refine lv_aload_n gX gB dX6_test_63 rfl (lv_at hl 0 rfl) ?_
    refine lv_iload_n gX gB dX6_test_64 rfl (lv_at hl 1 rfl) ?_
    refine gx_callV (wr := []) (rest := []) C hW sX6_151 (kX6_testAt l G ad 0 pn fn dn cn sn tn ex ey eg at0 fl px py pz gr ou fx fy od cr ty to_ dr hpn hcn cf hcr hcf hdn8 yy hyy htn dk hdk hdk2 k hk) ⟨0, rfl⟩ rfl rfl ⟨(Nat.le_of_ble_eq_true rfl), (Nat.le_of_ble_eq_true rfl)⟩ hl.1 rfl (Nat.le_of_ble_eq_true rfl) dX6_test_65 ⟨(Nat.le_of_ble_eq_true rfl), (Nat.le_of_ble_eq_true rfl)⟩ (fun v9 u9 H locs hp hW => ?_)
    obtain ⟨rfl, hu⟩ := hp
    rw [hu] at hW
    have hW : gx_W G A s ([(ad 0, .inr (11, [.int 0, .int (nI pn), .ref (ad 1), .ref (ad 2), .ref (ad 3), .ref (ad 4), .ref (ad 5), .int (nI fn), .ref (ad 6), .ref (ad 7), .int (nI dn), .ref (ad 8), .long ex, .long ey, .long eg, .int (nI cn), .ref (ad 9), .ref (ad 10), .int (nI sn), .int at0, .int fl, .int (nI tn), .ref (ad 11), .ref (ad 12)])), (ad 1, .inl (G.2.1 2, 16, .inr (.inl px))), (ad 2, .inl (G.2.1 2, 16, .inr (.inl py))), (ad 3, .inl (G.2.1 2, 16, .inr (.inl pz))), (ad 4, .inl (G.2.1 2, 16, .inr (.inl gr))), (ad 5, .inl (G.2.1 2, 16, .inr (.inl ou))), (ad 6, .inl (G.2.1 2, 12, .inr (.inl fx))), (ad 7, .inl (G.2.1 2, 12, .inr (.inl fy))), (ad 8, .inl (G.2.1 1, 8, .inl od)), (ad 9, .inl (G.2.1 1, 12, .inl cr)), (ad 10, .inl (G.2.1 1, 200, .inl ty)), (ad 11, .inl (G.2.1 1, 48, .inl to_)), (ad 12, .inl (G.2.1 1, 48, .inl dr))]) H locs := hW
    refine W.eq (g2 := F0 m 68 ls [.int (nI (tv_at fx fy px gr yy cf to_ dk dn cn pn k))]) rfl ?_
    refine W.widen (k := 0) (n := 0) (Nat.le_of_ble_eq_true rfl) (Nat.le_of_ble_eq_true rfl) ?_
    refine lv_goto (tgt := 94) gX gB dX6_test_68 (by decide) ?_
    exact gx_iret C hr hW (Or.inl ⟨e3, by rw [nI_clamp hk31, if_neg (by rw [hw2]; decide), if_neg (by rw [hw2]; decide)], rfl⟩) (Nat.le_of_ble_eq_true rfl) (Nat.le_of_ble_eq_true rfl) dX6_test_94
  · have e3 : ts_code tn (sn_of cn) k0 w0 = 0 := by rw [ts_code, if_neg (fun zz => zz.elim hk0 (fun z2 => z2 hk1)), if_neg (fun zz => zz.elim hw0 hw1), if_neg (fun zz => hw2 zz.1)]
    obtain ⟨k, hk31, rfl⟩ := nI_of hk0
    have hk : k < tn := (nI_ltI hk31 (by omega)).mp hk1
    have hl : lv_has ls 3 [(0, .ref (ad 0)), (1, .int (nI k)), (2, .int w0)] := hl
    refine lv_iload_n gX gB dX6_test_1 rfl (lv_at hl 1 rfl) ?_
    refine lv_if_lt (tgt := 13) gX gB dX6_test_2 (by decide) (fun h9 => absurd (show (nI k) < (0 : Int32) from h9) (hk0)) (fun _ => ?_)
    refine lv_iload_n gX gB dX6_test_5 rfl (lv_at hl 1 rfl) ?_
    refine lv_aload_n gX gB dX6_test_6 rfl (lv_at hl 0 rfl) ?_
    refine gx_get C hW fX6_145 ⟨0, rfl⟩ rfl dX6_test_7 ?_
    refine lv_icmp_lt (tgt := 17) gX gB dX6_test_10 (by decide) (fun _ => ?_) (fun h9 => absurd (show (nI k) < (nI tn) from hk1) h9)
    refine lv_iload_n gX gB dX6_test_17 rfl (lv_at hl 2 rfl) ?_
    refine lv_if_lt (tgt := 26) gX gB dX6_test_18 (by decide) (fun h9 => absurd (show w0 < (0 : Int32) from h9) (hw0)) (fun _ => ?_)
    refine lv_iload_n gX gB dX6_test_21 rfl (lv_at hl 2 rfl) ?_
    refine lv_iconst (v := 2) gX gB dX6_test_22 (by decide) ?_
    refine lv_icmp_le (tgt := 30) gX gB dX6_test_23 (by decide) (fun _ => ?_) (fun h9 => absurd (show w0 ≤ (2 : Int32) from Int32.not_lt.mp hw1) h9)
    refine lv_iload_n gX gB dX6_test_30 rfl (lv_at hl 2 rfl) ?_
    refine lv_if_ne (tgt := 46) gX gB dX6_test_31 (by decide) (fun _ => ?_) (fun h9 => absurd h9 (show ¬ w0 = (0 : Int32) from hw2))
    refine lv_iconst (v := 0) gX gB dX6_test_46 (by decide) ?_
    refine gx_putE C hW clX6 fX6_47 0 rfl (Or.inl rfl) rfl rfl (Nat.le_of_ble_eq_true rfl) dX6_test_47 (fun H locs hW => ?_)
    have hW : gx_W G A s ([(ad 0, .inr (11, [.int 0, .int (nI pn), .ref (ad 1), .ref (ad 2), .ref (ad 3), .ref (ad 4), .ref (ad 5), .int (nI fn), .ref (ad 6), .ref (ad 7), .int (nI dn), .ref (ad 8), .long ex, .long ey, .long eg, .int (nI cn), .ref (ad 9), .ref (ad 10), .int (nI sn), .int at0, .int fl, .int (nI tn), .ref (ad 11), .ref (ad 12)])), (ad 1, .inl (G.2.1 2, 16, .inr (.inl px))), (ad 2, .inl (G.2.1 2, 16, .inr (.inl py))), (ad 3, .inl (G.2.1 2, 16, .inr (.inl pz))), (ad 4, .inl (G.2.1 2, 16, .inr (.inl gr))), (ad 5, .inl (G.2.1 2, 16, .inr (.inl ou))), (ad 6, .inl (G.2.1 2, 12, .inr (.inl fx))), (ad 7, .inl (G.2.1 2, 12, .inr (.inl fy))), (ad 8, .inl (G.2.1 1, 8, .inl od)), (ad 9, .inl (G.2.1 1, 12, .inl cr)), (ad 10, .inl (G.2.1 1, 200, .inl ty)), (ad 11, .inl (G.2.1 1, 48, .inl to_)), (ad 12, .inl (G.2.1 1, 48, .inl dr))]) H locs := hW
    refine lv_aload_n gX gB dX6_test_50 rfl (lv_at hl 0 rfl) ?_
    refine gx_get C hW fX6_47 ⟨0, rfl⟩ rfl dX6_test_51 ?_
    refine lv_if_le (tgt := 59) gX gB dX6_test_54 (by decide) (fun _ => ?_) (fun h9 => absurd (show 0 ≤ (0 : Int32) from by decide) h9)
    refine lv_iload_n gX gB dX6_test_59 rfl (lv_at hl 2 rfl) ?_
    refine lv_if_ne (tgt := 71) gX gB dX6_test_60 (by decide) (fun _ => ?_) (fun h9 => absurd h9 (show ¬ w0 = (0 : Int32) from hw2))
    refine lv_iload_n gX gB dX6_test_71 rfl (lv_at hl 2 rfl) ?_
    refine lv_iconst (v := 1) gX gB dX6_test_72 (by decide) ?_
    refine lv_icmp_ne (tgt := 89) gX gB dX6_test_73 (by decide) (fun h9 => absurd (show ¬ w0 = (1 : Int32) from h9) (fun zz => zz hw3)) (fun _ => ?_)
    refine lv_aload_n gX gB dX6_test_76 rfl (lv_at hl 0 rfl) ?_
    refine gx_get C hW fX6_41 ⟨0, rfl⟩ rfl dX6_test_77 ?_
    refine lv_iconst (v := 4) gX gB dX6_test_80 (by decide) ?_
    refine lv_iload_n gX gB dX6_test_81 rfl (lv_at hl 1 rfl) ?_
    refine lv_imul gX gB dX6_test_82 ?_
    refine gx_topi (show (4 * (nI k)) = nI (4 * k) from nI_4 k) ?_
    refine lv_iconst (v := 2) gX gB dX6_test_83 (by decide) ?_
    refine lv_iadd gX gB dX6_test_84 ?_
    refine gx_topi (show ((nI (4 * k)) + 2) = nI (4 * k + 2) from nI_add (4 * k) 2) ?_
    refine gx_iald C hW ⟨11, rfl⟩ (j := (4 * k + 2)) rfl (by omega) (by decide) dX6_test_85 ?_
    refine lv_goto (tgt := 94) gX gB dX6_test_86 (by decide) ?_
    exact gx_iret C hr hW (Or.inl ⟨e3, by rw [nI_clamp hk31, if_pos hw3], rfl⟩) (Nat.le_of_ble_eq_true rfl) (Nat.le_of_ble_eq_true rfl) dX6_test_94
  · have e3 : ts_code tn (sn_of cn) k0 w0 = 0 := by rw [ts_code, if_neg (fun zz => zz.elim hk0 (fun z2 => z2 hk1)), if_neg (fun zz => zz.elim hw0 hw1), if_neg (fun zz => hw2 zz.1)]
    obtain ⟨k, hk31, rfl⟩ := nI_of hk0
    have hk : k < tn := (nI_ltI hk31 (by omega)).mp hk1
    have hl : lv_has ls 3 [(0, .ref (ad 0)), (1, .int (nI k)), (2, .int w0)] := hl
    refine lv_iload_n gX gB dX6_test_1 rfl (lv_at hl 1 rfl) ?_
    refine lv_if_lt (tgt := 13) gX gB dX6_test_2 (by decide) (fun h9 => absurd (show (nI k) < (0 : Int32) from h9) (hk0)) (fun _ => ?_)
    refine lv_iload_n gX gB dX6_test_5 rfl (lv_at hl 1 rfl) ?_
    refine lv_aload_n gX gB dX6_test_6 rfl (lv_at hl 0 rfl) ?_
    refine gx_get C hW fX6_145 ⟨0, rfl⟩ rfl dX6_test_7 ?_
    refine lv_icmp_lt (tgt := 17) gX gB dX6_test_10 (by decide) (fun _ => ?_) (fun h9 => absurd (show (nI k) < (nI tn) from hk1) h9)
    refine lv_iload_n gX gB dX6_test_17 rfl (lv_at hl 2 rfl) ?_
    refine lv_if_lt (tgt := 26) gX gB dX6_test_18 (by decide) (fun h9 => absurd (show w0 < (0 : Int32) from h9) (hw0)) (fun _ => ?_)
    refine lv_iload_n gX gB dX6_test_21 rfl (lv_at hl 2 rfl) ?_
    refine lv_iconst (v := 2) gX gB dX6_test_22 (by decide) ?_
    refine lv_icmp_le (tgt := 30) gX gB dX6_test_23 (by decide) (fun _ => ?_) (fun h9 => absurd (show w0 ≤ (2 : Int32) from Int32.not_lt.mp hw1) h9)
    refine lv_iload_n gX gB dX6_test_30 rfl (lv_at hl 2 rfl) ?_
    refine lv_if_ne (tgt := 46) gX gB dX6_test_31 (by decide) (fun _ => ?_) (fun h9 => absurd h9 (show ¬ w0 = (0 : Int32) from hw2))
    refine lv_iconst (v := 0) gX gB dX6_test_46 (by decide) ?_
    refine gx_putE C hW clX6 fX6_47 0 rfl (Or.inl rfl) rfl rfl (Nat.le_of_ble_eq_true rfl) dX6_test_47 (fun H locs hW => ?_)
    have hW : gx_W G A s ([(ad 0, .inr (11, [.int 0, .int (nI pn), .ref (ad 1), .ref (ad 2), .ref (ad 3), .ref (ad 4), .ref (ad 5), .int (nI fn), .ref (ad 6), .ref (ad 7), .int (nI dn), .ref (ad 8), .long ex, .long ey, .long eg, .int (nI cn), .ref (ad 9), .ref (ad 10), .int (nI sn), .int at0, .int fl, .int (nI tn), .ref (ad 11), .ref (ad 12)])), (ad 1, .inl (G.2.1 2, 16, .inr (.inl px))), (ad 2, .inl (G.2.1 2, 16, .inr (.inl py))), (ad 3, .inl (G.2.1 2, 16, .inr (.inl pz))), (ad 4, .inl (G.2.1 2, 16, .inr (.inl gr))), (ad 5, .inl (G.2.1 2, 16, .inr (.inl ou))), (ad 6, .inl (G.2.1 2, 12, .inr (.inl fx))), (ad 7, .inl (G.2.1 2, 12, .inr (.inl fy))), (ad 8, .inl (G.2.1 1, 8, .inl od)), (ad 9, .inl (G.2.1 1, 12, .inl cr)), (ad 10, .inl (G.2.1 1, 200, .inl ty)), (ad 11, .inl (G.2.1 1, 48, .inl to_)), (ad 12, .inl (G.2.1 1, 48, .inl dr))]) H locs := hW
    refine lv_aload_n gX gB dX6_test_50 rfl (lv_at hl 0 rfl) ?_
    refine gx_get C hW fX6_47 ⟨0, rfl⟩ rfl dX6_test_51 ?_
    refine lv_if_le (tgt := 59) gX gB dX6_test_54 (by decide) (fun _ => ?_) (fun h9 => absurd (show 0 ≤ (0 : Int32) from by decide) h9)
    refine lv_iload_n gX gB dX6_test_59 rfl (lv_at hl 2 rfl) ?_
    refine lv_if_ne (tgt := 71) gX gB dX6_test_60 (by decide) (fun _ => ?_) (fun h9 => absurd h9 (show ¬ w0 = (0 : Int32) from hw2))
    refine lv_iload_n gX gB dX6_test_71 rfl (lv_at hl 2 rfl) ?_
    refine lv_iconst (v := 1) gX gB dX6_test_72 (by decide) ?_
    refine lv_icmp_ne (tgt := 89) gX gB dX6_test_73 (by decide) (fun _ => ?_) (fun h9 => absurd h9 (show ¬ w0 = (1 : Int32) from hw3))
    refine lv_aload_n gX gB dX6_test_89 rfl (lv_at hl 0 rfl) ?_
    refine lv_iload_n gX gB dX6_test_90 rfl (lv_at hl 1 rfl) ?_
    refine gx_callV (wr := []) (rest := []) C hW sX6_148 (kX6_openIn l G ad 0 pn fn dn cn sn tn ex ey eg at0 fl px py pz gr ou fx fy od cr ty to_ dr hdn8 htn dk hdk hdk2 k hk) ⟨0, rfl⟩ rfl rfl ⟨(Nat.le_of_ble_eq_true rfl), (Nat.le_of_ble_eq_true rfl)⟩ hl.1 rfl (Nat.le_of_ble_eq_true rfl) dX6_test_91 ⟨(Nat.le_of_ble_eq_true rfl), (Nat.le_of_ble_eq_true rfl)⟩ (fun v9 u9 H locs hp hW => ?_)
    obtain ⟨rfl, hu⟩ := hp
    rw [hu] at hW
    have hW : gx_W G A s ([(ad 0, .inr (11, [.int 0, .int (nI pn), .ref (ad 1), .ref (ad 2), .ref (ad 3), .ref (ad 4), .ref (ad 5), .int (nI fn), .ref (ad 6), .ref (ad 7), .int (nI dn), .ref (ad 8), .long ex, .long ey, .long eg, .int (nI cn), .ref (ad 9), .ref (ad 10), .int (nI sn), .int at0, .int fl, .int (nI tn), .ref (ad 11), .ref (ad 12)])), (ad 1, .inl (G.2.1 2, 16, .inr (.inl px))), (ad 2, .inl (G.2.1 2, 16, .inr (.inl py))), (ad 3, .inl (G.2.1 2, 16, .inr (.inl pz))), (ad 4, .inl (G.2.1 2, 16, .inr (.inl gr))), (ad 5, .inl (G.2.1 2, 16, .inr (.inl ou))), (ad 6, .inl (G.2.1 2, 12, .inr (.inl fx))), (ad 7, .inl (G.2.1 2, 12, .inr (.inl fy))), (ad 8, .inl (G.2.1 1, 8, .inl od)), (ad 9, .inl (G.2.1 1, 12, .inl cr)), (ad 10, .inl (G.2.1 1, 200, .inl ty)), (ad 11, .inl (G.2.1 1, 48, .inl to_)), (ad 12, .inl (G.2.1 1, 48, .inl dr))]) H locs := hW
    refine W.eq (g2 := F0 m 94 ls [.int (nI (op_q dn (dk k)))]) rfl ?_
    refine W.widen (k := 0) (n := 0) (Nat.le_of_ble_eq_true rfl) (Nat.le_of_ble_eq_true rfl) ?_
    exact gx_iret C hr hW (Or.inl ⟨e3, by rw [nI_clamp hk31, if_neg hw3, if_pos (ts_w2 hw0 hw1 hw2 hw3)], rfl⟩) (Nat.le_of_ble_eq_true rfl) (Nat.le_of_ble_eq_true rfl) dX6_test_94
theorem tv_le (fx fy px gr : Nat → Int64) (yy : Nat → Nat → Int64) (cf : Nat → Nat) (to_ : Nat → Int32) (dk : Nat → Nat) (dn cn pn k : Nat) : tv_at fx fy px gr yy cf to_ dk dn cn pn k ≤ cn := by
  have := up_le (rf_mom fx fy px gr (yy (op_q dn (dk k))) cf cn pn (to_ (4 * k)).toInt64 (to_ (4 * k + 1)).toInt64 (to_ (4 * k + 2)).toInt64) cn 0
  exact this
theorem an_in {b9 : Int32} {v : Nat → Nat} {n : Nat} (h : bv_is b9 (∃ j, j < n ∧ ¬ v j = 0)) : b9 = an_at v n := by
  rcases h with ⟨h1, j, hj, hv⟩ | ⟨h1, h2⟩
  · rw [h1, an_no hj hv]
  · rw [h1, an_yes (fun j hj => Classical.byContradiction fun z => h2 ⟨j, hj, z⟩)]
theorem an_s1 {v : Nat → Nat} {n : Nat} (h : ∃ j, j < n ∧ ¬ v j = 0) : ∃ j, j < n + 1 ∧ ¬ v j = 0 := by
  obtain ⟨j, hj, hv⟩ := h
  exact ⟨j, by omega, hv⟩
theorem an_s0 {v : Nat → Nat} {n : Nat} (h : ¬ ∃ j, j < n ∧ ¬ v j = 0) (h2 : v n = 0) : ¬ ∃ j, j < n + 1 ∧ ¬ v j = 0 := by
  rintro ⟨j, hj, hv⟩
  rcases Nat.lt_or_ge j n with h3 | h3
  · exact h ⟨j, h3, hv⟩
  · exact hv (by rw [show j = n by omega]; exact h2)
set_option maxHeartbeats 4000000 in
set_option maxRecDepth 100000 in
theorem kX6_anchor (l : Launch) (G : gx_T) (ad : Nat → Nat) (cd : Int32) (pn fn dn cn sn tn : Nat) (ex ey eg : Int64) (at0 fl : Int32) (px py pz gr ou fx fy : Nat → Int64) (od cr ty to_ dr : Nat → Int32) (hpn : pn ≤ 16) (hcn : cn ≤ 12) (cf : Nat → Nat) (hcr : ∀ i, i < cn → cr i = nI (cf i)) (hcf : ∀ i, i < cn → cf i < 12) (hdn8 : dn ≤ 8) (yy : Nat → Nat → Int64) (hyy : ∀ q, q ≤ dn → ∀ k, k < pn → yy_ok py ou od q k (yy q k)) (htn : tn ≤ 12) (dk : Nat → Nat) (hdk : ∀ k, k < tn → to_ (4 * k + 3) = nI (dk k)) (hdk2 : ∀ k, k < tn → dk k < 2 ^ 31) : gx_M l G yX6_anchor cX6_anchor 3 (some .boolean) ({ frames := 4, cells := 0, slots := 0, locals := 117 } : Room) [.ref (ad 0)] ([(ad 0, .inr (11, [.int cd, .int (nI pn), .ref (ad 1), .ref (ad 2), .ref (ad 3), .ref (ad 4), .ref (ad 5), .int (nI fn), .ref (ad 6), .ref (ad 7), .int (nI dn), .ref (ad 8), .long ex, .long ey, .long eg, .int (nI cn), .ref (ad 9), .ref (ad 10), .int (nI sn), .int at0, .int fl, .int (nI tn), .ref (ad 11), .ref (ad 12)])), (ad 1, .inl (G.2.1 2, 16, .inr (.inl px))), (ad 2, .inl (G.2.1 2, 16, .inr (.inl py))), (ad 3, .inl (G.2.1 2, 16, .inr (.inl pz))), (ad 4, .inl (G.2.1 2, 16, .inr (.inl gr))), (ad 5, .inl (G.2.1 2, 16, .inr (.inl ou))), (ad 6, .inl (G.2.1 2, 12, .inr (.inl fx))), (ad 7, .inl (G.2.1 2, 12, .inr (.inl fy))), (ad 8, .inl (G.2.1 1, 8, .inl od)), (ad 9, .inl (G.2.1 1, 12, .inl cr)), (ad 10, .inl (G.2.1 1, 200, .inl ty)), (ad 11, .inl (G.2.1 1, 48, .inl to_)), (ad 12, .inl (G.2.1 1, 48, .inl dr))]) (fun v u => (ms_code (sn_of cn) = 0 ∧ v = some (.int (an_at (tv_at fx fy px gr yy cf to_ dk dn cn pn) tn)) ∧ u = [(ad 0, .inr (11, [.int 0, .int (nI pn), .ref (ad 1), .ref (ad 2), .ref (ad 3), .ref (ad 4), .ref (ad 5), .int (nI fn), .ref (ad 6), .ref (ad 7), .int (nI dn), .ref (ad 8), .long ex, .long ey, .long eg, .int (nI cn), .ref (ad 9), .ref (ad 10), .int (nI sn), .int at0, .int fl, .int (nI tn), .ref (ad 11), .ref (ad 12)])), (ad 1, .inl (G.2.1 2, 16, .inr (.inl px))), (ad 2, .inl (G.2.1 2, 16, .inr (.inl py))), (ad 3, .inl (G.2.1 2, 16, .inr (.inl pz))), (ad 4, .inl (G.2.1 2, 16, .inr (.inl gr))), (ad 5, .inl (G.2.1 2, 16, .inr (.inl ou))), (ad 6, .inl (G.2.1 2, 12, .inr (.inl fx))), (ad 7, .inl (G.2.1 2, 12, .inr (.inl fy))), (ad 8, .inl (G.2.1 1, 8, .inl od)), (ad 9, .inl (G.2.1 1, 12, .inl cr)), (ad 10, .inl (G.2.1 1, 200, .inl ty)), (ad 11, .inl (G.2.1 1, 48, .inl to_)), (ad 12, .inl (G.2.1 1, 48, .inl dr))]) ∨ (¬ ms_code (sn_of cn) = 0 ∧ v = some (.int 0) ∧ u = [(ad 0, .inr (11, [.int (ms_code (sn_of cn)), .int (nI pn), .ref (ad 1), .ref (ad 2), .ref (ad 3), .ref (ad 4), .ref (ad 5), .int (nI fn), .ref (ad 6), .ref (ad 7), .int (nI dn), .ref (ad 8), .long ex, .long ey, .long eg, .int (nI cn), .ref (ad 9), .ref (ad 10), .int (nI sn), .int at0, .int fl, .int (nI tn), .ref (ad 11), .ref (ad 12)])), (ad 1, .inl (G.2.1 2, 16, .inr (.inl px))), (ad 2, .inl (G.2.1 2, 16, .inr (.inl py))), (ad 3, .inl (G.2.1 2, 16, .inr (.inl pz))), (ad 4, .inl (G.2.1 2, 16, .inr (.inl gr))), (ad 5, .inl (G.2.1 2, 16, .inr (.inl ou))), (ad 6, .inl (G.2.1 2, 12, .inr (.inl fx))), (ad 7, .inl (G.2.1 2, 12, .inr (.inl fy))), (ad 8, .inl (G.2.1 1, 8, .inl od)), (ad 9, .inl (G.2.1 1, 12, .inl cr)), (ad 10, .inl (G.2.1 1, 200, .inl ty)), (ad 11, .inl (G.2.1 1, 48, .inl to_)), (ad 12, .inl (G.2.1 1, 48, .inl dr))])) := by
  refine gx_start (by decide +kernel) (Nat.le_of_ble_eq_true rfl) ?_
  intro p e s m args below meth c A ls C hr hnm hW hl
  have gX := C.x
  have gB := C.b
  have hl : lv_has ls 3 [(0, .ref (ad 0))] := hl
  refine lv_aload_n gX gB dX6_anchor_0 rfl (lv_at hl 0 rfl) ?_
  refine gx_callV (wr := []) (rest := []) C hW sX6_113 (kX6_noPolygon l G ad cd pn fn dn cn sn tn ex ey eg at0 fl px py pz gr ou fx fy od cr ty to_ dr hcn) ⟨0, rfl⟩ rfl rfl ⟨(Nat.le_of_ble_eq_true rfl), (Nat.le_of_ble_eq_true rfl)⟩ hl.1 rfl (Nat.le_of_ble_eq_true rfl) dX6_anchor_1 ⟨(Nat.le_of_ble_eq_true rfl), (Nat.le_of_ble_eq_true rfl)⟩ (fun v9 u9 H locs hp hW => ?_)
  obtain ⟨rfl, hu⟩ := hp
  rw [hu] at hW
  have hW : gx_W G A s ([(ad 0, .inr (11, [.int (np_code cn), .int (nI pn), .ref (ad 1), .ref (ad 2), .ref (ad 3), .ref (ad 4), .ref (ad 5), .int (nI fn), .ref (ad 6), .ref (ad 7), .int (nI dn), .ref (ad 8), .long ex, .long ey, .long eg, .int (nI cn), .ref (ad 9), .ref (ad 10), .int (nI sn), .int at0, .int fl, .int (nI tn), .ref (ad 11), .ref (ad 12)])), (ad 1, .inl (G.2.1 2, 16, .inr (.inl px))), (ad 2, .inl (G.2.1 2, 16, .inr (.inl py))), (ad 3, .inl (G.2.1 2, 16, .inr (.inl pz))), (ad 4, .inl (G.2.1 2, 16, .inr (.inl gr))), (ad 5, .inl (G.2.1 2, 16, .inr (.inl ou))), (ad 6, .inl (G.2.1 2, 12, .inr (.inl fx))), (ad 7, .inl (G.2.1 2, 12, .inr (.inl fy))), (ad 8, .inl (G.2.1 1, 8, .inl od)), (ad 9, .inl (G.2.1 1, 12, .inl cr)), (ad 10, .inl (G.2.1 1, 200, .inl ty)), (ad 11, .inl (G.2.1 1, 48, .inl to_)), (ad 12, .inl (G.2.1 1, 48, .inl dr))]) H locs := hW
  refine W.eq (g2 := F0 m 4 ls [.int (np_code cn)]) rfl ?_
  refine W.widen (k := 0) (n := 0) (Nat.le_of_ble_eq_true rfl) (Nat.le_of_ble_eq_true rfl) ?_
  rcases Classical.em (cn < 3) with hcn3 | hcn3
  · have e1 : np_code cn = 1 := if_pos hcn3
    have e0 : sn_of cn = 0 := if_pos hcn3
    refine lv_if_eq (tgt := 9) gX gB dX6_anchor_4 (by decide) (fun h9 => absurd (show (np_code cn) = (0 : Int32) from h9) (by rw [e1]; decide)) (fun _ => ?_)
    refine lv_iconst (v := 0) gX gB dX6_anchor_7 (by decide) ?_
    exact gx_zret C hr (by first | decide | (rcases hb9 with h9 | h9 <;> (rw [h9.1]; rfl))) hW (Or.inr ⟨by rw [show ms_code (sn_of cn) = 1 from if_pos e0]; decide, rfl, by rw [show ms_code (sn_of cn) = 1 from if_pos e0, e1]⟩) (Nat.le_of_ble_eq_true rfl) (Nat.le_of_ble_eq_true rfl) dX6_anchor_8
  · have e1 : np_code cn = 0 := if_neg hcn3
    have e0 : sn_of cn = cn := if_neg hcn3
    have e2 : ¬ sn_of cn = 0 := by rw [e0]; omega
    refine lv_if_eq (tgt := 9) gX gB dX6_anchor_4 (by decide) (fun _ => ?_) (fun h9 => absurd (show (np_code cn) = (0 : Int32) from e1) h9)
    refine lv_iconst (v := 0) gX gB dX6_anchor_9 (by decide) ?_
    refine lv_istore_n (lv' := [(1, .int 0), (0, .ref (ad 0))]) gX gB dX6_anchor_10 rfl hl (by decide) rfl (fun ls hl => ?_)
    refine lv_iconst (v := 0) gX gB dX6_anchor_11 (by decide) ?_
    refine lv_istore_n (lv' := [(2, .int 0), (1, .int 0), (0, .ref (ad 0))]) gX gB dX6_anchor_12 rfl hl (by decide) rfl (fun ls hl => ?_)
    have hl : lv_has ls 3 [(2, .int (nI 0)), (1, .int 0), (0, .ref (ad 0))] := hl
    have e3 : ms_code (sn_of cn) = 0 := by rw [ms_code, if_neg e2]
    have loop : ∀ (fu : Nat) (i : Nat) (b9 : Int32), (tn - i < fu) → (i ≤ tn) → (bv_is b9 (∃ j, j < i ∧ ¬ (tv_at fx fy px gr yy cf to_ dk dn cn pn) j = 0)) → ∀ (H : Heap) (locs : List Loc), gx_W G A s ([(ad 0, .inr (11, [.int (np_code cn), .int (nI pn), .ref (ad 1), .ref (ad 2), .ref (ad 3), .ref (ad 4), .ref (ad 5), .int (nI fn), .ref (ad 6), .ref (ad 7), .int (nI dn), .ref (ad 8), .long ex, .long ey, .long eg, .int (nI cn), .ref (ad 9), .ref (ad 10), .int (nI sn), .int at0, .int fl, .int (nI tn), .ref (ad 11), .ref (ad 12)])), (ad 1, .inl (G.2.1 2, 16, .inr (.inl px))), (ad 2, .inl (G.2.1 2, 16, .inr (.inl py))), (ad 3, .inl (G.2.1 2, 16, .inr (.inl pz))), (ad 4, .inl (G.2.1 2, 16, .inr (.inl gr))), (ad 5, .inl (G.2.1 2, 16, .inr (.inl ou))), (ad 6, .inl (G.2.1 2, 12, .inr (.inl fx))), (ad 7, .inl (G.2.1 2, 12, .inr (.inl fy))), (ad 8, .inl (G.2.1 1, 8, .inl od)), (ad 9, .inl (G.2.1 1, 12, .inl cr)), (ad 10, .inl (G.2.1 1, 200, .inl ty)), (ad 11, .inl (G.2.1 1, 48, .inl to_)), (ad 12, .inl (G.2.1 1, 48, .inl dr))]) H locs → ∀ ls : Array Slot, lv_has ls 3 [(1, .int b9), (2, .int (nI i)), (0, .ref (ad 0))] → W p l e ({ frames := 4, cells := 0, slots := 0, locals := 117 } : Room) s m args below meth c H locs 0 0 (MQ below (gx_Q G A (fun v u => (ms_code (sn_of cn) = 0 ∧ v = some (.int (an_at (tv_at fx fy px gr yy cf to_ dk dn cn pn) tn)) ∧ u = [(ad 0, .inr (11, [.int 0, .int (nI pn), .ref (ad 1), .ref (ad 2), .ref (ad 3), .ref (ad 4), .ref (ad 5), .int (nI fn), .ref (ad 6), .ref (ad 7), .int (nI dn), .ref (ad 8), .long ex, .long ey, .long eg, .int (nI cn), .ref (ad 9), .ref (ad 10), .int (nI sn), .int at0, .int fl, .int (nI tn), .ref (ad 11), .ref (ad 12)])), (ad 1, .inl (G.2.1 2, 16, .inr (.inl px))), (ad 2, .inl (G.2.1 2, 16, .inr (.inl py))), (ad 3, .inl (G.2.1 2, 16, .inr (.inl pz))), (ad 4, .inl (G.2.1 2, 16, .inr (.inl gr))), (ad 5, .inl (G.2.1 2, 16, .inr (.inl ou))), (ad 6, .inl (G.2.1 2, 12, .inr (.inl fx))), (ad 7, .inl (G.2.1 2, 12, .inr (.inl fy))), (ad 8, .inl (G.2.1 1, 8, .inl od)), (ad 9, .inl (G.2.1 1, 12, .inl cr)), (ad 10, .inl (G.2.1 1, 200, .inl ty)), (ad 11, .inl (G.2.1 1, 48, .inl to_)), (ad 12, .inl (G.2.1 1, 48, .inl dr))]) ∨ (¬ ms_code (sn_of cn) = 0 ∧ v = some (.int 0) ∧ u = [(ad 0, .inr (11, [.int (ms_code (sn_of cn)), .int (nI pn), .ref (ad 1), .ref (ad 2), .ref (ad 3), .ref (ad 4), .ref (ad 5), .int (nI fn), .ref (ad 6), .ref (ad 7), .int (nI dn), .ref (ad 8), .long ex, .long ey, .long eg, .int (nI cn), .ref (ad 9), .ref (ad 10), .int (nI sn), .int at0, .int fl, .int (nI tn), .ref (ad 11), .ref (ad 12)])), (ad 1, .inl (G.2.1 2, 16, .inr (.inl px))), (ad 2, .inl (G.2.1 2, 16, .inr (.inl py))), (ad 3, .inl (G.2.1 2, 16, .inr (.inl pz))), (ad 4, .inl (G.2.1 2, 16, .inr (.inl gr))), (ad 5, .inl (G.2.1 2, 16, .inr (.inl ou))), (ad 6, .inl (G.2.1 2, 12, .inr (.inl fx))), (ad 7, .inl (G.2.1 2, 12, .inr (.inl fy))), (ad 8, .inl (G.2.1 1, 8, .inl od)), (ad 9, .inl (G.2.1 1, 12, .inl cr)), (ad 10, .inl (G.2.1 1, 200, .inl ty)), (ad 11, .inl (G.2.1 1, 48, .inl to_)), (ad 12, .inl (G.2.1 1, 48, .inl dr))]))) args s (({ frames := 4, cells := 0, slots := 0, locals := 117 } : Room)).cells (({ frames := 4, cells := 0, slots := 0, locals := 117 } : Room)).slots A) (F0 m 13 ls []) := by
      intro fu
      induction fu with
      | zero => intro i b9 hfu hi hb9 H locs hW ls hl; exact absurd hfu (Nat.not_lt_zero _)
      | succ fu ih =>
        intro i b9 hfu hi hb9 H locs hW ls hl
        rcases (by rcases Nat.lt_or_ge i tn with h | h; (rcases hb9 with h2 | h2; exact Or.inr (Or.inl ⟨h, h2⟩); exact Or.inr (Or.inr ⟨h, h2⟩)); exact Or.inl h : tn ≤ i ∨ (i < tn ∧ (b9 = 1 ∧ ∃ j, j < i ∧ ¬ (tv_at fx fy px gr yy cf to_ dk dn cn pn) j = 0)) ∨ (i < tn ∧ (b9 = 0 ∧ ¬ ∃ j, j < i ∧ ¬ (tv_at fx fy px gr yy cf to_ dk dn cn pn) j = 0))) with hin | ⟨hin, hb1, hb2⟩ | ⟨hin, hb1, hb2⟩
        · refine lv_iload_n gX gB dX6_anchor_13 rfl (lv_at hl 1 rfl) ?_
          refine lv_aload_n gX gB dX6_anchor_14 rfl (lv_at hl 2 rfl) ?_
          refine gx_get C hW fX6_145 ⟨0, rfl⟩ rfl dX6_anchor_15 ?_
          refine lv_icmp_ge (tgt := 45) gX gB dX6_anchor_18 (by decide) (fun _ => ?_) (fun h9 => absurd (show (nI tn) ≤ (nI i) from nI_le hin (by omega)) h9)
          refine lv_iload_n gX gB dX6_anchor_45 rfl (lv_at hl 0 rfl) ?_
          exact gx_zret C hr (by first | decide | (rcases hb9 with h9 | h9 <;> (rw [h9.1]; rfl))) hW (Or.inl ⟨e3, by rw [show tn = i by omega, an_in hb9], by rw [e1]⟩) (Nat.le_of_ble_eq_true rfl) (Nat.le_of_ble_eq_true rfl) dX6_anchor_46
        · refine lv_iload_n gX gB dX6_anchor_13 rfl (lv_at hl 1 rfl) ?_
          refine lv_aload_n gX gB dX6_anchor_14 rfl (lv_at hl 2 rfl) ?_
          refine gx_get C hW fX6_145 ⟨0, rfl⟩ rfl dX6_anchor_15 ?_
          refine lv_icmp_ge (tgt := 45) gX gB dX6_anchor_18 (by decide) (fun h9 => absurd (show (nI tn) ≤ (nI i) from h9) (nI_ge hin (by omega))) (fun _ => ?_)
          refine lv_iload_n gX gB dX6_anchor_21 rfl (lv_at hl 0 rfl) ?_
          refine lv_if_ne (tgt := 33) gX gB dX6_anchor_22 (by decide) (fun _ => ?_) (fun h9 => absurd h9 (show ¬ b9 = (0 : Int32) from by rw [hb1]; decide))
          refine lv_iconst (v := 1) gX gB dX6_anchor_33 (by decide) ?_
          refine lv_goto (tgt := 38) gX gB dX6_anchor_34 (by decide) ?_
          refine lv_istore_n (lv' := [(1, .int 1), (2, .int (nI i)), (0, .ref (ad 0))]) gX gB dX6_anchor_38 rfl hl (by decide) rfl (fun ls hl => ?_)
          refine lv_iinc (v := nI (i + 1)) (lv' := [(2, .int (nI (i + 1))), (1, .int 1), (0, .ref (ad 0))]) gX gB dX6_anchor_39 hl (k := 1) rfl (by exact nI_1 i) (by decide) rfl (fun ls hl => ?_)
          refine lv_goto (tgt := 13) gX gB dX6_anchor_42 (by decide) ?_
          exact ih (i + 1) 1 (by omega) (by omega) (Or.inl ⟨rfl, an_s1 hb2⟩) _ _ hW ls (lv_sub hl [1, 0, 2] rfl)
        · refine lv_iload_n gX gB dX6_anchor_13 rfl (lv_at hl 1 rfl) ?_
          refine lv_aload_n gX gB dX6_anchor_14 rfl (lv_at hl 2 rfl) ?_
          refine gx_get C hW fX6_145 ⟨0, rfl⟩ rfl dX6_anchor_15 ?_
          refine lv_icmp_ge (tgt := 45) gX gB dX6_anchor_18 (by decide) (fun h9 => absurd (show (nI tn) ≤ (nI i) from h9) (nI_ge hin (by omega))) (fun _ => ?_)
          refine lv_iload_n gX gB dX6_anchor_21 rfl (lv_at hl 0 rfl) ?_
          refine lv_if_ne (tgt := 33) gX gB dX6_anchor_22 (by decide) (fun h9 => absurd (show ¬ b9 = (0 : Int32) from h9) (fun zz => zz hb1)) (fun _ => ?_)
          refine lv_aload_n gX gB dX6_anchor_25 rfl (lv_at hl 2 rfl) ?_
          refine lv_iload_n gX gB dX6_anchor_26 rfl (lv_at hl 1 rfl) ?_
          refine gx_callV (wr := []) (rest := []) C hW sX6_151 (kX6_testAt l G ad (np_code cn) pn fn dn cn sn tn ex ey eg at0 fl px py pz gr ou fx fy od cr ty to_ dr hpn hcn cf hcr hcf hdn8 yy hyy htn dk hdk hdk2 i hin) ⟨0, rfl⟩ rfl rfl ⟨(Nat.le_of_ble_eq_true rfl), (Nat.le_of_ble_eq_true rfl)⟩ hl.1 rfl (Nat.le_of_ble_eq_true rfl) dX6_anchor_27 ⟨(Nat.le_of_ble_eq_true rfl), (Nat.le_of_ble_eq_true rfl)⟩ (fun v9 u9 H locs hp hW => ?_)
          obtain ⟨rfl, hu⟩ := hp
          rw [hu] at hW
          have hW : gx_W G A s ([(ad 0, .inr (11, [.int (np_code cn), .int (nI pn), .ref (ad 1), .ref (ad 2), .ref (ad 3), .ref (ad 4), .ref (ad 5), .int (nI fn), .ref (ad 6), .ref (ad 7), .int (nI dn), .ref (ad 8), .long ex, .long ey, .long eg, .int (nI cn), .ref (ad 9), .ref (ad 10), .int (nI sn), .int at0, .int fl, .int (nI tn), .ref (ad 11), .ref (ad 12)])), (ad 1, .inl (G.2.1 2, 16, .inr (.inl px))), (ad 2, .inl (G.2.1 2, 16, .inr (.inl py))), (ad 3, .inl (G.2.1 2, 16, .inr (.inl pz))), (ad 4, .inl (G.2.1 2, 16, .inr (.inl gr))), (ad 5, .inl (G.2.1 2, 16, .inr (.inl ou))), (ad 6, .inl (G.2.1 2, 12, .inr (.inl fx))), (ad 7, .inl (G.2.1 2, 12, .inr (.inl fy))), (ad 8, .inl (G.2.1 1, 8, .inl od)), (ad 9, .inl (G.2.1 1, 12, .inl cr)), (ad 10, .inl (G.2.1 1, 200, .inl ty)), (ad 11, .inl (G.2.1 1, 48, .inl to_)), (ad 12, .inl (G.2.1 1, 48, .inl dr))]) H locs := hW
          refine W.eq (g2 := F0 m 30 ls [.int (nI (tv_at fx fy px gr yy cf to_ dk dn cn pn i))]) rfl ?_
          refine W.widen (k := 0) (n := 0) (Nat.le_of_ble_eq_true rfl) (Nat.le_of_ble_eq_true rfl) ?_
          refine lv_if_le (tgt := 37) gX gB dX6_anchor_30 (by decide) (fun c30 => ?_) (fun c30 => ?_)
          · refine lv_iconst (v := 0) gX gB dX6_anchor_37 (by decide) ?_
            refine lv_istore_n (lv' := [(1, .int 0), (2, .int (nI i)), (0, .ref (ad 0))]) gX gB dX6_anchor_38 rfl hl (by decide) rfl (fun ls hl => ?_)
            refine lv_iinc (v := nI (i + 1)) (lv' := [(2, .int (nI (i + 1))), (1, .int 0), (0, .ref (ad 0))]) gX gB dX6_anchor_39 hl (k := 1) rfl (by exact nI_1 i) (by decide) rfl (fun ls hl => ?_)
            refine lv_goto (tgt := 13) gX gB dX6_anchor_42 (by decide) ?_
            exact ih (i + 1) 0 (by omega) (by omega) (Or.inr ⟨rfl, an_s0 hb2 (by have := tv_le fx fy px gr yy cf to_ dk dn cn pn i; exact Classical.byContradiction fun z9 => (Int32.not_lt.mpr c30) ((nI_ltI (a := 0) (b := (tv_at fx fy px gr yy cf to_ dk dn cn pn i)) (by decide) (by omega)).mpr (by omega)))⟩) _ _ hW ls (lv_sub hl [1, 0, 2] rfl)
          · refine lv_iconst (v := 1) gX gB dX6_anchor_33 (by decide) ?_
            refine lv_goto (tgt := 38) gX gB dX6_anchor_34 (by decide) ?_
            refine lv_istore_n (lv' := [(1, .int 1), (2, .int (nI i)), (0, .ref (ad 0))]) gX gB dX6_anchor_38 rfl hl (by decide) rfl (fun ls hl => ?_)
            refine lv_iinc (v := nI (i + 1)) (lv' := [(2, .int (nI (i + 1))), (1, .int 1), (0, .ref (ad 0))]) gX gB dX6_anchor_39 hl (k := 1) rfl (by exact nI_1 i) (by decide) rfl (fun ls hl => ?_)
            refine lv_goto (tgt := 13) gX gB dX6_anchor_42 (by decide) ?_
            exact ih (i + 1) 1 (by omega) (by omega) (Or.inl ⟨rfl, i, Nat.lt_succ_self i, fun zz => absurd (show (0 : Int32) < nI (tv_at fx fy px gr yy cf to_ dk dn cn pn i) from Int32.not_le.mp c30) (by rw [zz]; decide)⟩) _ _ hW ls (lv_sub hl [1, 0, 2] rfl)
    exact loop (tn + 1) 0 0 (by omega) (Nat.zero_le _) (Or.inr ⟨rfl, fun zz => absurd zz.choose_spec.1 (Nat.not_lt_zero _)⟩) _ _ hW ls (lv_sub hl [1, 0, 2] rfl)
