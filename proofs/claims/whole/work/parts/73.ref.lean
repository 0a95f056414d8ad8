/-! THE REFERENCE: readTest. -/
set_option maxHeartbeats 4000000 in
set_option maxRecDepth 100000 in
theorem kX6_readTest (l : Launch) (G : gx_T) (ad : Nat → Nat) (cd : Int32) (pn fn dn cn sn tn : Nat) (ex ey eg : Int64) (at0 fl : Int32) (px py pz gr ou fx fy : Nat → Int64) (od cr ty to_ dr : Nat → Int32) (t : Nat → Nat) (hsn : sn ≤ 200) (hty : ∀ i, i < sn → ty i = nI (t i)) (ht8 : ∀ i, i < sn → t i < 128) (k : Nat) (hk12 : k < 12) (zp : Nat) (hp9 : zp ≤ sn) : gx_M l G yX6_readTest cX6_readTest 3 none ({ frames := 2, cells := 0, slots := 0, locals := 44 } : Room) [.ref (ad 0), .int (nI k)] ([(ad 0, .inr (11, [.int cd, .int (nI pn), .ref (ad 1), .ref (ad 2), .ref (ad 3), .ref (ad 4), .ref (ad 5), .int (nI fn), .ref (ad 6), .ref (ad 7), .int (nI dn), .ref (ad 8), .long ex, .long ey, .long eg, .int (nI cn), .ref (ad 9), .ref (ad 10), .int (nI sn), .int (nI zp), .int (-1), .int (nI tn), .ref (ad 11), .ref (ad 12)])), (ad 1, .inl (G.2.1 2, 16, .inr (.inl px))), (ad 2, .inl (G.2.1 2, 16, .inr (.inl py))), (ad 3, .inl (G.2.1 2, 16, .inr (.inl pz))), (ad 4, .inl (G.2.1 2, 16, .inr (.inl gr))), (ad 5, .inl (G.2.1 2, 16, .inr (.inl ou))), (ad 6, .inl (G.2.1 2, 12, .inr (.inl fx))), (ad 7, .inl (G.2.1 2, 12, .inr (.inl fy))), (ad 8, .inl (G.2.1 1, 8, .inl od)), (ad 9, .inl (G.2.1 1, 12, .inl cr)), (ad 10, .inl (G.2.1 1, 200, .inl ty)), (ad 11, .inl (G.2.1 1, 48, .inl to_)), (ad 12, .inl (G.2.1 1, 48, .inl dr))]) (fun v9 u => (v9 = none ∧ ∃ (pq : Nat) (at1 : Int32) (dr1 : Nat → Int32), rt1 t sn zp = .inl pq ∧ pq ≤ sn ∧ u = [(ad 0, .inr (11, [.int cd, .int (nI pn), .ref (ad 1), .ref (ad 2), .ref (ad 3), .ref (ad 4), .ref (ad 5), .int (nI fn), .ref (ad 6), .ref (ad 7), .int (nI dn), .ref (ad 8), .long ex, .long ey, .long eg, .int (nI cn), .ref (ad 9), .ref (ad 10), .int (nI sn), .int at1, .int (nI pq), .int (nI tn), .ref (ad 11), .ref (ad 12)])), (ad 1, .inl (G.2.1 2, 16, .inr (.inl px))), (ad 2, .inl (G.2.1 2, 16, .inr (.inl py))), (ad 3, .inl (G.2.1 2, 16, .inr (.inl pz))), (ad 4, .inl (G.2.1 2, 16, .inr (.inl gr))), (ad 5, .inl (G.2.1 2, 16, .inr (.inl ou))), (ad 6, .inl (G.2.1 2, 12, .inr (.inl fx))), (ad 7, .inl (G.2.1 2, 12, .inr (.inl fy))), (ad 8, .inl (G.2.1 1, 8, .inl od)), (ad 9, .inl (G.2.1 1, 12, .inl cr)), (ad 10, .inl (G.2.1 1, 200, .inl ty)), (ad 11, .inl (G.2.1 1, 48, .inl to_)), (ad 12, .inl (G.2.1 1, 48, .inl dr1))]) ∨ (v9 = none ∧ ∃ (pq : Nat) (dd : rt_T), rt1 t sn zp = .inr (pq, dd) ∧ pq ≤ sn ∧ u = [(ad 0, .inr (11, [.int cd, .int (nI pn), .ref (ad 1), .ref (ad 2), .ref (ad 3), .ref (ad 4), .ref (ad 5), .int (nI fn), .ref (ad 6), .ref (ad 7), .int (nI dn), .ref (ad 8), .long ex, .long ey, .long eg, .int (nI cn), .ref (ad 9), .ref (ad 10), .int (nI sn), .int (nI pq), .int (-1), .int (nI tn), .ref (ad 11), .ref (ad 12)])), (ad 1, .inl (G.2.1 2, 16, .inr (.inl px))), (ad 2, .inl (G.2.1 2, 16, .inr (.inl py))), (ad 3, .inl (G.2.1 2, 16, .inr (.inl pz))), (ad 4, .inl (G.2.1 2, 16, .inr (.inl gr))), (ad 5, .inl (G.2.1 2, 16, .inr (.inl ou))), (ad 6, .inl (G.2.1 2, 12, .inr (.inl fx))), (ad 7, .inl (G.2.1 2, 12, .inr (.inl fy))), (ad 8, .inl (G.2.1 1, 8, .inl od)), (ad 9, .inl (G.2.1 1, 12, .inl cr)), (ad 10, .inl (G.2.1 1, 200, .inl ty)), (ad 11, .inl (G.2.1 1, 48, .inl to_)), (ad 12, .inl (G.2.1 1, 48, .inl (upd (upd (upd (upd dr (4 * k) dd.1) (4 * k + 1) dd.2.1) (4 * k + 2) dd.2.2.1) (4 * k + 3) dd.2.2.2)))])) := by
  refine gx_start (by decide +kernel) (Nat.le_of_ble_eq_true rfl) ?_
  intro p e s m args below meth c A ls C hr hnm hW hl
  have gX := C.x
  have gB := C.b
  have hl : lv_has ls 3 [(0, .ref (ad 0)), (1, .int (nI k))] := hl
  refine lv_iconst (v := 0) gX gB dX6_readTest_0 (by decide) ?_
  refine lv_istore_n (lv' := [(2, .int 0), (0, .ref (ad 0)), (1, .int (nI k))]) gX gB dX6_readTest_1 rfl hl (by decide) rfl (fun ls hl => ?_)
  refine lv_iload_n gX gB dX6_readTest_2 rfl (lv_at hl 0 rfl) ?_
  refine lv_iconst (v := 4) gX gB dX6_readTest_3 (by decide) ?_
  refine lv_icmp_ge (tgt := 78) gX gB dX6_readTest_4 (by decide) (fun h9 => absurd (show (4 : Int32) ≤ 0 from h9) (by decide)) (fun _ => ?_)
  refine lv_aload_n gX gB dX6_readTest_7 rfl (lv_at hl 1 rfl) ?_
  refine gx_get C hW fX6_127 ⟨0, rfl⟩ rfl dX6_readTest_8 ?_
  refine lv_if_ge (tgt := 78) gX gB dX6_readTest_11 (by decide) (fun h9 => absurd (show (0 : Int32) ≤ (-1) from h9) (by decide)) (fun _ => ?_)
  refine lv_iload_n gX gB dX6_readTest_14 rfl (lv_at hl 0 rfl) ?_
  refine lv_if_le (tgt := 41) gX gB dX6_readTest_15 (by decide) (fun _ => ?_) (fun h9 => absurd (show 0 ≤ (0 : Int32) from by decide) h9)
  refine lv_aload_n gX gB dX6_readTest_41 rfl (lv_at hl 1 rfl) ?_
  refine gx_get C hW fX6_127 ⟨0, rfl⟩ rfl dX6_readTest_42 ?_
  refine lv_if_ge (tgt := 72) gX gB dX6_readTest_45 (by decide) (fun h9 => absurd (show (0 : Int32) ≤ (-1) from h9) (by decide)) (fun _ => ?_)
  refine lv_aload_n gX gB dX6_readTest_48 rfl (lv_at hl 1 rfl) ?_
  refine gx_get C hW fX6_44 ⟨0, rfl⟩ rfl dX6_readTest_49 ?_
  refine lv_iconst (v := 4) gX gB dX6_readTest_52 (by decide) ?_
  refine lv_iload_n gX gB dX6_readTest_53 rfl (lv_at hl 2 rfl) ?_
  refine lv_imul gX gB dX6_readTest_54 ?_
  refine gx_topi (show (4 * (nI k)) = nI (4 * k) from nI_4 k) ?_
  refine lv_iload_n gX gB dX6_readTest_55 rfl (lv_at hl 0 rfl) ?_
  refine lv_iadd gX gB dX6_readTest_56 ?_
  refine gx_topi (show ((nI (4 * k)) + 0) = nI (4 * k) from Int32.add_zero _) ?_
  refine lv_aload_n gX gB dX6_readTest_57 rfl (lv_at hl 1 rfl) ?_
  refine lv_iload_n gX gB dX6_readTest_58 rfl (lv_at hl 0 rfl) ?_
  refine lv_iconst (v := 2) gX gB dX6_readTest_59 (by decide) ?_
  refine lv_icmp_ge (tgt := 67) gX gB dX6_readTest_60 (by decide) (fun h9 => absurd (show (2 : Int32) ≤ 0 from h9) (by decide)) (fun _ => ?_)
  refine lv_iconst (v := 1) gX gB dX6_readTest_63 (by decide) ?_
  refine lv_goto (tgt := 68) gX gB dX6_readTest_64 (by decide) ?_
  refine gx_callV (wr := []) (rest := [.int (nI (4 * k)), .ref (ad 12)]) C hW sX6_137 (kX6_readNumberS l G ad cd pn fn dn cn sn tn ex ey eg at0 fl px py pz gr ou fx fy od cr ty to_ dr t hsn hty ht8 zp hp9) ⟨0, rfl⟩ rfl rfl ⟨(Nat.le_of_ble_eq_true rfl), (Nat.le_of_ble_eq_true rfl)⟩ hl.1 rfl (Nat.le_of_ble_eq_true rfl) dX6_readTest_68 ⟨(Nat.le_of_ble_eq_true rfl), (Nat.le_of_ble_eq_true rfl)⟩ (fun v9 u9 H locs hp hW => ?_)
  obtain ⟨rfl, hu⟩ := hp
  rw [hu] at hW
  have hW : gx_W G A s ([(ad 0, .inr (11, [.int cd, .int (nI pn), .ref (ad 1), .ref (ad 2), .ref (ad 3), .ref (ad 4), .ref (ad 5), .int (nI fn), .ref (ad 6), .ref (ad 7), .int (nI dn), .ref (ad 8), .long ex, .long ey, .long eg, .int (nI cn), .ref (ad 9), .ref (ad 10), .int (nI sn), .int (nI (sg_e t sn zp).1), .int (if sg_q t sn zp < (sg_e t sn zp).1 then -1 else nI (sg_e t sn zp).1), .int (nI tn), .ref (ad 11), .ref (ad 12)])), (ad 1, .inl (G.2.1 2, 16, .inr (.inl px))), (ad 2, .inl (G.2.1 2, 16, .inr (.inl py))), (ad 3, .inl (G.2.1 2, 16, .inr (.inl pz))), (ad 4, .inl (G.2.1 2, 16, .inr (.inl gr))), (ad 5, .inl (G.2.1 2, 16, .inr (.inl ou))), (ad 6, .inl (G.2.1 2, 12, .inr (.inl fx))), (ad 7, .inl (G.2.1 2, 12, .inr (.inl fy))), (ad 8, .inl (G.2.1 1, 8, .inl od)), (ad 9, .inl (G.2.1 1, 12, .inl cr)), (ad 10, .inl (G.2.1 1, 200, .inl ty)), (ad 11, .inl (G.2.1 1, 48, .inl to_)), (ad 12, .inl (G.2.1 1, 48, .inl dr))]) H locs := hW
  refine W.eq (g2 := F0 m 71 ls [.int (sg_v t sn zp), .int (nI (4 * k)), .ref (ad 12)]) rfl ?_
  refine W.widen (k := 0) (n := 0) (Nat.le_of_ble_eq_true rfl) (Nat.le_of_ble_eq_true rfl) ?_
  obtain ⟨p1, hp1⟩ : ∃ zz, zz = (sg_e t sn zp).1 := ⟨_, rfl⟩
  obtain ⟨v1, hv1⟩ : ∃ zz, zz = sg_v t sn zp := ⟨_, rfl⟩
  have hl1 : p1 ≤ sn := by rw [hp1]; exact sg_le hp9
  have hW := hW
  rw [← hp1] at hW
  refine gx_topi (show (sg_v t sn zp) = v1 from hv1.symm) ?_
  have hW : gx_W G A s ([(ad 0, .inr (11, [.int cd, .int (nI pn), .ref (ad 1), .ref (ad 2), .ref (ad 3), .ref (ad 4), .ref (ad 5), .int (nI fn), .ref (ad 6), .ref (ad 7), .int (nI dn), .ref (ad 8), .long ex, .long ey, .long eg, .int (nI cn), .ref (ad 9), .ref (ad 10), .int (nI sn), .int (nI p1), .int (if sg_q t sn zp < p1 then -1 else nI p1), .int (nI tn), .ref (ad 11), .ref (ad 12)])), (ad 1, .inl (G.2.1 2, 16, .inr (.inl px))), (ad 2, .inl (G.2.1 2, 16, .inr (.inl py))), (ad 3, .inl (G.2.1 2, 16, .inr (.inl pz))), (ad 4, .inl (G.2.1 2, 16, .inr (.inl gr))), (ad 5, .inl (G.2.1 2, 16, .inr (.inl ou))), (ad 6, .inl (G.2.1 2, 12, .inr (.inl fx))), (ad 7, .inl (G.2.1 2, 12, .inr (.inl fy))), (ad 8, .inl (G.2.1 1, 8, .inl od)), (ad 9, .inl (G.2.1 1, 12, .inl cr)), (ad 10, .inl (G.2.1 1, 200, .inl ty)), (ad 11, .inl (G.2.1 1, 48, .inl to_)), (ad 12, .inl (G.2.1 1, 48, .inl dr))]) H locs := hW
  rcases Classical.em (sg_q t sn zp < p1) with hk1 | hk1
  · rw [if_pos hk1] at hW
    have hW : gx_W G A s ([(ad 0, .inr (11, [.int cd, .int (nI pn), .ref (ad 1), .ref (ad 2), .ref (ad 3), .ref (ad 4), .ref (ad 5), .int (nI fn), .ref (ad 6), .ref (ad 7), .int (nI dn), .ref (ad 8), .long ex, .long ey, .long eg, .int (nI cn), .ref (ad 9), .ref (ad 10), .int (nI sn), .int (nI p1), .int (-1), .int (nI tn), .ref (ad 11), .ref (ad 12)])), (ad 1, .inl (G.2.1 2, 16, .inr (.inl px))), (ad 2, .inl (G.2.1 2, 16, .inr (.inl py))), (ad 3, .inl (G.2.1 2, 16, .inr (.inl pz))), (ad 4, .inl (G.2.1 2, 16, .inr (.inl gr))), (ad 5, .inl (G.2.1 2, 16, .inr (.inl ou))), (ad 6, .inl (G.2.1 2, 12, .inr (.inl fx))), (ad 7, .inl (G.2.1 2, 12, .inr (.inl fy))), (ad 8, .inl (G.2.1 1, 8, .inl od)), (ad 9, .inl (G.2.1 1, 12, .inl cr)), (ad 10, .inl (G.2.1 1, 200, .inl ty)), (ad 11, .inl (G.2.1 1, 48, .inl to_)), (ad 12, .inl (G.2.1 1, 48, .inl dr))]) H locs := hW
    refine gx_iastE C hW 12 (j := (4 * k)) rfl rfl (by omega) (by decide) dX6_readTest_71 (fun H locs hW => ?_)
    have hW : gx_W G A s ([(ad 0, .inr (11, [.int cd, .int (nI pn), .ref (ad 1), .ref (ad 2), .ref (ad 3), .ref (ad 4), .ref (ad 5), .int (nI fn), .ref (ad 6), .ref (ad 7), .int (nI dn), .ref (ad 8), .long ex, .long ey, .long eg, .int (nI cn), .ref (ad 9), .ref (ad 10), .int (nI sn), .int (nI p1), .int (-1), .int (nI tn), .ref (ad 11), .ref (ad 12)])), (ad 1, .inl (G.2.1 2, 16, .inr (.inl px))), (ad 2, .inl (G.2.1 2, 16, .inr (.inl py))), (ad 3, .inl (G.2.1 2, 16, .inr (.inl pz))), (ad 4, .inl (G.2.1 2, 16, .inr (.inl gr))), (ad 5, .inl (G.2.1 2, 16, .inr (.inl ou))), (ad 6, .inl (G.2.1 2, 12, .inr (.inl fx))), (ad 7, .inl (G.2.1 2, 12, .inr (.inl fy))), (ad 8, .inl (G.2.1 1, 8, .inl od)), (ad 9, .inl (G.2.1 1, 12, .inl cr)), (ad 10, .inl (G.2.1 1, 200, .inl ty)), (ad 11, .inl (G.2.1 1, 48, .inl to_)), (ad 12, .inl (G.2.1 1, 48, .inl (upd dr (4 * k) v1)))]) H locs := hW
    refine lv_iinc (v := 1) (lv' := [(2, .int 1), (0, .ref (ad 0)), (1, .int (nI k))]) gX gB dX6_readTest_72 hl (k := 0) rfl (by exact by decide) (by decide) rfl (fun ls hl => ?_)
    refine lv_goto (tgt := 2) gX gB dX6_readTest_75 (by decide) ?_
    refine lv_iload_n gX gB dX6_readTest_2 rfl (lv_at hl 0 rfl) ?_
    refine lv_iconst (v := 4) gX gB dX6_readTest_3 (by decide) ?_
    refine lv_icmp_ge (tgt := 78) gX gB dX6_readTest_4 (by decide) (fun h9 => absurd (show (4 : Int32) ≤ 1 from h9) (by decide)) (fun _ => ?_)
    refine lv_aload_n gX gB dX6_readTest_7 rfl (lv_at hl 1 rfl) ?_
    refine gx_get C hW fX6_127 ⟨0, rfl⟩ rfl dX6_readTest_8 ?_
    refine lv_if_ge (tgt := 78) gX gB dX6_readTest_11 (by decide) (fun h9 => absurd (show (0 : Int32) ≤ (-1) from h9) (by decide)) (fun _ => ?_)
    refine lv_iload_n gX gB dX6_readTest_14 rfl (lv_at hl 0 rfl) ?_
    refine lv_if_le (tgt := 41) gX gB dX6_readTest_15 (by decide) (fun h9 => absurd (show 1 ≤ (0 : Int32) from h9) (by decide)) (fun _ => ?_)
    refine lv_aload_n gX gB dX6_readTest_18 rfl (lv_at hl 1 rfl) ?_
    refine gx_callV (wr := []) (rest := []) C hW sX6_130 (kX6_here l G ad cd pn fn dn cn sn tn ex ey eg at0 (-1) px py pz gr ou fx fy od cr ty to_ (upd dr (4 * k) v1) t hsn hty ht8 p1 (by omega)) ⟨0, rfl⟩ rfl rfl ⟨(Nat.le_of_ble_eq_true rfl), (Nat.le_of_ble_eq_true rfl)⟩ hl.1 rfl (Nat.le_of_ble_eq_true rfl) dX6_readTest_19 ⟨(Nat.le_of_ble_eq_true rfl), (Nat.le_of_ble_eq_true rfl)⟩ (fun v9 u9 H locs hp hW => ?_)
    obtain ⟨rfl, hu⟩ := hp
    rw [hu] at hW
    have hW : gx_W G A s ([(ad 0, .inr (11, [.int cd, .int (nI pn), .ref (ad 1), .ref (ad 2), .ref (ad 3), .ref (ad 4), .ref (ad 5), .int (nI fn), .ref (ad 6), .ref (ad 7), .int (nI dn), .ref (ad 8), .long ex, .long ey, .long eg, .int (nI cn), .ref (ad 9), .ref (ad 10), .int (nI sn), .int (nI p1), .int (-1), .int (nI tn), .ref (ad 11), .ref (ad 12)])), (ad 1, .inl (G.2.1 2, 16, .inr (.inl px))), (ad 2, .inl (G.2.1 2, 16, .inr (.inl py))), (ad 3, .inl (G.2.1 2, 16, .inr (.inl pz))), (ad 4, .inl (G.2.1 2, 16, .inr (.inl gr))), (ad 5, .inl (G.2.1 2, 16, .inr (.inl ou))), (ad 6, .inl (G.2.1 2, 12, .inr (.inl fx))), (ad 7, .inl (G.2.1 2, 12, .inr (.inl fy))), (ad 8, .inl (G.2.1 1, 8, .inl od)), (ad 9, .inl (G.2.1 1, 12, .inl cr)), (ad 10, .inl (G.2.1 1, 200, .inl ty)), (ad 11, .inl (G.2.1 1, 48, .inl to_)), (ad 12, .inl (G.2.1 1, 48, .inl (upd dr (4 * k) v1)))]) H locs := hW
    refine W.eq (g2 := F0 m 22 ls [.int (hr_v t sn p1)]) rfl ?_
    refine W.widen (k := 0) (n := 0) (Nat.le_of_ble_eq_true rfl) (Nat.le_of_ble_eq_true rfl) ?_
    rcases Classical.em (p1 < sn ∧ t p1 = 44) with hc1 | hc1
    · have hC1 : rt1 t sn zp = rt2 t sn (p1 + 1) v1 := by rw [hv1, hp1]; exact (if_if (by rw [← hp1]; exact hk1) (by rw [← hp1]; exact hc1))
      refine lv_bipush (v := 44) gX gB dX6_readTest_22 (by decide) ?_
      refine lv_icmp_eq (tgt := 31) gX gB dX6_readTest_24 (by decide) (fun _ => ?_) (fun h9 => absurd (show (hr_v t sn p1) = (44 : Int32) from (hr_eq (ch := 44) ht8 (by decide)).mpr hc1) h9)
      refine lv_aload_n gX gB dX6_readTest_31 rfl (lv_at hl 1 rfl) ?_
      refine lv_dup gX gB dX6_readTest_32 rfl ?_
      refine gx_get C hW fX6_124 ⟨0, rfl⟩ rfl dX6_readTest_33 ?_
      refine lv_iconst (v := 1) gX gB dX6_readTest_36 (by decide) ?_
      refine lv_iadd gX gB dX6_readTest_37 ?_
      refine gx_topi (show ((nI p1) + 1) = nI (p1 + 1) from nI_1 p1) ?_
      refine gx_putE C hW clX6 fX6_124 0 rfl (Or.inl rfl) rfl rfl (Nat.le_of_ble_eq_true rfl) dX6_readTest_38 (fun H locs hW => ?_)
      have hW : gx_W G A s ([(ad 0, .inr (11, [.int cd, .int (nI pn), .ref (ad 1), .ref (ad 2), .ref (ad 3), .ref (ad 4), .ref (ad 5), .int (nI fn), .ref (ad 6), .ref (ad 7), .int (nI dn), .ref (ad 8), .long ex, .long ey, .long eg, .int (nI cn), .ref (ad 9), .ref (ad 10), .int (nI sn), .int (nI (p1 + 1)), .int (-1), .int (nI tn), .ref (ad 11), .ref (ad 12)])), (ad 1, .inl (G.2.1 2, 16, .inr (.inl px))), (ad 2, .inl (G.2.1 2, 16, .inr (.inl py))), (ad 3, .inl (G.2.1 2, 16, .inr (.inl pz))), (ad 4, .inl (G.2.1 2, 16, .inr (.inl gr))), (ad 5, .inl (G.2.1 2, 16, .inr (.inl ou))), (ad 6, .inl (G.2.1 2, 12, .inr (.inl fx))), (ad 7, .inl (G.2.1 2, 12, .inr (.inl fy))), (ad 8, .inl (G.2.1 1, 8, .inl od)), (ad 9, .inl (G.2.1 1, 12, .inl cr)), (ad 10, .inl (G.2.1 1, 200, .inl ty)), (ad 11, .inl (G.2.1 1, 48, .inl to_)), (ad 12, .inl (G.2.1 1, 48, .inl (upd dr (4 * k) v1)))]) H locs := hW
      refine lv_aload_n gX gB dX6_readTest_41 rfl (lv_at hl 1 rfl) ?_
      refine gx_get C hW fX6_127 ⟨0, rfl⟩ rfl dX6_readTest_42 ?_
      refine lv_if_ge (tgt := 72) gX gB dX6_readTest_45 (by decide) (fun h9 => absurd (show (0 : Int32) ≤ (-1) from h9) (by decide)) (fun _ => ?_)
      refine lv_aload_n gX gB dX6_readTest_48 rfl (lv_at hl 1 rfl) ?_
      refine gx_get C hW fX6_44 ⟨0, rfl⟩ rfl dX6_readTest_49 ?_
      refine lv_iconst (v := 4) gX gB dX6_readTest_52 (by decide) ?_
      refine lv_iload_n gX gB dX6_readTest_53 rfl (lv_at hl 2 rfl) ?_
      refine lv_imul gX gB dX6_readTest_54 ?_
      refine gx_topi (show (4 * (nI k)) = nI (4 * k) from nI_4 k) ?_
      refine lv_iload_n gX gB dX6_readTest_55 rfl (lv_at hl 0 rfl) ?_
      refine lv_iadd gX gB dX6_readTest_56 ?_
      refine gx_topi (show ((nI (4 * k)) + 1) = nI (4 * k + 1) from nI_add (4 * k) 1) ?_
      refine lv_aload_n gX gB dX6_readTest_57 rfl (lv_at hl 1 rfl) ?_
      refine lv_iload_n gX gB dX6_readTest_58 rfl (lv_at hl 0 rfl) ?_
      refine lv_iconst (v := 2) gX gB dX6_readTest_59 (by decide) ?_
      refine lv_icmp_ge (tgt := 67) gX gB dX6_readTest_60 (by decide) (fun h9 => absurd (show (2 : Int32) ≤ 1 from h9) (by decide)) (fun _ => ?_)
      refine lv_iconst (v := 1) gX gB dX6_readTest_63 (by decide) ?_
      refine lv_goto (tgt := 68) gX gB dX6_readTest_64 (by decide) ?_
      refine gx_callV (wr := []) (rest := [.int (nI (4 * k + 1)), .ref (ad 12)]) C hW sX6_137 (kX6_readNumberS l G ad cd pn fn dn cn sn tn ex ey eg at0 fl px py pz gr ou fx fy od cr ty to_ (upd dr (4 * k) v1) t hsn hty ht8 (p1 + 1) hc1.1) ⟨0, rfl⟩ rfl rfl ⟨(Nat.le_of_ble_eq_true rfl), (Nat.le_of_ble_eq_true rfl)⟩ hl.1 rfl (Nat.le_of_ble_eq_true rfl) dX6_readTest_68 ⟨(Nat.le_of_ble_eq_true rfl), (Nat.le_of_ble_eq_true rfl)⟩ (fun v9 u9 H locs hp hW => ?_)
      obtain ⟨rfl, hu⟩ := hp
      rw [hu] at hW
      have hW : gx_W G A s ([(ad 0, .inr (11, [.int cd, .int (nI pn), .ref (ad 1), .ref (ad 2), .ref (ad 3), .ref (ad 4), .ref (ad 5), .int (nI fn), .ref (ad 6), .ref (ad 7), .int (nI dn), .ref (ad 8), .long ex, .long ey, .long eg, .int (nI cn), .ref (ad 9), .ref (ad 10), .int (nI sn), .int (nI (sg_e t sn (p1 + 1)).1), .int (if sg_q t sn (p1 + 1) < (sg_e t sn (p1 + 1)).1 then -1 else nI (sg_e t sn (p1 + 1)).1), .int (nI tn), .ref (ad 11), .ref (ad 12)])), (ad 1, .inl (G.2.1 2, 16, .inr (.inl px))), (ad 2, .inl (G.2.1 2, 16, .inr (.inl py))), (ad 3, .inl (G.2.1 2, 16, .inr (.inl pz))), (ad 4, .inl (G.2.1 2, 16, .inr (.inl gr))), (ad 5, .inl (G.2.1 2, 16, .inr (.inl ou))), (ad 6, .inl (G.2.1 2, 12, .inr (.inl fx))), (ad 7, .inl (G.2.1 2, 12, .inr (.inl fy))), (ad 8, .inl (G.2.1 1, 8, .inl od)), (ad 9, .inl (G.2.1 1, 12, .inl cr)), (ad 10, .inl (G.2.1 1, 200, .inl ty)), (ad 11, .inl (G.2.1 1, 48, .inl to_)), (ad 12, .inl (G.2.1 1, 48, .inl (upd dr (4 * k) v1)))]) H locs := hW
      refine W.eq (g2 := F0 m 71 ls [.int (sg_v t sn (p1 + 1)), .int (nI (4 * k + 1)), .ref (ad 12)]) rfl ?_
      refine W.widen (k := 0) (n := 0) (Nat.le_of_ble_eq_true rfl) (Nat.le_of_ble_eq_true rfl) ?_
      obtain ⟨p2, hp2⟩ : ∃ zz, zz = (sg_e t sn (p1 + 1)).1 := ⟨_, rfl⟩
      obtain ⟨v2, hv2⟩ : ∃ zz, zz = sg_v t sn (p1 + 1) := ⟨_, rfl⟩
      have hl2 : p2 ≤ sn := by rw [hp2]; exact sg_le hc1.1
      have hW := hW
      rw [← hp2] at hW
      refine gx_topi (show (sg_v t sn (p1 + 1)) = v2 from hv2.symm) ?_
      have hW : gx_W G A s ([(ad 0, .inr (11, [.int cd, .int (nI pn), .ref (ad 1), .ref (ad 2), .ref (ad 3), .ref (ad 4), .ref (ad 5), .int (nI fn), .ref (ad 6), .ref (ad 7), .int (nI dn), .ref (ad 8), .long ex, .long ey, .long eg, .int (nI cn), .ref (ad 9), .ref (ad 10), .int (nI sn), .int (nI p2), .int (if sg_q t sn (p1 + 1) < p2 then -1 else nI p2), .int (nI tn), .ref (ad 11), .ref (ad 12)])), (ad 1, .inl (G.2.1 2, 16, .inr (.inl px))), (ad 2, .inl (G.2.1 2, 16, .inr (.inl py))), (ad 3, .inl (G.2.1 2, 16, .inr (.inl pz))), (ad 4, .inl (G.2.1 2, 16, .inr (.inl gr))), (ad 5, .inl (G.2.1 2, 16, .inr (.inl ou))), (ad 6, .inl (G.2.1 2, 12, .inr (.inl fx))), (ad 7, .inl (G.2.1 2, 12, .inr (.inl fy))), (ad 8, .inl (G.2.1 1, 8, .inl od)), (ad 9, .inl (G.2.1 1, 12, .inl cr)), (ad 10, .inl (G.2.1 1, 200, .inl ty)), (ad 11, .inl (G.2.1 1, 48, .inl to_)), (ad 12, .inl (G.2.1 1, 48, .inl (upd dr (4 * k) v1)))]) H locs := hW
      rcases Classical.em (sg_q t sn (p1 + 1) < p2) with hk2 | hk2
      · rw [if_pos hk2] at hW
        have hW : gx_W G A s ([(ad 0, .inr (11, [.int cd, .int (nI pn), .ref (ad 1), .ref (ad 2), .ref (ad 3), .ref (ad 4), .ref (ad 5), .int (nI fn), .ref (ad 6), .ref (ad 7), .int (nI dn), .ref (ad 8), .long ex, .long ey, .long eg, .int (nI cn), .ref (ad 9), .ref (ad 10), .int (nI sn), .int (nI p2), .int (-1), .int (nI tn), .ref (ad 11), .ref (ad 12)])), (ad 1, .inl (G.2.1 2, 16, .inr (.inl px))), (ad 2, .inl (G.2.1 2, 16, .inr (.inl py))), (ad 3, .inl (G.2.1 2, 16, .inr (.inl pz))), (ad 4, .inl (G.2.1 2, 16, .inr (.inl gr))), (ad 5, .inl (G.2.1 2, 16, .inr (.inl ou))), (ad 6, .inl (G.2.1 2, 12, .inr (.inl fx))), (ad 7, .inl (G.2.1 2, 12, .inr (.inl fy))), (ad 8, .inl (G.2.1 1, 8, .inl od)), (ad 9, .inl (G.2.1 1, 12, .inl cr)), (ad 10, .inl (G.2.1 1, 200, .inl ty)), (ad 11, .inl (G.2.1 1, 48, .inl to_)), (ad 12, .inl (G.2.1 1, 48, .inl (upd dr (4 * k) v1)))]) H locs := hW
        refine gx_iastE C hW 12 (j := (4 * k + 1)) rfl rfl (by omega) (by decide) dX6_readTest_71 (fun H locs hW => ?_)
        have hW : gx_W G A s ([(ad 0, .inr (11, [.int cd, .int (nI pn), .ref (ad 1), .ref (ad 2), .ref (ad 3), .ref (ad 4), .ref (ad 5), .int (nI fn), .ref (ad 6), .ref (ad 7), .int (nI dn), .ref (ad 8), .long ex, .long ey, .long eg, .int (nI cn), .ref (ad 9), .ref (ad 10), .int (nI sn), .int (nI p2), .int (-1), .int (nI tn), .ref (ad 11), .ref (ad 12)])), (ad 1, .inl (G.2.1 2, 16, .inr (.inl px))), (ad 2, .inl (G.2.1 2, 16, .inr (.inl py))), (ad 3, .inl (G.2.1 2, 16, .inr (.inl pz))), (ad 4, .inl (G.2.1 2, 16, .inr (.inl gr))), (ad 5, .inl (G.2.1 2, 16, .inr (.inl ou))), (ad 6, .inl (G.2.1 2, 12, .inr (.inl fx))), (ad 7, .inl (G.2.1 2, 12, .inr (.inl fy))), (ad 8, .inl (G.2.1 1, 8, .inl od)), (ad 9, .inl (G.2.1 1, 12, .inl cr)), (ad 10, .inl (G.2.1 1, 200, .inl ty)), (ad 11, .inl (G.2.1 1, 48, .inl to_)), (ad 12, .inl (G.2.1 1, 48, .inl (upd (upd dr (4 * k) v1) (4 * k + 1) v2)))]) H locs := hW
        refine lv_iinc (v := 2) (lv' := [(2, .int 2), (0, .ref (ad 0)), (1, .int (nI k))]) gX gB dX6_readTest_72 hl (k := 0) rfl (by exact by decide) (by decide) rfl (fun ls hl => ?_)
        refine lv_goto (tgt := 2) gX gB dX6_readTest_75 (by decide) ?_
        refine lv_iload_n gX gB dX6_readTest_2 rfl (lv_at hl 0 rfl) ?_
        refine lv_iconst (v := 4) gX gB dX6_readTest_3 (by decide) ?_
        refine lv_icmp_ge (tgt := 78) gX gB dX6_readTest_4 (by decide) (fun h9 => absurd (show (4 : Int32) ≤ 2 from h9) (by decide)) (fun _ => ?_)
        refine lv_aload_n gX gB dX6_readTest_7 rfl (lv_at hl 1 rfl) ?_
        refine gx_get C hW fX6_127 ⟨0, rfl⟩ rfl dX6_readTest_8 ?_
        refine lv_if_ge (tgt := 78) gX gB dX6_readTest_11 (by decide) (fun h9 => absurd (show (0 : Int32) ≤ (-1) from h9) (by decide)) (fun _ => ?_)
        refine lv_iload_n gX gB dX6_readTest_14 rfl (lv_at hl 0 rfl) ?_
        refine lv_if_le (tgt := 41) gX gB dX6_readTest_15 (by decide) (fun h9 => absurd (show 2 ≤ (0 : Int32) from h9) (by decide)) (fun _ => ?_)
        refine lv_aload_n gX gB dX6_readTest_18 rfl (lv_at hl 1 rfl) ?_
        refine gx_callV (wr := []) (rest := []) C hW sX6_130 (kX6_here l G ad cd pn fn dn cn sn tn ex ey eg at0 (-1) px py pz gr ou fx fy od cr ty to_ (upd (upd dr (4 * k) v1) (4 * k + 1) v2) t hsn hty ht8 p2 (by omega)) ⟨0, rfl⟩ rfl rfl ⟨(Nat.le_of_ble_eq_true rfl), (Nat.le_of_ble_eq_true rfl)⟩ hl.1 rfl (Nat.le_of_ble_eq_true rfl) dX6_readTest_19 ⟨(Nat.le_of_ble_eq_true rfl), (Nat.le_of_ble_eq_true rfl)⟩ (fun v9 u9 H locs hp hW => ?_)
        obtain ⟨rfl, hu⟩ := hp
        rw [hu] at hW
        have hW : gx_W G A s ([(ad 0, .inr (11, [.int cd, .int (nI pn), .ref (ad 1), .ref (ad 2), .ref (ad 3), .ref (ad 4), .ref (ad 5), .int (nI fn), .ref (ad 6), .ref (ad 7), .int (nI dn), .ref (ad 8), .long ex, .long ey, .long eg, .int (nI cn), .ref (ad 9), .ref (ad 10), .int (nI sn), .int (nI p2), .int (-1), .int (nI tn), .ref (ad 11), .ref (ad 12)])), (ad 1, .inl (G.2.1 2, 16, .inr (.inl px))), (ad 2, .inl (G.2.1 2, 16, .inr (.inl py))), (ad 3, .inl (G.2.1 2, 16, .inr (.inl pz))), (ad 4, .inl (G.2.1 2, 16, .inr (.inl gr))), (ad 5, .inl (G.2.1 2, 16, .inr (.inl ou))), (ad 6, .inl (G.2.1 2, 12, .inr (.inl fx))), (ad 7, .inl (G.2.1 2, 12, .inr (.inl fy))), (ad 8, .inl (G.2.1 1, 8, .inl od)), (ad 9, .inl (G.2.1 1, 12, .inl cr)), (ad 10, .inl (G.2.1 1, 200, .inl ty)), (ad 11, .inl (G.2.1 1, 48, .inl to_)), (ad 12, .inl (G.2.1 1, 48, .inl (upd (upd dr (4 * k) v1) (4 * k + 1) v2)))]) H locs := hW
        refine W.eq (g2 := F0 m 22 ls [.int (hr_v t sn p2)]) rfl ?_
        refine W.widen (k := 0) (n := 0) (Nat.le_of_ble_eq_true rfl) (Nat.le_of_ble_eq_true rfl) ?_
        rcases Classical.em (p2 < sn ∧ t p2 = 44) with hc2 | hc2
        · have hC2 : rt1 t sn zp = rt3 t sn (p2 + 1) v1 v2 := by rw [hv2, hp2]; exact hC1.trans (if_if (by rw [← hp2]; exact hk2) (by rw [← hp2]; exact hc2))
          refine lv_bipush (v := 44) gX gB dX6_readTest_22 (by decide) ?_
          refine lv_icmp_eq (tgt := 31) gX gB dX6_readTest_24 (by decide) (fun _ => ?_) (fun h9 => absurd (show (hr_v t sn p2) = (44 : Int32) from (hr_eq (ch := 44) ht8 (by decide)).mpr hc2) h9)
          refine lv_aload_n gX gB dX6_readTest_31 rfl (lv_at hl 1 rfl) ?_
          refine lv_dup gX gB dX6_readTest_32 rfl ?_
          refine gx_get C hW fX6_124 ⟨0, rfl⟩ rfl dX6_readTest_33 ?_
          refine lv_iconst (v := 1) gX gB dX6_readTest_36 (by decide) ?_
          refine lv_iadd gX gB dX6_readTest_37 ?_
          refine gx_topi (show ((nI p2) + 1) = nI (p2 + 1) from nI_1 p2) ?_
          refine gx_putE C hW clX6 fX6_124 0 rfl (Or.inl rfl) rfl rfl (Nat.le_of_ble_eq_true rfl) dX6_readTest_38 (fun H locs hW => ?_)
          have hW : gx_W G A s ([(ad 0, .inr (11, [.int cd, .int (nI pn), .ref (ad 1), .ref (ad 2), .ref (ad 3), .ref (ad 4), .ref (ad 5), .int (nI fn), .ref (ad 6), .ref (ad 7), .int (nI dn), .ref (ad 8), .long ex, .long ey, .long eg, .int (nI cn), .ref (ad 9), .ref (ad 10), .int (nI sn), .int (nI (p2 + 1)), .int (-1), .int (nI tn), .ref (ad 11), .ref (ad 12)])), (ad 1, .inl (G.2.1 2, 16, .inr (.inl px))), (ad 2, .inl (G.2.1 2, 16, .inr (.inl py))), (ad 3, .inl (G.2.1 2, 16, .inr (.inl pz))), (ad 4, .inl (G.2.1 2, 16, .inr (.inl gr))), (ad 5, .inl (G.2.1 2, 16, .inr (.inl ou))), (ad 6, .inl (G.2.1 2, 12, .inr (.inl fx))), (ad 7, .inl (G.2.1 2, 12, .inr (.inl fy))), (ad 8, .inl (G.2.1 1, 8, .inl od)), (ad 9, .inl (G.2.1 1, 12, .inl cr)), (ad 10, .inl (G.2.1 1, 200, .inl ty)), (ad 11, .inl (G.2.1 1, 48, .inl to_)), (ad 12, .inl (G.2.1 1, 48, .inl (upd (upd dr (4 * k) v1) (4 * k + 1) v2)))]) H locs := hW
          refine lv_aload_n gX gB dX6_readTest_41 rfl (lv_at hl 1 rfl) ?_
          refine gx_get C hW fX6_127 ⟨0, rfl⟩ rfl dX6_readTest_42 ?_
          refine lv_if_ge (tgt := 72) gX gB dX6_readTest_45 (by decide) (fun h9 => absurd (show (0 : Int32) ≤ (-1) from h9) (by decide)) (fun _ => ?_)
          refine lv_aload_n gX gB dX6_readTest_48 rfl (lv_at hl 1 rfl) ?_
          refine gx_get C hW fX6_44 ⟨0, rfl⟩ rfl dX6_readTest_49 ?_
          refine lv_iconst (v := 4) gX gB dX6_readTest_52 (by decide) ?_
          refine lv_iload_n gX gB dX6_readTest_53 rfl (lv_at hl 2 rfl) ?_
          refine lv_imul gX gB dX6_readTest_54 ?_
          refine gx_topi (show (4 * (nI k)) = nI (4 * k) from nI_4 k) ?_
          refine lv_iload_n gX gB dX6_readTest_55 rfl (lv_at hl 0 rfl) ?_
          refine lv_iadd gX gB dX6_readTest_56 ?_
          refine gx_topi (show ((nI (4 * k)) + 2) = nI (4 * k + 2) from nI_add (4 * k) 2) ?_
          refine lv_aload_n gX gB dX6_readTest_57 rfl (lv_at hl 1 rfl) ?_
          refine lv_iload_n gX gB dX6_readTest_58 rfl (lv_at hl 0 rfl) ?_
          refine lv_iconst (v := 2) gX gB dX6_readTest_59 (by decide) ?_
          refine lv_icmp_ge (tgt := 67) gX gB dX6_readTest_60 (by decide) (fun _ => ?_) (fun h9 => absurd (show (2 : Int32) ≤ 2 from by decide) h9)
          refine lv_iconst (v := 0) gX gB dX6_readTest_67 (by decide) ?_
          refine gx_callV (wr := []) (rest := [.int (nI (4 * k + 2)), .ref (ad 12)]) C hW sX6_137 (kX6_readNumberU l G ad cd pn fn dn cn sn tn ex ey eg at0 fl px py pz gr ou fx fy od cr ty to_ (upd (upd dr (4 * k) v1) (4 * k + 1) v2) t hsn hty ht8 (p2 + 1) hc2.1) ⟨0, rfl⟩ rfl rfl ⟨(Nat.le_of_ble_eq_true rfl), (Nat.le_of_ble_eq_true rfl)⟩ hl.1 rfl (Nat.le_of_ble_eq_true rfl) dX6_readTest_68 ⟨(Nat.le_of_ble_eq_true rfl), (Nat.le_of_ble_eq_true rfl)⟩ (fun v9 u9 H locs hp hW => ?_)
          obtain ⟨rfl, hu⟩ := hp
          rw [hu] at hW
          have hW : gx_W G A s ([(ad 0, .inr (11, [.int cd, .int (nI pn), .ref (ad 1), .ref (ad 2), .ref (ad 3), .ref (ad 4), .ref (ad 5), .int (nI fn), .ref (ad 6), .ref (ad 7), .int (nI dn), .ref (ad 8), .long ex, .long ey, .long eg, .int (nI cn), .ref (ad 9), .ref (ad 10), .int (nI sn), .int (nI (dr_at t sn 5 (p2 + 1) 0).1), .int (if p2 + 1 < (dr_at t sn 5 (p2 + 1) 0).1 then -1 else nI (dr_at t sn 5 (p2 + 1) 0).1), .int (nI tn), .ref (ad 11), .ref (ad 12)])), (ad 1, .inl (G.2.1 2, 16, .inr (.inl px))), (ad 2, .inl (G.2.1 2, 16, .inr (.inl py))), (ad 3, .inl (G.2.1 2, 16, .inr (.inl pz))), (ad 4, .inl (G.2.1 2, 16, .inr (.inl gr))), (ad 5, .inl (G.2.1 2, 16, .inr (.inl ou))), (ad 6, .inl (G.2.1 2, 12, .inr (.inl fx))), (ad 7, .inl (G.2.1 2, 12, .inr (.inl fy))), (ad 8, .inl (G.2.1 1, 8, .inl od)), (ad 9, .inl (G.2.1 1, 12, .inl cr)), (ad 10, .inl (G.2.1 1, 200, .inl ty)), (ad 11, .inl (G.2.1 1, 48, .inl to_)), (ad 12, .inl (G.2.1 1, 48, .inl (upd (upd dr (4 * k) v1) (4 * k + 1) v2)))]) H locs := hW
          refine W.eq (g2 := F0 m 71 ls [.int (nI (dr_at t sn 5 (p2 + 1) 0).2), .int (nI (4 * k + 2)), .ref (ad 12)]) rfl ?_
          refine W.widen (k := 0) (n := 0) (Nat.le_of_ble_eq_true rfl) (Nat.le_of_ble_eq_true rfl) ?_
          obtain ⟨p3, hp3⟩ : ∃ zz, zz = (dr_at t sn 5 (p2 + 1) 0).1 := ⟨_, rfl⟩
          obtain ⟨v3, hv3⟩ : ∃ zz, zz = nI (dr_at t sn 5 (p2 + 1) 0).2 := ⟨_, rfl⟩
          have hl3 : p3 ≤ sn := by rw [hp3]; exact dr_le _ _ _ _ _ hc2.1
          have hW := hW
          rw [← hp3] at hW
          refine gx_topi (show (nI (dr_at t sn 5 (p2 + 1) 0).2) = v3 from hv3.symm) ?_
          have hW : gx_W G A s ([(ad 0, .inr (11, [.int cd, .int (nI pn), .ref (ad 1), .ref (ad 2), .ref (ad 3), .ref (ad 4), .ref (ad 5), .int (nI fn), .ref (ad 6), .ref (ad 7), .int (nI dn), .ref (ad 8), .long ex, .long ey, .long eg, .int (nI cn), .ref (ad 9), .ref (ad 10), .int (nI sn), .int (nI p3), .int (if p2 + 1 < p3 then -1 else nI p3), .int (nI tn), .ref (ad 11), .ref (ad 12)])), (ad 1, .inl (G.2.1 2, 16, .inr (.inl px))), (ad 2, .inl (G.2.1 2, 16, .inr (.inl py))), (ad 3, .inl (G.2.1 2, 16, .inr (.inl pz))), (ad 4, .inl (G.2.1 2, 16, .inr (.inl gr))), (ad 5, .inl (G.2.1 2, 16, .inr (.inl ou))), (ad 6, .inl (G.2.1 2, 12, .inr (.inl fx))), (ad 7, .inl (G.2.1 2, 12, .inr (.inl fy))), (ad 8, .inl (G.2.1 1, 8, .inl od)), (ad 9, .inl (G.2.1 1, 12, .inl cr)), (ad 10, .inl (G.2.1 1, 200, .inl ty)), (ad 11, .inl (G.2.1 1, 48, .inl to_)), (ad 12, .inl (G.2.1 1, 48, .inl (upd (upd dr (4 * k) v1) (4 * k + 1) v2)))]) H locs := hW
          rcases Classical.em (p2 + 1 < p3) with hk3 | hk3
          · rw [if_pos hk3] at hW
            have hW : gx_W G A s ([(ad 0, .inr (11, [.int cd, .int (nI pn), .ref (ad 1), .ref (ad 2), .ref (ad 3), .ref (ad 4), .ref (ad 5), .int (nI fn), .ref (ad 6), .ref (ad 7), .int (nI dn), .ref (ad 8), .long ex, .long ey, .long eg, .int (nI cn), .ref (ad 9), .ref (ad 10), .int (nI sn), .int (nI p3), .int (-1), .int (nI tn), .ref (ad 11), .ref (ad 12)])), (ad 1, .inl (G.2.1 2, 16, .inr (.inl px))), (ad 2, .inl (G.2.1 2, 16, .inr (.inl py))), (ad 3, .inl (G.2.1 2, 16, .inr (.inl pz))), (ad 4, .inl (G.2.1 2, 16, .inr (.inl gr))), (ad 5, .inl (G.2.1 2, 16, .inr (.inl ou))), (ad 6, .inl (G.2.1 2, 12, .inr (.inl fx))), (ad 7, .inl (G.2.1 2, 12, .inr (.inl fy))), (ad 8, .inl (G.2.1 1, 8, .inl od)), (ad 9, .inl (G.2.1 1, 12, .inl cr)), (ad 10, .inl (G.2.1 1, 200, .inl ty)), (ad 11, .inl (G.2.1 1, 48, .inl to_)), (ad 12, .inl (G.2.1 1, 48, .inl (upd (upd dr (4 * k) v1) (4 * k + 1) v2)))]) H locs := hW
            refine gx_iastE C hW 12 (j := (4 * k + 2)) rfl rfl (by omega) (by decide) dX6_readTest_71 (fun H locs hW => ?_)
            have hW : gx_W G A s ([(ad 0, .inr (11, [.int cd, .int (nI pn), .ref (ad 1), .ref (ad 2), .ref (ad 3), .ref (ad 4), .ref (ad 5), .int (nI fn), .ref (ad 6), .ref (ad 7), .int (nI dn), .ref (ad 8), .long ex, .long ey, .long eg, .int (nI cn), .ref (ad 9), .ref (ad 10), .int (nI sn), .int (nI p3), .int (-1), .int (nI tn), .ref (ad 11), .ref (ad 12)])), (ad 1, .inl (G.2.1 2, 16, .inr (.inl px))), (ad 2, .inl (G.2.1 2, 16, .inr (.inl py))), (ad 3, .inl (G.2.1 2, 16, .inr (.inl pz))), (ad 4, .inl (G.2.1 2, 16, .inr (.inl gr))), (ad 5, .inl (G.2.1 2, 16, .inr (.inl ou))), (ad 6, .inl (G.2.1 2, 12, .inr (.inl fx))), (ad 7, .inl (G.2.1 2, 12, .inr (.inl fy))), (ad 8, .inl (G.2.1 1, 8, .inl od)), (ad 9, .inl (G.2.1 1, 12, .inl cr)), (ad 10, .inl (G.2.1 1, 200, .inl ty)), (ad 11, .inl (G.2.1 1, 48, .inl to_)), (ad 12, .inl (G.2.1 1, 48, .inl (upd (upd (upd dr (4 * k) v1) (4 * k + 1) v2) (4 * k + 2) v3)))]) H locs := hW
            refine lv_iinc (v := 3) (lv' := [(2, .int 3), (0, .ref (ad 0)), (1, .int (nI k))]) gX gB dX6_readTest_72 hl (k := 0) rfl (by exact by decide) (by decide) rfl (fun ls hl => ?_)
            refine lv_goto (tgt := 2) gX gB dX6_readTest_75 (by decide) ?_
            refine lv_iload_n gX gB dX6_readTest_2 rfl (lv_at hl 0 rfl) ?_
            refine lv_iconst (v := 4) gX gB dX6_readTest_3 (by decide) ?_
            refine lv_icmp_ge (tgt := 78) gX gB dX6_readTest_4 (by decide) (fun h9 => absurd (show (4 : Int32) ≤ 3 from h9) (by decide)) (fun _ => ?_)
            refine lv_aload_n gX gB dX6_readTest_7 rfl (lv_at hl 1 rfl) ?_
            refine gx_get C hW fX6_127 ⟨0, rfl⟩ rfl dX6_readTest_8 ?_
            refine lv_if_ge (tgt := 78) gX gB dX6_readTest_11 (by decide) (fun h9 => absurd (show (0 : Int32) ≤ (-1) from h9) (by decide)) (fun _ => ?_)
            refine lv_iload_n gX gB dX6_readTest_14 rfl (lv_at hl 0 rfl) ?_
            refine lv_if_le (tgt := 41) gX gB dX6_readTest_15 (by decide) (fun h9 => absurd (show 3 ≤ (0 : Int32) from h9) (by decide)) (fun _ => ?_)
            refine lv_aload_n gX gB dX6_readTest_18 rfl (lv_at hl 1 rfl) ?_
            refine gx_callV (wr := []) (rest := []) C hW sX6_130 (kX6_here l G ad cd pn fn dn cn sn tn ex ey eg at0 (-1) px py pz gr ou fx fy od cr ty to_ (upd (upd (upd dr (4 * k) v1) (4 * k + 1) v2) (4 * k + 2) v3) t hsn hty ht8 p3 (by omega)) ⟨0, rfl⟩ rfl rfl ⟨(Nat.le_of_ble_eq_true rfl), (Nat.le_of_ble_eq_true rfl)⟩ hl.1 rfl (Nat.le_of_ble_eq_true rfl) dX6_readTest_19 ⟨(Nat.le_of_ble_eq_true rfl), (Nat.le_of_ble_eq_true rfl)⟩ (fun v9 u9 H locs hp hW => ?_)
            obtain ⟨rfl, hu⟩ := hp
            rw [hu] at hW
            have hW : gx_W G A s ([(ad 0, .inr (11, [.int cd, .int (nI pn), .ref (ad 1), .ref (ad 2), .ref (ad 3), .ref (ad 4), .ref (ad 5), .int (nI fn), .ref (ad 6), .ref (ad 7), .int (nI dn), .ref (ad 8), .long ex, .long ey, .long eg, .int (nI cn), .ref (ad 9), .ref (ad 10), .int (nI sn), .int (nI p3), .int (-1), .int (nI tn), .ref (ad 11), .ref (ad 12)])), (ad 1, .inl (G.2.1 2, 16, .inr (.inl px))), (ad 2, .inl (G.2.1 2, 16, .inr (.inl py))), (ad 3, .inl (G.2.1 2, 16, .inr (.inl pz))), (ad 4, .inl (G.2.1 2, 16, .inr (.inl gr))), (ad 5, .inl (G.2.1 2, 16, .inr (.inl ou))), (ad 6, .inl (G.2.1 2, 12, .inr (.inl fx))), (ad 7, .inl (G.2.1 2, 12, .inr (.inl fy))), (ad 8, .inl (G.2.1 1, 8, .inl od)), (ad 9, .inl (G.2.1 1, 12, .inl cr)), (ad 10, .inl (G.2.1 1, 200, .inl ty)), (ad 11, .inl (G.2.1 1, 48, .inl to_)), (ad 12, .inl (G.2.1 1, 48, .inl (upd (upd (upd dr (4 * k) v1) (4 * k + 1) v2) (4 * k + 2) v3)))]) H locs := hW
            refine W.eq (g2 := F0 m 22 ls [.int (hr_v t sn p3)]) rfl ?_
            refine W.widen (k := 0) (n := 0) (Nat.le_of_ble_eq_true rfl) (Nat.le_of_ble_eq_true rfl) ?_
            rcases Classical.em (p3 < sn ∧ t p3 = 44) with hc3 | hc3
            · have hC3 : rt1 t sn zp = rt4 t sn (p3 + 1) v1 v2 v3 := by rw [hv3, hp3]; exact hC2.trans (if_if (by rw [← hp3]; exact hk3) (by rw [← hp3]; exact hc3))
              refine lv_bipush (v := 44) gX gB dX6_readTest_22 (by decide) ?_
              refine lv_icmp_eq (tgt := 31) gX gB dX6_readTest_24 (by decide) (fun _ => ?_) (fun h9 => absurd (show (hr_v t sn p3) = (44 : Int32) from (hr_eq (ch := 44) ht8 (by decide)).mpr hc3) h9)
              refine lv_aload_n gX gB dX6_readTest_31 rfl (lv_at hl 1 rfl) ?_
              refine lv_dup gX gB dX6_readTest_32 rfl ?_
              refine gx_get C hW fX6_124 ⟨0, rfl⟩ rfl dX6_readTest_33 ?_
              refine lv_iconst (v := 1) gX gB dX6_readTest_36 (by decide) ?_
              refine lv_iadd gX gB dX6_readTest_37 ?_
              refine gx_topi (show ((nI p3) + 1) = nI (p3 + 1) from nI_1 p3) ?_
              refine gx_putE C hW clX6 fX6_124 0 rfl (Or.inl rfl) rfl rfl (Nat.le_of_ble_eq_true rfl) dX6_readTest_38 (fun H locs hW => ?_)
              have hW : gx_W G A s ([(ad 0, .inr (11, [.int cd, .int (nI pn), .ref (ad 1), .ref (ad 2), .ref (ad 3), .ref (ad 4), .ref (ad 5), .int (nI fn), .ref (ad 6), .ref (ad 7), .int (nI dn), .ref (ad 8), .long ex, .long ey, .long eg, .int (nI cn), .ref (ad 9), .ref (ad 10), .int (nI sn), .int (nI (p3 + 1)), .int (-1), .int (nI tn), .ref (ad 11), .ref (ad 12)])), (ad 1, .inl (G.2.1 2, 16, .inr (.inl px))), (ad 2, .inl (G.2.1 2, 16, .inr (.inl py))), (ad 3, .inl (G.2.1 2, 16, .inr (.inl pz))), (ad 4, .inl (G.2.1 2, 16, .inr (.inl gr))), (ad 5, .inl (G.2.1 2, 16, .inr (.inl ou))), (ad 6, .inl (G.2.1 2, 12, .inr (.inl fx))), (ad 7, .inl (G.2.1 2, 12, .inr (.inl fy))), (ad 8, .inl (G.2.1 1, 8, .inl od)), (ad 9, .inl (G.2.1 1, 12, .inl cr)), (ad 10, .inl (G.2.1 1, 200, .inl ty)), (ad 11, .inl (G.2.1 1, 48, .inl to_)), (ad 12, .inl (G.2.1 1, 48, .inl (upd (upd (upd dr (4 * k) v1) (4 * k + 1) v2) (4 * k + 2) v3)))]) H locs := hW
              refine lv_aload_n gX gB dX6_readTest_41 rfl (lv_at hl 1 rfl) ?_
              refine gx_get C hW fX6_127 ⟨0, rfl⟩ rfl dX6_readTest_42 ?_
              refine lv_if_ge (tgt := 72) gX gB dX6_readTest_45 (by decide) (fun h9 => absurd (show (0 : Int32) ≤ (-1) from h9) (by decide)) (fun _ => ?_)
              refine lv_aload_n gX gB dX6_readTest_48 rfl (lv_at hl 1 rfl) ?_
              refine gx_get C hW fX6_44 ⟨0, rfl⟩ rfl dX6_readTest_49 ?_
              refine lv_iconst (v := 4) gX gB dX6_readTest_52 (by decide) ?_
              refine lv_iload_n gX gB dX6_readTest_53 rfl (lv_at hl 2 rfl) ?_
              refine lv_imul gX gB dX6_readTest_54 ?_
              refine gx_topi (show (4 * (nI k)) = nI (4 * k) from nI_4 k) ?_
              refine lv_iload_n gX gB dX6_readTest_55 rfl (lv_at hl 0 rfl) ?_
              refine lv_iadd gX gB dX6_readTest_56 ?_
              refine gx_topi (show ((nI (4 * k)) + 3) = nI (4 * k + 3) from nI_add (4 * k) 3) ?_
              refine lv_aload_n gX gB dX6_readTest_57 rfl (lv_at hl 1 rfl) ?_
              refine lv_iload_n gX gB dX6_readTest_58 rfl (lv_at hl 0 rfl) ?_
              refine lv_iconst (v := 2) gX gB dX6_readTest_59 (by decide) ?_
              refine lv_icmp_ge (tgt := 67) gX gB dX6_readTest_60 (by decide) (fun _ => ?_) (fun h9 => absurd (show (2 : Int32) ≤ 3 from by decide) h9)
              refine lv_iconst (v := 0) gX gB dX6_readTest_67 (by decide) ?_
              refine gx_callV (wr := []) (rest := [.int (nI (4 * k + 3)), .ref (ad 12)]) C hW sX6_137 (kX6_readNumberU l G ad cd pn fn dn cn sn tn ex ey eg at0 fl px py pz gr ou fx fy od cr ty to_ (upd (upd (upd dr (4 * k) v1) (4 * k + 1) v2) (4 * k + 2) v3) t hsn hty ht8 (p3 + 1) hc3.1) ⟨0, rfl⟩ rfl rfl ⟨(Nat.le_of_ble_eq_true rfl), (Nat.le_of_ble_eq_true rfl)⟩ hl.1 rfl (Nat.le_of_ble_eq_true rfl) dX6_readTest_68 ⟨(Nat.le_of_ble_eq_true rfl), (Nat.le_of_ble_eq_true rfl)⟩ (fun v9 u9 H locs hp hW => ?_)
              obtain ⟨rfl, hu⟩ := hp
              rw [hu] at hW
              have hW : gx_W G A s ([(ad 0, .inr (11, [.int cd, .int (nI pn), .ref (ad 1), .ref (ad 2), .ref (ad 3), .ref (ad 4), .ref (ad 5), .int (nI fn), .ref (ad 6), .ref (ad 7), .int (nI dn), .ref (ad 8), .long ex, .long ey, .long eg, .int (nI cn), .ref (ad 9), .ref (ad 10), .int (nI sn), .int (nI (dr_at t sn 5 (p3 + 1) 0).1), .int (if p3 + 1 < (dr_at t sn 5 (p3 + 1) 0).1 then -1 else nI (dr_at t sn 5 (p3 + 1) 0).1), .int (nI tn), .ref (ad 11), .ref (ad 12)])), (ad 1, .inl (G.2.1 2, 16, .inr (.inl px))), (ad 2, .inl (G.2.1 2, 16, .inr (.inl py))), (ad 3, .inl (G.2.1 2, 16, .inr (.inl pz))), (ad 4, .inl (G.2.1 2, 16, .inr (.inl gr))), (ad 5, .inl (G.2.1 2, 16, .inr (.inl ou))), (ad 6, .inl (G.2.1 2, 12, .inr (.inl fx))), (ad 7, .inl (G.2.1 2, 12, .inr (.inl fy))), (ad 8, .inl (G.2.1 1, 8, .inl od)), (ad 9, .inl (G.2.1 1, 12, .inl cr)), (ad 10, .inl (G.2.1 1, 200, .inl ty)), (ad 11, .inl (G.2.1 1, 48, .inl to_)), (ad 12, .inl (G.2.1 1, 48, .inl (upd (upd (upd dr (4 * k) v1) (4 * k + 1) v2) (4 * k + 2) v3)))]) H locs := hW
              refine W.eq (g2 := F0 m 71 ls [.int (nI (dr_at t sn 5 (p3 + 1) 0).2), .int (nI (4 * k + 3)), .ref (ad 12)]) rfl ?_
              refine W.widen (k := 0) (n := 0) (Nat.le_of_ble_eq_true rfl) (Nat.le_of_ble_eq_true rfl) ?_
              obtain ⟨p4, hp4⟩ : ∃ zz, zz = (dr_at t sn 5 (p3 + 1) 0).1 := ⟨_, rfl⟩
              obtain ⟨v4, hv4⟩ : ∃ zz, zz = nI (dr_at t sn 5 (p3 + 1) 0).2 := ⟨_, rfl⟩
              have hl4 : p4 ≤ sn := by rw [hp4]; exact dr_le _ _ _ _ _ hc3.1
              have hW := hW
              rw [← hp4] at hW
              refine gx_topi (show (nI (dr_at t sn 5 (p3 + 1) 0).2) = v4 from hv4.symm) ?_
              have hW : gx_W G A s ([(ad 0, .inr (11, [.int cd, .int (nI pn), .ref (ad 1), .ref (ad 2), .ref (ad 3), .ref (ad 4), .ref (ad 5), .int (nI fn), .ref (ad 6), .ref (ad 7), .int (nI dn), .ref (ad 8), .long ex, .long ey, .long eg, .int (nI cn), .ref (ad 9), .ref (ad 10), .int (nI sn), .int (nI p4), .int (if p3 + 1 < p4 then -1 else nI p4), .int (nI tn), .ref (ad 11), .ref (ad 12)])), (ad 1, .inl (G.2.1 2, 16, .inr (.inl px))), (ad 2, .inl (G.2.1 2, 16, .inr (.inl py))), (ad 3, .inl (G.2.1 2, 16, .inr (.inl pz))), (ad 4, .inl (G.2.1 2, 16, .inr (.inl gr))), (ad 5, .inl (G.2.1 2, 16, .inr (.inl ou))), (ad 6, .inl (G.2.1 2, 12, .inr (.inl fx))), (ad 7, .inl (G.2.1 2, 12, .inr (.inl fy))), (ad 8, .inl (G.2.1 1, 8, .inl od)), (ad 9, .inl (G.2.1 1, 12, .inl cr)), (ad 10, .inl (G.2.1 1, 200, .inl ty)), (ad 11, .inl (G.2.1 1, 48, .inl to_)), (ad 12, .inl (G.2.1 1, 48, .inl (upd (upd (upd dr (4 * k) v1) (4 * k + 1) v2) (4 * k + 2) v3)))]) H locs := hW
              rcases Classical.em (p3 + 1 < p4) with hk4 | hk4
              · rw [if_pos hk4] at hW
                have hW : gx_W G A s ([(ad 0, .inr (11, [.int cd, .int (nI pn), .ref (ad 1), .ref (ad 2), .ref (ad 3), .ref (ad 4), .ref (ad 5), .int (nI fn), .ref (ad 6), .ref (ad 7), .int (nI dn), .ref (ad 8), .long ex, .long ey, .long eg, .int (nI cn), .ref (ad 9), .ref (ad 10), .int (nI sn), .int (nI p4), .int (-1), .int (nI tn), .ref (ad 11), .ref (ad 12)])), (ad 1, .inl (G.2.1 2, 16, .inr (.inl px))), (ad 2, .inl (G.2.1 2, 16, .inr (.inl py))), (ad 3, .inl (G.2.1 2, 16, .inr (.inl pz))), (ad 4, .inl (G.2.1 2, 16, .inr (.inl gr))), (ad 5, .inl (G.2.1 2, 16, .inr (.inl ou))), (ad 6, .inl (G.2.1 2, 12, .inr (.inl fx))), (ad 7, .inl (G.2.1 2, 12, .inr (.inl fy))), (ad 8, .inl (G.2.1 1, 8, .inl od)), (ad 9, .inl (G.2.1 1, 12, .inl cr)), (ad 10, .inl (G.2.1 1, 200, .inl ty)), (ad 11, .inl (G.2.1 1, 48, .inl to_)), (ad 12, .inl (G.2.1 1, 48, .inl (upd (upd (upd dr (4 * k) v1) (4 * k + 1) v2) (4 * k + 2) v3)))]) H locs := hW
                refine gx_iastE C hW 12 (j := (4 * k + 3)) rfl rfl (by omega) (by decide) dX6_readTest_71 (fun H locs hW => ?_)
                have hW : gx_W G A s ([(ad 0, .inr (11, [.int cd, .int (nI pn), .ref (ad 1), .ref (ad 2), .ref (ad 3), .ref (ad 4), .ref (ad 5), .int (nI fn), .ref (ad 6), .ref (ad 7), .int (nI dn), .ref (ad 8), .long ex, .long ey, .long eg, .int (nI cn), .ref (ad 9), .ref (ad 10), .int (nI sn), .int (nI p4), .int (-1), .int (nI tn), .ref (ad 11), .ref (ad 12)])), (ad 1, .inl (G.2.1 2, 16, .inr (.inl px))), (ad 2, .inl (G.2.1 2, 16, .inr (.inl py))), (ad 3, .inl (G.2.1 2, 16, .inr (.inl pz))), (ad 4, .inl (G.2.1 2, 16, .inr (.inl gr))), (ad 5, .inl (G.2.1 2, 16, .inr (.inl ou))), (ad 6, .inl (G.2.1 2, 12, .inr (.inl fx))), (ad 7, .inl (G.2.1 2, 12, .inr (.inl fy))), (ad 8, .inl (G.2.1 1, 8, .inl od)), (ad 9, .inl (G.2.1 1, 12, .inl cr)), (ad 10, .inl (G.2.1 1, 200, .inl ty)), (ad 11, .inl (G.2.1 1, 48, .inl to_)), (ad 12, .inl (G.2.1 1, 48, .inl (upd (upd (upd (upd dr (4 * k) v1) (4 * k + 1) v2) (4 * k + 2) v3) (4 * k + 3) v4)))]) H locs := hW
                refine lv_iinc (v := 4) (lv' := [(2, .int 4), (0, .ref (ad 0)), (1, .int (nI k))]) gX gB dX6_readTest_72 hl (k := 0) rfl (by exact by decide) (by decide) rfl (fun ls hl => ?_)
                refine lv_goto (tgt := 2) gX gB dX6_readTest_75 (by decide) ?_
                refine lv_iload_n gX gB dX6_readTest_2 rfl (lv_at hl 0 rfl) ?_
                refine lv_iconst (v := 4) gX gB dX6_readTest_3 (by decide) ?_
                refine lv_icmp_ge (tgt := 78) gX gB dX6_readTest_4 (by decide) (fun _ => ?_) (fun h9 => absurd (show (4 : Int32) ≤ 4 from by decide) h9)
                exact gx_vret C hr hW (Or.inr ⟨rfl, p4, (v1, v2, v3, v4), by rw [hp4, hv4]; exact hC3.trans (if_pos (by rw [← hp4]; exact hk4)), hl4, rfl⟩) (Nat.le_of_ble_eq_true rfl) (Nat.le_of_ble_eq_true rfl) dX6_readTest_78
              · rw [if_neg hk4] at hW
                have hW : gx_W G A s ([(ad 0, .inr (11, [.int cd, .int (nI pn), .ref (ad 1), .ref (ad 2), .ref (ad 3), .ref (ad 4), .ref (ad 5), .int (nI fn), .ref (ad 6), .ref (ad 7), .int (nI dn), .ref (ad 8), .long ex, .long ey, .long eg, .int (nI cn), .ref (ad 9), .ref (ad 10), .int (nI sn), .int (nI p4), .int (nI p4), .int (nI tn), .ref (ad 11), .ref (ad 12)])), (ad 1, .inl (G.2.1 2, 16, .inr (.inl px))), (ad 2, .inl (G.2.1 2, 16, .inr (.inl py))), (ad 3, .inl (G.2.1 2, 16, .inr (.inl pz))), (ad 4, .inl (G.2.1 2, 16, .inr (.inl gr))), (ad 5, .inl (G.2.1 2, 16, .inr (.inl ou))), (ad 6, .inl (G.2.1 2, 12, .inr (.inl fx))), (ad 7, .inl (G.2.1 2, 12, .inr (.inl fy))), (ad 8, .inl (G.2.1 1, 8, .inl od)), (ad 9, .inl (G.2.1 1, 12, .inl cr)), (ad 10, .inl (G.2.1 1, 200, .inl ty)), (ad 11, .inl (G.2.1 1, 48, .inl to_)), (ad 12, .inl (G.2.1 1, 48, .inl (upd (upd (upd dr (4 * k) v1) (4 * k + 1) v2) (4 * k + 2) v3)))]) H locs := hW
                refine gx_iastE C hW 12 (j := (4 * k + 3)) rfl rfl (by omega) (by decide) dX6_readTest_71 (fun H locs hW => ?_)
                have hW : gx_W G A s ([(ad 0, .inr (11, [.int cd, .int (nI pn), .ref (ad 1), .ref (ad 2), .ref (ad 3), .ref (ad 4), .ref (ad 5), .int (nI fn), .ref (ad 6), .ref (ad 7), .int (nI dn), .ref (ad 8), .long ex, .long ey, .long eg, .int (nI cn), .ref (ad 9), .ref (ad 10), .int (nI sn), .int (nI p4), .int (nI p4), .int (nI tn), .ref (ad 11), .ref (ad 12)])), (ad 1, .inl (G.2.1 2, 16, .inr (.inl px))), (ad 2, .inl (G.2.1 2, 16, .inr (.inl py))), (ad 3, .inl (G.2.1 2, 16, .inr (.inl pz))), (ad 4, .inl (G.2.1 2, 16, .inr (.inl gr))), (ad 5, .inl (G.2.1 2, 16, .inr (.inl ou))), (ad 6, .inl (G.2.1 2, 12, .inr (.inl fx))), (ad 7, .inl (G.2.1 2, 12, .inr (.inl fy))), (ad 8, .inl (G.2.1 1, 8, .inl od)), (ad 9, .inl (G.2.1 1, 12, .inl cr)), (ad 10, .inl (G.2.1 1, 200, .inl ty)), (ad 11, .inl (G.2.1 1, 48, .inl to_)), (ad 12, .inl (G.2.1 1, 48, .inl (upd (upd (upd (upd dr (4 * k) v1) (4 * k + 1) v2) (4 * k + 2) v3) (4 * k + 3) v4)))]) H locs := hW
                refine lv_iinc (v := 4) (lv' := [(2, .int 4), (0, .ref (ad 0)), (1, .int (nI k))]) gX gB dX6_readTest_72 hl (k := 0) rfl (by exact by decide) (by decide) rfl (fun ls hl => ?_)
                refine lv_goto (tgt := 2) gX gB dX6_readTest_75 (by decide) ?_
                refine lv_iload_n gX gB dX6_readTest_2 rfl (lv_at hl 0 rfl) ?_
                refine lv_iconst (v := 4) gX gB dX6_readTest_3 (by decide) ?_
                refine lv_icmp_ge (tgt := 78) gX gB dX6_readTest_4 (by decide) (fun _ => ?_) (fun h9 => absurd (show (4 : Int32) ≤ 4 from by decide) h9)
                exact gx_vret C hr hW (Or.inl ⟨rfl, p4, _, _, by rw [hp4]; exact hC3.trans (if_neg (by rw [← hp4]; exact hk4)), hl4, rfl⟩) (Nat.le_of_ble_eq_true rfl) (Nat.le_of_ble_eq_true rfl) dX6_readTest_78
            · refine lv_bipush (v := 44) gX gB dX6_readTest_22 (by decide) ?_
              refine lv_icmp_eq (tgt := 31) gX gB dX6_readTest_24 (by decide) (fun h9 => absurd (show (hr_v t sn p3) = (44 : Int32) from h9) (fun zz => hc3 ((hr_eq (ch := 44) ht8 (by decide)).mp zz))) (fun _ => ?_)
              refine lv_aload_n gX gB dX6_readTest_27 rfl (lv_at hl 1 rfl) ?_
              refine gx_callV (wr := []) (rest := []) C hW sX6_134 (kX6_fail l G ad cd pn fn dn cn sn tn ex ey eg (nI p3) fl px py pz gr ou fx fy od cr ty to_ (upd (upd (upd dr (4 * k) v1) (4 * k + 1) v2) (4 * k + 2) v3)) ⟨0, rfl⟩ rfl rfl ⟨(Nat.le_of_ble_eq_true rfl), (Nat.le_of_ble_eq_true rfl)⟩ hl.1 rfl (Nat.le_of_ble_eq_true rfl) dX6_readTest_28 ⟨(Nat.le_of_ble_eq_true rfl), (Nat.le_of_ble_eq_true rfl)⟩ (fun v9 u9 H locs hp hW => ?_)
              obtain ⟨rfl, hu⟩ := hp
              rw [hu] at hW
              have hW : gx_W G A s ([(ad 0, .inr (11, [.int cd, .int (nI pn), .ref (ad 1), .ref (ad 2), .ref (ad 3), .ref (ad 4), .ref (ad 5), .int (nI fn), .ref (ad 6), .ref (ad 7), .int (nI dn), .ref (ad 8), .long ex, .long ey, .long eg, .int (nI cn), .ref (ad 9), .ref (ad 10), .int (nI sn), .int (nI p3), .int (nI p3), .int (nI tn), .ref (ad 11), .ref (ad 12)])), (ad 1, .inl (G.2.1 2, 16, .inr (.inl px))), (ad 2, .inl (G.2.1 2, 16, .inr (.inl py))), (ad 3, .inl (G.2.1 2, 16, .inr (.inl pz))), (ad 4, .inl (G.2.1 2, 16, .inr (.inl gr))), (ad 5, .inl (G.2.1 2, 16, .inr (.inl ou))), (ad 6, .inl (G.2.1 2, 12, .inr (.inl fx))), (ad 7, .inl (G.2.1 2, 12, .inr (.inl fy))), (ad 8, .inl (G.2.1 1, 8, .inl od)), (ad 9, .inl (G.2.1 1, 12, .inl cr)), (ad 10, .inl (G.2.1 1, 200, .inl ty)), (ad 11, .inl (G.2.1 1, 48, .inl to_)), (ad 12, .inl (G.2.1 1, 48, .inl (upd (upd (upd dr (4 * k) v1) (4 * k + 1) v2) (4 * k + 2) v3)))]) H locs := hW
              refine W.eq (g2 := F0 m 31 ls []) rfl ?_
              refine W.widen (k := 0) (n := 0) (Nat.le_of_ble_eq_true rfl) (Nat.le_of_ble_eq_true rfl) ?_
              refine lv_aload_n gX gB dX6_readTest_31 rfl (lv_at hl 1 rfl) ?_
              refine lv_dup gX gB dX6_readTest_32 rfl ?_
              refine gx_get C hW fX6_124 ⟨0, rfl⟩ rfl dX6_readTest_33 ?_
              refine lv_iconst (v := 1) gX gB dX6_readTest_36 (by decide) ?_
              refine lv_iadd gX gB dX6_readTest_37 ?_
              refine gx_topi (show ((nI p3) + 1) = nI (p3 + 1) from nI_1 p3) ?_
              refine gx_putE C hW clX6 fX6_124 0 rfl (Or.inl rfl) rfl rfl (Nat.le_of_ble_eq_true rfl) dX6_readTest_38 (fun H locs hW => ?_)
              have hW : gx_W G A s ([(ad 0, .inr (11, [.int cd, .int (nI pn), .ref (ad 1), .ref (ad 2), .ref (ad 3), .ref (ad 4), .ref (ad 5), .int (nI fn), .ref (ad 6), .ref (ad 7), .int (nI dn), .ref (ad 8), .long ex, .long ey, .long eg, .int (nI cn), .ref (ad 9), .ref (ad 10), .int (nI sn), .int (nI (p3 + 1)), .int (nI p3), .int (nI tn), .ref (ad 11), .ref (ad 12)])), (ad 1, .inl (G.2.1 2, 16, .inr (.inl px))), (ad 2, .inl (G.2.1 2, 16, .inr (.inl py))), (ad 3, .inl (G.2.1 2, 16, .inr (.inl pz))), (ad 4, .inl (G.2.1 2, 16, .inr (.inl gr))), (ad 5, .inl (G.2.1 2, 16, .inr (.inl ou))), (ad 6, .inl (G.2.1 2, 12, .inr (.inl fx))), (ad 7, .inl (G.2.1 2, 12, .inr (.inl fy))), (ad 8, .inl (G.2.1 1, 8, .inl od)), (ad 9, .inl (G.2.1 1, 12, .inl cr)), (ad 10, .inl (G.2.1 1, 200, .inl ty)), (ad 11, .inl (G.2.1 1, 48, .inl to_)), (ad 12, .inl (G.2.1 1, 48, .inl (upd (upd (upd dr (4 * k) v1) (4 * k + 1) v2) (4 * k + 2) v3)))]) H locs := hW
              refine lv_aload_n gX gB dX6_readTest_41 rfl (lv_at hl 1 rfl) ?_
              refine gx_get C hW fX6_127 ⟨0, rfl⟩ rfl dX6_readTest_42 ?_
              refine lv_if_ge (tgt := 72) gX gB dX6_readTest_45 (by decide) (fun _ => ?_) (fun h9 => absurd (show (0 : Int32) ≤ (nI p3) from nI_pos' (by omega)) h9)
              refine lv_iinc (v := 4) (lv' := [(2, .int 4), (0, .ref (ad 0)), (1, .int (nI k))]) gX gB dX6_readTest_72 hl (k := 0) rfl (by exact by decide) (by decide) rfl (fun ls hl => ?_)
              refine lv_goto (tgt := 2) gX gB dX6_readTest_75 (by decide) ?_
              refine lv_iload_n gX gB dX6_readTest_2 rfl (lv_at hl 0 rfl) ?_
              refine lv_iconst (v := 4) gX gB dX6_readTest_3 (by decide) ?_
              refine lv_icmp_ge (tgt := 78) gX gB dX6_readTest_4 (by decide) (fun _ => ?_) (fun h9 => absurd (show (4 : Int32) ≤ 4 from by decide) h9)
              exact gx_vret C hr hW (Or.inl ⟨rfl, p3, _, _, by rw [hp3]; exact hC2.trans (if_in (by rw [← hp3]; exact hk3) (by rw [← hp3]; exact hc3)), hl3, rfl⟩) (Nat.le_of_ble_eq_true rfl) (Nat.le_of_ble_eq_true rfl) dX6_readTest_78
          · rw [if_neg hk3] at hW
            have hW : gx_W G A s ([(ad 0, .inr (11, [.int cd, .int (nI pn), .ref (ad 1), .ref (ad 2), .ref (ad 3), .ref (ad 4), .ref (ad 5), .int (nI fn), .ref (ad 6), .ref (ad 7), .int (nI dn), .ref (ad 8), .long ex, .long ey, .long eg, .int (nI cn), .ref (ad 9), .ref (ad 10), .int (nI sn), .int (nI p3), .int (nI p3), .int (nI tn), .ref (ad 11), .ref (ad 12)])), (ad 1, .inl (G.2.1 2, 16, .inr (.inl px))), (ad 2, .inl (G.2.1 2, 16, .inr (.inl py))), (ad 3, .inl (G.2.1 2, 16, .inr (.inl pz))), (ad 4, .inl (G.2.1 2, 16, .inr (.inl gr))), (ad 5, .inl (G.2.1 2, 16, .inr (.inl ou))), (ad 6, .inl (G.2.1 2, 12, .inr (.inl fx))), (ad 7, .inl (G.2.1 2, 12, .inr (.inl fy))), (ad 8, .inl (G.2.1 1, 8, .inl od)), (ad 9, .inl (G.2.1 1, 12, .inl cr)), (ad 10, .inl (G.2.1 1, 200, .inl ty)), (ad 11, .inl (G.2.1 1, 48, .inl to_)), (ad 12, .inl (G.2.1 1, 48, .inl (upd (upd dr (4 * k) v1) (4 * k + 1) v2)))]) H locs := hW
            refine gx_iastE C hW 12 (j := (4 * k + 2)) rfl rfl (by omega) (by decide) dX6_readTest_71 (fun H locs hW => ?_)
            have hW : gx_W G A s ([(ad 0, .inr (11, [.int cd, .int (nI pn), .ref (ad 1), .ref (ad 2), .ref (ad 3), .ref (ad 4), .ref (ad 5), .int (nI fn), .ref (ad 6), .ref (ad 7), .int (nI dn), .ref (ad 8), .long ex, .long ey, .long eg, .int (nI cn), .ref (ad 9), .ref (ad 10), .int (nI sn), .int (nI p3), .int (nI p3), .int (nI tn), .ref (ad 11), .ref (ad 12)])), (ad 1, .inl (G.2.1 2, 16, .inr (.inl px))), (ad 2, .inl (G.2.1 2, 16, .inr (.inl py))), (ad 3, .inl (G.2.1 2, 16, .inr (.inl pz))), (ad 4, .inl (G.2.1 2, 16, .inr (.inl gr))), (ad 5, .inl (G.2.1 2, 16, .inr (.inl ou))), (ad 6, .inl (G.2.1 2, 12, .inr (.inl fx))), (ad 7, .inl (G.2.1 2, 12, .inr (.inl fy))), (ad 8, .inl (G.2.1 1, 8, .inl od)), (ad 9, .inl (G.2.1 1, 12, .inl cr)), (ad 10, .inl (G.2.1 1, 200, .inl ty)), (ad 11, .inl (G.2.1 1, 48, .inl to_)), (ad 12, .inl (G.2.1 1, 48, .inl (upd (upd (upd dr (4 * k) v1) (4 * k + 1) v2) (4 * k + 2) v3)))]) H locs := hW
            refine lv_iinc (v := 3) (lv' := [(2, .int 3), (0, .ref (ad 0)), (1, .int (nI k))]) gX gB dX6_readTest_72 hl (k := 0) rfl (by exact by decide) (by decide) rfl (fun ls hl => ?_)
            refine lv_goto (tgt := 2) gX gB dX6_readTest_75 (by decide) ?_
            refine lv_iload_n gX gB dX6_readTest_2 rfl (lv_at hl 0 rfl) ?_
            refine lv_iconst (v := 4) gX gB dX6_readTest_3 (by decide) ?_
            refine lv_icmp_ge (tgt := 78) gX gB dX6_readTest_4 (by decide) (fun h9 => absurd (show (4 : Int32) ≤ 3 from h9) (by decide)) (fun _ => ?_)
            refine lv_aload_n gX gB dX6_readTest_7 rfl (lv_at hl 1 rfl) ?_
            refine gx_get C hW fX6_127 ⟨0, rfl⟩ rfl dX6_readTest_8 ?_
            refine lv_if_ge (tgt := 78) gX gB dX6_readTest_11 (by decide) (fun _ => ?_) (fun h9 => absurd (show (0 : Int32) ≤ (nI p3) from nI_pos' (by omega)) h9)
            exact gx_vret C hr hW (Or.inl ⟨rfl, p3, _, _, by rw [hp3]; exact hC2.trans (if_neg (by rw [← hp3]; exact hk3)), hl3, rfl⟩) (Nat.le_of_ble_eq_true rfl) (Nat.le_of_ble_eq_true rfl) dX6_readTest_78
        · refine lv_bipush (v := 44) gX gB dX6_readTest_22 (by decide) ?_
          refine lv_icmp_eq (tgt := 31) gX gB dX6_readTest_24 (by decide) (fun h9 => absurd (show (hr_v t sn p2) = (44 : Int32) from h9) (fun zz => hc2 ((hr_eq (ch := 44) ht8 (by decide)).mp zz))) (fun _ => ?_)
          refine lv_aload_n gX gB dX6_readTest_27 rfl (lv_at hl 1 rfl) ?_
          refine gx_callV (wr := []) (rest := []) C hW sX6_134 (kX6_fail l G ad cd pn fn dn cn sn tn ex ey eg (nI p2) fl px py pz gr ou fx fy od cr ty to_ (upd (upd dr (4 * k) v1) (4 * k + 1) v2)) ⟨0, rfl⟩ rfl rfl ⟨(Nat.le_of_ble_eq_true rfl), (Nat.le_of_ble_eq_true rfl)⟩ hl.1 rfl (Nat.le_of_ble_eq_true rfl) dX6_readTest_28 ⟨(Nat.le_of_ble_eq_true rfl), (Nat.le_of_ble_eq_true rfl)⟩ (fun v9 u9 H locs hp hW => ?_)
          obtain ⟨rfl, hu⟩ := hp
          rw [hu] at hW
          have hW : gx_W G A s ([(ad 0, .inr (11, [.int cd, .int (nI pn), .ref (ad 1), .ref (ad 2), .ref (ad 3), .ref (ad 4), .ref (ad 5), .int (nI fn), .ref (ad 6), .ref (ad 7), .int (nI dn), .ref (ad 8), .long ex, .long ey, .long eg, .int (nI cn), .ref (ad 9), .ref (ad 10), .int (nI sn), .int (nI p2), .int (nI p2), .int (nI tn), .ref (ad 11), .ref (ad 12)])), (ad 1, .inl (G.2.1 2, 16, .inr (.inl px))), (ad 2, .inl (G.2.1 2, 16, .inr (.inl py))), (ad 3, .inl (G.2.1 2, 16, .inr (.inl pz))), (ad 4, .inl (G.2.1 2, 16, .inr (.inl gr))), (ad 5, .inl (G.2.1 2, 16, .inr (.inl ou))), (ad 6, .inl (G.2.1 2, 12, .inr (.inl fx))), (ad 7, .inl (G.2.1 2, 12, .inr (.inl fy))), (ad 8, .inl (G.2.1 1, 8, .inl od)), (ad 9, .inl (G.2.1 1, 12, .inl cr)), (ad 10, .inl (G.2.1 1, 200, .inl ty)), (ad 11, .inl (G.2.1 1, 48, .inl to_)), (ad 12, .inl (G.2.1 1, 48, .inl (upd (upd dr (4 * k) v1) (4 * k + 1) v2)))]) H locs := hW
          refine W.eq (g2 := F0 m 31 ls []) rfl ?_
          refine W.widen (k := 0) (n := 0) (Nat.le_of_ble_eq_true rfl) (Nat.le_of_ble_eq_true rfl) ?_
          refine lv_aload_n gX gB dX6_readTest_31 rfl (lv_at hl 1 rfl) ?_
          refine lv_dup gX gB dX6_readTest_32 rfl ?_
          refine gx_get C hW fX6_124 ⟨0, rfl⟩ rfl dX6_readTest_33 ?_
          refine lv_iconst (v := 1) gX gB dX6_readTest_36 (by decide) ?_
          refine lv_iadd gX gB dX6_readTest_37 ?_
          refine gx_topi (show ((nI p2) + 1) = nI (p2 + 1) from nI_1 p2) ?_
          refine gx_putE C hW clX6 fX6_124 0 rfl (Or.inl rfl) rfl rfl (Nat.le_of_ble_eq_true rfl) dX6_readTest_38 (fun H locs hW => ?_)
          have hW : gx_W G A s ([(ad 0, .inr (11, [.int cd, .int (nI pn), .ref (ad 1), .ref (ad 2), .ref (ad 3), .ref (ad 4), .ref (ad 5), .int (nI fn), .ref (ad 6), .ref (ad 7), .int (nI dn), .ref (ad 8), .long ex, .long ey, .long eg, .int (nI cn), .ref (ad 9), .ref (ad 10), .int (nI sn), .int (nI (p2 + 1)), .int (nI p2), .int (nI tn), .ref (ad 11), .ref (ad 12)])), (ad 1, .inl (G.2.1 2, 16, .inr (.inl px))), (ad 2, .inl (G.2.1 2, 16, .inr (.inl py))), (ad 3, .inl (G.2.1 2, 16, .inr (.inl pz))), (ad 4, .inl (G.2.1 2, 16, .inr (.inl gr))), (ad 5, .inl (G.2.1 2, 16, .inr (.inl ou))), (ad 6, .inl (G.2.1 2, 12, .inr (.inl fx))), (ad 7, .inl (G.2.1 2, 12, .inr (.inl fy))), (ad 8, .inl (G.2.1 1, 8, .inl od)), (ad 9, .inl (G.2.1 1, 12, .inl cr)), (ad 10, .inl (G.2.1 1, 200, .inl ty)), (ad 11, .inl (G.2.1 1, 48, .inl to_)), (ad 12, .inl (G.2.1 1, 48, .inl (upd (upd dr (4 * k) v1) (4 * k + 1) v2)))]) H locs := hW
          refine lv_aload_n gX gB dX6_readTest_41 rfl (lv_at hl 1 rfl) ?_
          refine gx_get C hW fX6_127 ⟨0, rfl⟩ rfl dX6_readTest_42 ?_
          refine lv_if_ge (tgt := 72) gX gB dX6_readTest_45 (by decide) (fun _ => ?_) (fun h9 => absurd (show (0 : Int32) ≤ (nI p2) from nI_pos' (by omega)) h9)
          refine lv_iinc (v := 3) (lv' := [(2, .int 3), (0, .ref (ad 0)), (1, .int (nI k))]) gX gB dX6_readTest_72 hl (k := 0) rfl (by exact by decide) (by decide) rfl (fun ls hl => ?_)
          refine lv_goto (tgt := 2) gX gB dX6_readTest_75 (by decide) ?_
          refine lv_iload_n gX gB dX6_readTest_2 rfl (lv_at hl 0 rfl) ?_
          refine lv_iconst (v := 4) gX gB dX6_readTest_3 (by decide) ?_
          refine lv_icmp_ge (tgt := 78) gX gB dX6_readTest_4 (by decide) (fun h9 => absurd (show (4 : Int32) ≤ 3 from h9) (by decide)) (fun _ => ?_)
          refine lv_aload_n gX gB dX6_readTest_7 rfl (lv_at hl 1 rfl) ?_
          refine gx_get C hW fX6_127 ⟨0, rfl⟩ rfl dX6_readTest_8 ?_
          refine lv_if_ge (tgt := 78) gX gB dX6_readTest_11 (by decide) (fun _ => ?_) (fun h9 => absurd (show (0 : Int32) ≤ (nI p2) from nI_pos' (by omega)) h9)
          exact gx_vret C hr hW (Or.inl ⟨rfl, p2, _, _, by rw [hp2]; exact hC1.trans (if_in (by rw [← hp2]; exact hk2) (by rw [← hp2]; exact hc2)), hl2, rfl⟩) (Nat.le_of_ble_eq_true rfl) (Nat.le_of_ble_eq_true rfl) dX6_readTest_78
      · rw [if_neg hk2] at hW
        have hW : gx_W G A s ([(ad 0, .inr (11, [.int cd, .int (nI pn), .ref (ad 1), .ref (ad 2), .ref (ad 3), .ref (ad 4), .ref (ad 5), .int (nI fn), .ref (ad 6), .ref (ad 7), .int (nI dn), .ref (ad 8), .long ex, .long ey, .long eg, .int (nI cn), .ref (ad 9), .ref (ad 10), .int (nI sn), .int (nI p2), .int (nI p2), .int (nI tn), .ref (ad 11), .ref (ad 12)])), (ad 1, .inl (G.2.1 2, 16, .inr (.inl px))), (ad 2, .inl (G.2.1 2, 16, .inr (.inl py))), (ad 3, .inl (G.2.1 2, 16, .inr (.inl pz))), (ad 4, .inl (G.2.1 2, 16, .inr (.inl gr))), (ad 5, .inl (G.2.1 2, 16, .inr (.inl ou))), (ad 6, .inl (G.2.1 2, 12, .inr (.inl fx))), (ad 7, .inl (G.2.1 2, 12, .inr (.inl fy))), (ad 8, .inl (G.2.1 1, 8, .inl od)), (ad 9, .inl (G.2.1 1, 12, .inl cr)), (ad 10, .inl (G.2.1 1, 200, .inl ty)), (ad 11, .inl (G.2.1 1, 48, .inl to_)), (ad 12, .inl (G.2.1 1, 48, .inl (upd dr (4 * k) v1)))]) H locs := hW
        refine gx_iastE C hW 12 (j := (4 * k + 1)) rfl rfl (by omega) (by decide) dX6_readTest_71 (fun H locs hW => ?_)
        have hW : gx_W G A s ([(ad 0, .inr (11, [.int cd, .int (nI pn), .ref (ad 1), .ref (ad 2), .ref (ad 3), .ref (ad 4), .ref (ad 5), .int (nI fn), .ref (ad 6), .ref (ad 7), .int (nI dn), .ref (ad 8), .long ex, .long ey, .long eg, .int (nI cn), .ref (ad 9), .ref (ad 10), .int (nI sn), .int (nI p2), .int (nI p2), .int (nI tn), .ref (ad 11), .ref (ad 12)])), (ad 1, .inl (G.2.1 2, 16, .inr (.inl px))), (ad 2, .inl (G.2.1 2, 16, .inr (.inl py))), (ad 3, .inl (G.2.1 2, 16, .inr (.inl pz))), (ad 4, .inl (G.2.1 2, 16, .inr (.inl gr))), (ad 5, .inl (G.2.1 2, 16, .inr (.inl ou))), (ad 6, .inl (G.2.1 2, 12, .inr (.inl fx))), (ad 7, .inl (G.2.1 2, 12, .inr (.inl fy))), (ad 8, .inl (G.2.1 1, 8, .inl od)), (ad 9, .inl (G.2.1 1, 12, .inl cr)), (ad 10, .inl (G.2.1 1, 200, .inl ty)), (ad 11, .inl (G.2.1 1, 48, .inl to_)), (ad 12, .inl (G.2.1 1, 48, .inl (upd (upd dr (4 * k) v1) (4 * k + 1) v2)))]) H locs := hW
        refine lv_iinc (v := 2) (lv' := [(2, .int 2), (0, .ref (ad 0)), (1, .int (nI k))]) gX gB dX6_readTest_72 hl (k := 0) rfl (by exact by decide) (by decide) rfl (fun ls hl => ?_)
        refine lv_goto (tgt := 2) gX gB dX6_readTest_75 (by decide) ?_
        refine lv_iload_n gX gB dX6_readTest_2 rfl (lv_at hl 0 rfl) ?_
        refine lv_iconst (v := 4) gX gB dX6_readTest_3 (by decide) ?_
        refine lv_icmp_ge (tgt := 78) gX gB dX6_readTest_4 (by decide) (fun h9 => absurd (show (4 : Int32) ≤ 2 from h9) (by decide)) (fun _ => ?_)
        refine lv_aload_n gX gB dX6_readTest_7 rfl (lv_at hl 1 rfl) ?_
        refine gx_get C hW fX6_127 ⟨0, rfl⟩ rfl dX6_readTest_8 ?_
        refine lv_if_ge (tgt := 78) gX gB dX6_readTest_11 (by decide) (fun _ => ?_) (fun h9 => absurd (show (0 : Int32) ≤ (nI p2) from nI_pos' (by omega)) h9)
        exact gx_vret C hr hW (Or.inl ⟨rfl, p2, _, _, by rw [hp2]; exact hC1.trans (if_neg (by rw [← hp2]; exact hk2)), hl2, rfl⟩) (Nat.le_of_ble_eq_true rfl) (Nat.le_of_ble_eq_true rfl) dX6_readTest_78
    · refine lv_bipush (v := 44) gX gB dX6_readTest_22 (by decide) ?_
      refine lv_icmp_eq (tgt := 31) gX gB dX6_readTest_24 (by decide) (fun h9 => absurd (show (hr_v t sn p1) = (44 : Int32) from h9) (fun zz => hc1 ((hr_eq (ch := 44) ht8 (by decide)).mp zz))) (fun _ => ?_)
      refine lv_aload_n gX gB dX6_readTest_27 rfl (lv_at hl 1 rfl) ?_
      refine gx_callV (wr := []) (rest := []) C hW sX6_134 (kX6_fail l G ad cd pn fn dn cn sn tn ex ey eg (nI p1) fl px py pz gr ou fx fy od cr ty to_ (upd dr (4 * k) v1)) ⟨0, rfl⟩ rfl rfl ⟨(Nat.le_of_ble_eq_true rfl), (Nat.le_of_ble_eq_true rfl)⟩ hl.1 rfl (Nat.le_of_ble_eq_true rfl) dX6_readTest_28 ⟨(Nat.le_of_ble_eq_true rfl), (Nat.le_of_ble_eq_true rfl)⟩ (fun v9 u9 H locs hp hW => ?_)
      obtain ⟨rfl, hu⟩ := hp
      rw [hu] at hW
      have hW : gx_W G A s ([(ad 0, .inr (11, [.int cd, .int (nI pn), .ref (ad 1), .ref (ad 2), .ref (ad 3), .ref (ad 4), .ref (ad 5), .int (nI fn), .ref (ad 6), .ref (ad 7), .int (nI dn), .ref (ad 8), .long ex, .long ey, .long eg, .int (nI cn), .ref (ad 9), .ref (ad 10), .int (nI sn), .int (nI p1), .int (nI p1), .int (nI tn), .ref (ad 11), .ref (ad 12)])), (ad 1, .inl (G.2.1 2, 16, .inr (.inl px))), (ad 2, .inl (G.2.1 2, 16, .inr (.inl py))), (ad 3, .inl (G.2.1 2, 16, .inr (.inl pz))), (ad 4, .inl (G.2.1 2, 16, .inr (.inl gr))), (ad 5, .inl (G.2.1 2, 16, .inr (.inl ou))), (ad 6, .inl (G.2.1 2, 12, .inr (.inl fx))), (ad 7, .inl (G.2.1 2, 12, .inr (.inl fy))), (ad 8, .inl (G.2.1 1, 8, .inl od)), (ad 9, .inl (G.2.1 1, 12, .inl cr)), (ad 10, .inl (G.2.1 1, 200, .inl ty)), (ad 11, .inl (G.2.1 1, 48, .inl to_)), (ad 12, .inl (G.2.1 1, 48, .inl (upd dr (4 * k) v1)))]) H locs := hW
      refine W.eq (g2 := F0 m 31 ls []) rfl ?_
      refine W.widen (k := 0) (n := 0) (Nat.le_of_ble_eq_true rfl) (Nat.le_of_ble_eq_true rfl) ?_
      refine lv_aload_n gX gB dX6_readTest_31 rfl (lv_at hl 1 rfl) ?_
      refine lv_dup gX gB dX6_readTest_32 rfl ?_
      refine gx_get C hW fX6_124 ⟨0, rfl⟩ rfl dX6_readTest_33 ?_
      refine lv_iconst (v := 1) gX gB dX6_readTest_36 (by decide) ?_
      refine lv_iadd gX gB dX6_readTest_37 ?_
      refine gx_topi (show ((nI p1) + 1) = nI (p1 + 1) from nI_1 p1) ?_
      refine gx_putE C hW clX6 fX6_124 0 rfl (Or.inl rfl) rfl rfl (Nat.le_of_ble_eq_true rfl) dX6_readTest_38 (fun H locs hW => ?_)
      have hW : gx_W G A s ([(ad 0, .inr (11, [.int cd, .int (nI pn), .ref (ad 1), .ref (ad 2), .ref (ad 3), .ref (ad 4), .ref (ad 5), .int (nI fn), .ref (ad 6), .ref (ad 7), .int (nI dn), .ref (ad 8), .long ex, .long ey, .long eg, .int (nI cn), .ref (ad 9), .ref (ad 10), .int (nI sn), .int (nI (p1 + 1)), .int (nI p1), .int (nI tn), .ref (ad 11), .ref (ad 12)])), (ad 1, .inl (G.2.1 2, 16, .inr (.inl px))), (ad 2, .inl (G.2.1 2, 16, .inr (.inl py))), (ad 3, .inl (G.2.1 2, 16, .inr (.inl pz))), (ad 4, .inl (G.2.1 2, 16, .inr (.inl gr))), (ad 5, .inl (G.2.1 2, 16, .inr (.inl ou))), (ad 6, .inl (G.2.1 2, 12, .inr (.inl fx))), (ad 7, .inl (G.2.1 2, 12, .inr (.inl fy))), (ad 8, .inl (G.2.1 1, 8, .inl od)), (ad 9, .inl (G.2.1 1, 12, .inl cr)), (ad 10, .inl (G.2.1 1, 200, .inl ty)), (ad 11, .inl (G.2.1 1, 48, .inl to_)), (ad 12, .inl (G.2.1 1, 48, .inl (upd dr (4 * k) v1)))]) H locs := hW
      refine lv_aload_n gX gB dX6_readTest_41 rfl (lv_at hl 1 rfl) ?_
      refine gx_get C hW fX6_127 ⟨0, rfl⟩ rfl dX6_readTest_42 ?_
      refine lv_if_ge (tgt := 72) gX gB dX6_readTest_45 (by decide) (fun _ => ?_) (fun h9 => absurd (show (0 : Int32) ≤ (nI p1) from nI_pos' (by omega)) h9)
      refine lv_iinc (v := 2) (lv' := [(2, .int 2), (0, .ref (ad 0)), (1, .int (nI k))]) gX gB dX6_readTest_72 hl (k := 0) rfl (by exact by decide) (by decide) rfl (fun ls hl => ?_)
      refine lv_goto (tgt := 2) gX gB dX6_readTest_75 (by decide) ?_
      refine lv_iload_n gX gB dX6_readTest_2 rfl (lv_at hl 0 rfl) ?_
      refine lv_iconst (v := 4) gX gB dX6_readTest_3 (by decide) ?_
      refine lv_icmp_ge (tgt := 78) gX gB dX6_readTest_4 (by decide) (fun h9 => absurd (show (4 : Int32) ≤ 2 from h9) (by decide)) (fun _ => ?_)
      refine lv_aload_n gX gB dX6_readTest_7 rfl (lv_at hl 1 rfl) ?_
      refine gx_get C hW fX6_127 ⟨0, rfl⟩ rfl dX6_readTest_8 ?_
      refine lv_if_ge (tgt := 78) gX gB dX6_readTest_11 (by decide) (fun _ => ?_) (fun h9 => absurd (show (0 : Int32) ≤ (nI p1) from nI_pos' (by omega)) h9)
      exact gx_vret C hr hW (Or.inl ⟨rfl, p1, _, _, by rw [hp1]; exact (if_in (by rw [← hp1]; exact hk1) (by rw [← hp1]; exact hc1)), hl1, rfl⟩) (Nat.le_of_ble_eq_true rfl) (Nat.le_of_ble_eq_true rfl) dX6_readTest_78
  · rw [if_neg hk1] at hW
    have hW : gx_W G A s ([(ad 0, .inr (11, [.int cd, .int (nI pn), .ref (ad 1), .ref (ad 2), .ref (ad 3), .ref (ad 4), .ref (ad 5), .int (nI fn), .ref (ad 6), .ref (ad 7), .int (nI dn), .ref (ad 8), .long ex, .long ey, .long eg, .int (nI cn), .ref (ad 9), .ref (ad 10), .int (nI sn), .int (nI p1), .int (nI p1), .int (nI tn), .ref (ad 11), .ref (ad 12)])), (ad 1, .inl (G.2.1 2, 16, .inr (.inl px))), (ad 2, .inl (G.2.1 2, 16, .inr (.inl py))), (ad 3, .inl (G.2.1 2, 16, .inr (.inl pz))), (ad 4, .inl (G.2.1 2, 16, .inr (.inl gr))), (ad 5, .inl (G.2.1 2, 16, .inr (.inl ou))), (ad 6, .inl (G.2.1 2, 12, .inr (.inl fx))), (ad 7, .inl (G.2.1 2, 12, .inr (.inl fy))), (ad 8, .inl (G.2.1 1, 8, .inl od)), (ad 9, .inl (G.2.1 1, 12, .inl cr)), (ad 10, .inl (G.2.1 1, 200, .inl ty)), (ad 11, .inl (G.2.1 1, 48, .inl to_)), (ad 12, .inl (G.2.1 1, 48, .inl dr))]) H locs := hW
    refine gx_iastE C hW 12 (j := (4 * k)) rfl rfl (by omega) (by decide) dX6_readTest_71 (fun H locs hW => ?_)
    have hW : gx_W G A s ([(ad 0, .inr (11, [.int cd, .int (nI pn), .ref (ad 1), .ref (ad 2), .ref (ad 3), .ref (ad 4), .ref (ad 5), .int (nI fn), .ref (ad 6), .ref (ad 7), .int (nI dn), .ref (ad 8), .long ex, .long ey, .long eg, .int (nI cn), .ref (ad 9), .ref (ad 10), .int (nI sn), .int (nI p1), .int (nI p1), .int (nI tn), .ref (ad 11), .ref (ad 12)])), (ad 1, .inl (G.2.1 2, 16, .inr (.inl px))), (ad 2, .inl (G.2.1 2, 16, .inr (.inl py))), (ad 3, .inl (G.2.1 2, 16, .inr (.inl pz))), (ad 4, .inl (G.2.1 2, 16, .inr (.inl gr))), (ad 5, .inl (G.2.1 2, 16, .inr (.inl ou))), (ad 6, .inl (G.2.1 2, 12, .inr (.inl fx))), (ad 7, .inl (G.2.1 2, 12, .inr (.inl fy))), (ad 8, .inl (G.2.1 1, 8, .inl od)), (ad 9, .inl (G.2.1 1, 12, .inl cr)), (ad 10, .inl (G.2.1 1, 200, .inl ty)), (ad 11, .inl (G.2.1 1, 48, .inl to_)), (ad 12, .inl (G.2.1 1, 48, .inl (upd dr (4 * k) v1)))]) H locs := hW
    refine lv_iinc (v := 1) (lv' := [(2, .int 1), (0, .ref (ad 0)), (1, .int (nI k))]) gX gB dX6_readTest_72 hl (k := 0) rfl (by exact by decide) (by decide) rfl (fun ls hl => ?_)
    refine lv_goto (tgt := 2) gX gB dX6_readTest_75 (by decide) ?_
    refine lv_iload_n gX gB dX6_readTest_2 rfl (lv_at hl 0 rfl) ?_
    refine lv_iconst (v := 4) gX gB dX6_readTest_3 (by decide) ?_
    refine lv_icmp_ge (tgt := 78) gX gB dX6_readTest_4 (by decide) (fun h9 => absurd (show (4 : Int32) ≤ 1 from h9) (by decide)) (fun _ => ?_)
    refine lv_aload_n gX gB dX6_readTest_7 rfl (lv_at hl 1 rfl) ?_
    refine gx_get C hW fX6_127 ⟨0, rfl⟩ rfl dX6_readTest_8 ?_
    refine lv_if_ge (tgt := 78) gX gB dX6_readTest_11 (by decide) (fun _ => ?_) (fun h9 => absurd (show (0 : Int32) ≤ (nI p1) from nI_pos' (by omega)) h9)
    exact gx_vret C hr hW (Or.inl ⟨rfl, p1, _, _, by rw [hp1]; exact (if_neg (by rw [← hp1]; exact hk1)), hl1, rfl⟩) (Nat.le_of_ble_eq_true rfl) (Nat.le_of_ble_eq_true rfl) dX6_readTest_78
