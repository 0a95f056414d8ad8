/-! THE REFERENCE: here, fail, readNumber. -/
def hr_v (t : Nat → Nat) (n p : Nat) : Int32 := if p < n then nI (t p) else -1
theorem hr_1 {t : Nat → Nat} {n p : Nat} (h : p < n) : hr_v t n p = nI (t p) := if_pos h
theorem hr_0 {t : Nat → Nat} {n p : Nat} (h : ¬ p < n) : hr_v t n p = -1 := if_neg h
theorem hr_eq {t : Nat → Nat} {n p ch : Nat} (ht : ∀ i, i < n → t i < 128) (hc : ch < 128) : hr_v t n p = nI ch ↔ (p < n ∧ t p = ch) := by
  by_cases h : p < n
  · rw [hr_1 h, nI_eq (by have := ht p h; omega) (by omega)]
    exact ⟨fun z => ⟨h, z⟩, fun z => z.2⟩
  · rw [hr_0 h]
    refine ⟨fun z => ?_, fun z => absurd z.1 h⟩
    exfalso
    have := nI_pos (n := ch) (by omega)
    rw [← z] at this
    exact this (by decide)
theorem rn_add {t : Nat → Nat} {n p v : Nat} (h : p < n ∧ 48 ≤ t p ∧ t p ≤ 57) : ((10 * nI v) + hr_v t n p) - 48 = nI (10 * v + (t p - 48)) := by
  rw [hr_1 h.1, show (10 : Int32) * nI v = nI (10 * v) from (Int32.ofNat_mul 10 v).symm, nI_add, show 10 * v + t p = (10 * v + (t p - 48)) + 48 by omega, ← nI_add]
  show nI (10 * v + (t p - 48)) + 48 - 48 = _
  rw [Int32.add_sub_cancel]
set_option maxHeartbeats 4000000 in
set_option maxRecDepth 100000 in
theorem kX6_here (l : Launch) (G : gx_T) (ad : Nat → Nat) (cd : Int32) (pn fn dn cn sn tn : Nat) (ex ey eg : Int64) (at0 fl : Int32) (px py pz gr ou fx fy : Nat → Int64) (od cr ty to_ dr : Nat → Int32) (t : Nat → Nat) (hsn : sn ≤ 200) (hty : ∀ i, i < sn → ty i = nI (t i)) (ht8 : ∀ i, i < sn → t i < 128) (zp : Nat) (hzp : zp < 2 ^ 30) : gx_M l G yX6_here cX6_here 1 (some .int) ({ frames := 0, cells := 0, slots := 0, locals := 0 } : Room) [.ref (ad 0)] ([(ad 0, .inr (11, [.int cd, .int (nI pn), .ref (ad 1), .ref (ad 2), .ref (ad 3), .ref (ad 4), .ref (ad 5), .int (nI fn), .ref (ad 6), .ref (ad 7), .int (nI dn), .ref (ad 8), .long ex, .long ey, .long eg, .int (nI cn), .ref (ad 9), .ref (ad 10), .int (nI sn), .int (nI zp), .int fl, .int (nI tn), .ref (ad 11), .ref (ad 12)])), (ad 1, .inl (G.2.1 2, 16, .inr (.inl px))), (ad 2, .inl (G.2.1 2, 16, .inr (.inl py))), (ad 3, .inl (G.2.1 2, 16, .inr (.inl pz))), (ad 4, .inl (G.2.1 2, 16, .inr (.inl gr))), (ad 5, .inl (G.2.1 2, 16, .inr (.inl ou))), (ad 6, .inl (G.2.1 2, 12, .inr (.inl fx))), (ad 7, .inl (G.2.1 2, 12, .inr (.inl fy))), (ad 8, .inl (G.2.1 1, 8, .inl od)), (ad 9, .inl (G.2.1 1, 12, .inl cr)), (ad 10, .inl (G.2.1 1, 200, .inl ty)), (ad 11, .inl (G.2.1 1, 48, .inl to_)), (ad 12, .inl (G.2.1 1, 48, .inl dr))]) (fun v u => v = some (.int (hr_v t sn zp)) ∧ u = [(ad 0, .inr (11, [.int cd, .int (nI pn), .ref (ad 1), .ref (ad 2), .ref (ad 3), .ref (ad 4), .ref (ad 5), .int (nI fn), .ref (ad 6), .ref (ad 7), .int (nI dn), .ref (ad 8), .long ex, .long ey, .long eg, .int (nI cn), .ref (ad 9), .ref (ad 10), .int (nI sn), .int (nI zp), .int fl, .int (nI tn), .ref (ad 11), .ref (ad 12)])), (ad 1, .inl (G.2.1 2, 16, .inr (.inl px))), (ad 2, .inl (G.2.1 2, 16, .inr (.inl py))), (ad 3, .inl (G.2.1 2, 16, .inr (.inl pz))), (ad 4, .inl (G.2.1 2, 16, .inr (.inl gr))), (ad 5, .inl (G.2.1 2, 16, .inr (.inl ou))), (ad 6, .inl (G.2.1 2, 12, .inr (.inl fx))), (ad 7, .inl (G.2.1 2, 12, .inr (.inl fy))), (ad 8, .inl (G.2.1 1, 8, .inl od)), (ad 9, .inl (G.2.1 1, 12, .inl cr)), (ad 10, .inl (G.2.1 1, 200, .inl ty)), (ad 11, .inl (G.2.1 1, 48, .inl to_)), (ad 12, .inl (G.2.1 1, 48, .inl dr))]) := by
  refine gx_start (by decide +kernel) (Nat.le_of_ble_eq_true rfl) ?_
  intro p e s m args below meth c A ls C hr hnm hW hl
  have gX := C.x
  have gB := C.b
  have hl : lv_has ls 1 [(0, .ref (ad 0))] := hl
  refine lv_aload_n gX gB dX6_here_0 rfl (lv_at hl 0 rfl) ?_
  rcases Classical.em (zp < sn) with hpn | hpn
  · refine gx_get C hW fX6_124 ⟨0, rfl⟩ rfl dX6_here_1 ?_
    refine lv_aload_n gX gB dX6_here_4 rfl (lv_at hl 0 rfl) ?_
    refine gx_get C hW fX6_121 ⟨0, rfl⟩ rfl dX6_here_5 ?_
    refine lv_icmp_ge (tgt := 23) gX gB dX6_here_8 (by decide) (fun h9 => absurd (show (nI sn) ≤ (nI zp) from h9) (nI_ge hpn (by omega))) (fun _ => ?_)
    refine lv_aload_n gX gB dX6_here_11 rfl (lv_at hl 0 rfl) ?_
    refine gx_get C hW fX6_38 ⟨0, rfl⟩ rfl dX6_here_12 ?_
    refine lv_aload_n gX gB dX6_here_15 rfl (lv_at hl 0 rfl) ?_
    refine gx_get C hW fX6_124 ⟨0, rfl⟩ rfl dX6_here_16 ?_
    refine gx_iald C hW ⟨10, rfl⟩ (j := zp) rfl (by omega) (by decide) dX6_here_19 ?_
    refine gx_topi (show (ty zp) = nI (t zp) from hty zp hpn) ?_
    refine lv_goto (tgt := 24) gX gB dX6_here_20 (by decide) ?_
    exact gx_iret C hr hW (⟨by rw [hr_1 hpn], rfl⟩) (Nat.le_of_ble_eq_true rfl) (Nat.le_of_ble_eq_true rfl) dX6_here_24
  · refine gx_get C hW fX6_124 ⟨0, rfl⟩ rfl dX6_here_1 ?_
    refine lv_aload_n gX gB dX6_here_4 rfl (lv_at hl 0 rfl) ?_
    refine gx_get C hW fX6_121 ⟨0, rfl⟩ rfl dX6_here_5 ?_
    refine lv_icmp_ge (tgt := 23) gX gB dX6_here_8 (by decide) (fun _ => ?_) (fun h9 => absurd (show (nI sn) ≤ (nI zp) from nI_le (by omega) (by omega)) h9)
    refine lv_iconst (v := (-1)) gX gB dX6_here_23 (by decide) ?_
    exact gx_iret C hr hW (⟨by rw [hr_0 hpn], rfl⟩) (Nat.le_of_ble_eq_true rfl) (Nat.le_of_ble_eq_true rfl) dX6_here_24
set_option maxHeartbeats 4000000 in
set_option maxRecDepth 100000 in
theorem kX6_fail (l : Launch) (G : gx_T) (ad : Nat → Nat) (cd : Int32) (pn fn dn cn sn tn : Nat) (ex ey eg : Int64) (at0 fl : Int32) (px py pz gr ou fx fy : Nat → Int64) (od cr ty to_ dr : Nat → Int32) : gx_M l G yX6_fail cX6_fail 1 none ({ frames := 0, cells := 0, slots := 0, locals := 0 } : Room) [.ref (ad 0)] ([(ad 0, .inr (11, [.int cd, .int (nI pn), .ref (ad 1), .ref (ad 2), .ref (ad 3), .ref (ad 4), .ref (ad 5), .int (nI fn), .ref (ad 6), .ref (ad 7), .int (nI dn), .ref (ad 8), .long ex, .long ey, .long eg, .int (nI cn), .ref (ad 9), .ref (ad 10), .int (nI sn), .int at0, .int (-1), .int (nI tn), .ref (ad 11), .ref (ad 12)])), (ad 1, .inl (G.2.1 2, 16, .inr (.inl px))), (ad 2, .inl (G.2.1 2, 16, .inr (.inl py))), (ad 3, .inl (G.2.1 2, 16, .inr (.inl pz))), (ad 4, .inl (G.2.1 2, 16, .inr (.inl gr))), (ad 5, .inl (G.2.1 2, 16, .inr (.inl ou))), (ad 6, .inl (G.2.1 2, 12, .inr (.inl fx))), (ad 7, .inl (G.2.1 2, 12, .inr (.inl fy))), (ad 8, .inl (G.2.1 1, 8, .inl od)), (ad 9, .inl (G.2.1 1, 12, .inl cr)), (ad 10, .inl (G.2.1 1, 200, .inl ty)), (ad 11, .inl (G.2.1 1, 48, .inl to_)), (ad 12, .inl (G.2.1 1, 48, .inl dr))]) (fun v u => v = none ∧ u = [(ad 0, .inr (11, [.int cd, .int (nI pn), .ref (ad 1), .ref (ad 2), .ref (ad 3), .ref (ad 4), .ref (ad 5), .int (nI fn), .ref (ad 6), .ref (ad 7), .int (nI dn), .ref (ad 8), .long ex, .long ey, .long eg, .int (nI cn), .ref (ad 9), .ref (ad 10), .int (nI sn), .int at0, .int at0, .int (nI tn), .ref (ad 11), .ref (ad 12)])), (ad 1, .inl (G.2.1 2, 16, .inr (.inl px))), (ad 2, .inl (G.2.1 2, 16, .inr (.inl py))), (ad 3, .inl (G.2.1 2, 16, .inr (.inl pz))), (ad 4, .inl (G.2.1 2, 16, .inr (.inl gr))), (ad 5, .inl (G.2.1 2, 16, .inr (.inl ou))), (ad 6, .inl (G.2.1 2, 12, .inr (.inl fx))), (ad 7, .inl (G.2.1 2, 12, .inr (.inl fy))), (ad 8, .inl (G.2.1 1, 8, .inl od)), (ad 9, .inl (G.2.1 1, 12, .inl cr)), (ad 10, .inl (G.2.1 1, 200, .inl ty)), (ad 11, .inl (G.2.1 1, 48, .inl to_)), (ad 12, .inl (G.2.1 1, 48, .inl dr))]) := by
  refine gx_start (by decide +kernel) (Nat.le_of_ble_eq_true rfl) ?_
  intro p e s m args below meth c A ls C hr hnm hW hl
  have gX := C.x
  have gB := C.b
  have hl : lv_has ls 1 [(0, .ref (ad 0))] := hl
  refine lv_aload_n gX gB dX6_fail_0 rfl (lv_at hl 0 rfl) ?_
  refine lv_aload_n gX gB dX6_fail_1 rfl (lv_at hl 0 rfl) ?_
  refine gx_get C hW fX6_127 ⟨0, rfl⟩ rfl dX6_fail_2 ?_
  refine lv_if_ge (tgt := 15) gX gB dX6_fail_5 (by decide) (fun h9 => absurd (show (0 : Int32) ≤ (-1) from h9) (by decide)) (fun _ => ?_)
  refine lv_aload_n gX gB dX6_fail_8 rfl (lv_at hl 0 rfl) ?_
  refine gx_get C hW fX6_124 ⟨0, rfl⟩ rfl dX6_fail_9 ?_
  refine lv_goto (tgt := 19) gX gB dX6_fail_12 (by decide) ?_
  refine gx_putE C hW clX6 fX6_127 0 rfl (Or.inl rfl) rfl rfl (Nat.le_of_ble_eq_true rfl) dX6_fail_19 (fun H locs hW => ?_)
  have hW : gx_W G A s ([(ad 0, .inr (11, [.int cd, .int (nI pn), .ref (ad 1), .ref (ad 2), .ref (ad 3), .ref (ad 4), .ref (ad 5), .int (nI fn), .ref (ad 6), .ref (ad 7), .int (nI dn), .ref (ad 8), .long ex, .long ey, .long eg, .int (nI cn), .ref (ad 9), .ref (ad 10), .int (nI sn), .int at0, .int at0, .int (nI tn), .ref (ad 11), .ref (ad 12)])), (ad 1, .inl (G.2.1 2, 16, .inr (.inl px))), (ad 2, .inl (G.2.1 2, 16, .inr (.inl py))), (ad 3, .inl (G.2.1 2, 16, .inr (.inl pz))), (ad 4, .inl (G.2.1 2, 16, .inr (.inl gr))), (ad 5, .inl (G.2.1 2, 16, .inr (.inl ou))), (ad 6, .inl (G.2.1 2, 12, .inr (.inl fx))), (ad 7, .inl (G.2.1 2, 12, .inr (.inl fy))), (ad 8, .inl (G.2.1 1, 8, .inl od)), (ad 9, .inl (G.2.1 1, 12, .inl cr)), (ad 10, .inl (G.2.1 1, 200, .inl ty)), (ad 11, .inl (G.2.1 1, 48, .inl to_)), (ad 12, .inl (G.2.1 1, 48, .inl dr))]) H locs := hW
  exact gx_vret C hr hW (⟨rfl, rfl⟩) (Nat.le_of_ble_eq_true rfl) (Nat.le_of_ble_eq_true rfl) dX6_fail_22
set_option maxHeartbeats 4000000 in
set_option maxRecDepth 100000 in
theorem kX6_readNumberS (l : Launch) (G : gx_T) (ad : Nat → Nat) (cd : Int32) (pn fn dn cn sn tn : Nat) (ex ey eg : Int64) (at0 fl : Int32) (px py pz gr ou fx fy : Nat → Int64) (od cr ty to_ dr : Nat → Int32) (t : Nat → Nat) (hsn : sn ≤ 200) (hty : ∀ i, i < sn → ty i = nI (t i)) (ht8 : ∀ i, i < sn → t i < 128) (zp : Nat) (hp9 : zp ≤ sn) : gx_M l G yX6_readNumber cX6_readNumber 5 (some .int) ({ frames := 1, cells := 0, slots := 0, locals := 20 } : Room) [.ref (ad 0), .int 1] ([(ad 0, .inr (11, [.int cd, .int (nI pn), .ref (ad 1), .ref (ad 2), .ref (ad 3), .ref (ad 4), .ref (ad 5), .int (nI fn), .ref (ad 6), .ref (ad 7), .int (nI dn), .ref (ad 8), .long ex, .long ey, .long eg, .int (nI cn), .ref (ad 9), .ref (ad 10), .int (nI sn), .int (nI zp), .int (-1), .int (nI tn), .ref (ad 11), .ref (ad 12)])), (ad 1, .inl (G.2.1 2, 16, .inr (.inl px))), (ad 2, .inl (G.2.1 2, 16, .inr (.inl py))), (ad 3, .inl (G.2.1 2, 16, .inr (.inl pz))), (ad 4, .inl (G.2.1 2, 16, .inr (.inl gr))), (ad 5, .inl (G.2.1 2, 16, .inr (.inl ou))), (ad 6, .inl (G.2.1 2, 12, .inr (.inl fx))), (ad 7, .inl (G.2.1 2, 12, .inr (.inl fy))), (ad 8, .inl (G.2.1 1, 8, .inl od)), (ad 9, .inl (G.2.1 1, 12, .inl cr)), (ad 10, .inl (G.2.1 1, 200, .inl ty)), (ad 11, .inl (G.2.1 1, 48, .inl to_)), (ad 12, .inl (G.2.1 1, 48, .inl dr))]) (fun v9 u => v9 = some (.int (sg_v t sn zp)) ∧ u = [(ad 0, .inr (11, [.int cd, .int (nI pn), .ref (ad 1), .ref (ad 2), .ref (ad 3), .ref (ad 4), .ref (ad 5), .int (nI fn), .ref (ad 6), .ref (ad 7), .int (nI dn), .ref (ad 8), .long ex, .long ey, .long eg, .int (nI cn), .ref (ad 9), .ref (ad 10), .int (nI sn), .int (nI (sg_e t sn zp).1), .int (if sg_q t sn zp < (sg_e t sn zp).1 then -1 else nI (sg_e t sn zp).1), .int (nI tn), .ref (ad 11), .ref (ad 12)])), (ad 1, .inl (G.2.1 2, 16, .inr (.inl px))), (ad 2, .inl (G.2.1 2, 16, .inr (.inl py))), (ad 3, .inl (G.2.1 2, 16, .inr (.inl pz))), (ad 4, .inl (G.2.1 2, 16, .inr (.inl gr))), (ad 5, .inl (G.2.1 2, 16, .inr (.inl ou))), (ad 6, .inl (G.2.1 2, 12, .inr (.inl fx))), (ad 7, .inl (G.2.1 2, 12, .inr (.inl fy))), (ad 8, .inl (G.2.1 1, 8, .inl od)), (ad 9, .inl (G.2.1 1, 12, .inl cr)), (ad 10, .inl (G.2.1 1, 200, .inl ty)), (ad 11, .inl (G.2.1 1, 48, .inl to_)), (ad 12, .inl (G.2.1 1, 48, .inl dr))]) := by
  refine gx_start (by decide +kernel) (Nat.le_of_ble_eq_true rfl) ?_
  intro p e s m args below meth c A ls C hr hnm hW hl
  have gX := C.x
  have gB := C.b
  have hl : lv_has ls 5 [(0, .ref (ad 0)), (1, .int 1)] := hl
  refine lv_iload_n gX gB dX6_readNumber_0 rfl (lv_at hl 1 rfl) ?_
  refine lv_if_eq (tgt := 17) gX gB dX6_readNumber_1 (by decide) (fun h9 => absurd (show 1 = (0 : Int32) from h9) (by decide)) (fun _ => ?_)
  refine lv_aload_n gX gB dX6_readNumber_4 rfl (lv_at hl 0 rfl) ?_
  refine gx_callV (wr := []) (rest := []) C hW sX6_130 (kX6_here l G ad cd pn fn dn cn sn tn ex ey eg at0 (-1) px py pz gr ou fx fy od cr ty to_ dr t hsn hty ht8 zp (by omega)) ⟨0, rfl⟩ rfl rfl ⟨(Nat.le_of_ble_eq_true rfl), (Nat.le_of_ble_eq_true rfl)⟩ hl.1 rfl (Nat.le_of_ble_eq_true rfl) dX6_readNumber_5 ⟨(Nat.le_of_ble_eq_true rfl), (Nat.le_of_ble_eq_true rfl)⟩ (fun v9 u9 H locs hp hW => ?_)
  obtain ⟨rfl, hu⟩ := hp
  rw [hu] at hW
  have hW : gx_W G A s ([(ad 0, .inr (11, [.int cd, .int (nI pn), .ref (ad 1), .ref (ad 2), .ref (ad 3), .ref (ad 4), .ref (ad 5), .int (nI fn), .ref (ad 6), .ref (ad 7), .int (nI dn), .ref (ad 8), .long ex, .long ey, .long eg, .int (nI cn), .ref (ad 9), .ref (ad 10), .int (nI sn), .int (nI zp), .int (-1), .int (nI tn), .ref (ad 11), .ref (ad 12)])), (ad 1, .inl (G.2.1 2, 16, .inr (.inl px))), (ad 2, .inl (G.2.1 2, 16, .inr (.inl py))), (ad 3, .inl (G.2.1 2, 16, .inr (.inl pz))), (ad 4, .inl (G.2.1 2, 16, .inr (.inl gr))), (ad 5, .inl (G.2.1 2, 16, .inr (.inl ou))), (ad 6, .inl (G.2.1 2, 12, .inr (.inl fx))), (ad 7, .inl (G.2.1 2, 12, .inr (.inl fy))), (ad 8, .inl (G.2.1 1, 8, .inl od)), (ad 9, .inl (G.2.1 1, 12, .inl cr)), (ad 10, .inl (G.2.1 1, 200, .inl ty)), (ad 11, .inl (G.2.1 1, 48, .inl to_)), (ad 12, .inl (G.2.1 1, 48, .inl dr))]) H locs := hW
  refine W.eq (g2 := F0 m 8 ls [.int (hr_v t sn zp)]) rfl ?_
  refine W.widen (k := 0) (n := 0) (Nat.le_of_ble_eq_true rfl) (Nat.le_of_ble_eq_true rfl) ?_
  rcases Classical.em (zp < sn ∧ t zp = 45) with hlt | hlt
  · have hq9 : zp + 1 ≤ sn := hlt.1
    have hsg : sg_q t sn zp = zp + 1 := if_pos hlt
    refine lv_bipush (v := 45) gX gB dX6_readNumber_8 (by decide) ?_
    refine lv_icmp_ne (tgt := 17) gX gB dX6_readNumber_10 (by decide) (fun h9 => absurd (show ¬ (hr_v t sn zp) = (45 : Int32) from h9) (fun zz => zz ((hr_eq (ch := 45) ht8 (by decide)).mpr hlt))) (fun _ => ?_)
    refine lv_iconst (v := 1) gX gB dX6_readNumber_13 (by decide) ?_
    refine lv_goto (tgt := 18) gX gB dX6_readNumber_14 (by decide) ?_
    refine lv_istore_n (lv' := [(2, .int 1), (0, .ref (ad 0)), (1, .int 1)]) gX gB dX6_readNumber_18 rfl hl (by decide) rfl (fun ls hl => ?_)
    refine lv_aload_n gX gB dX6_readNumber_19 rfl (lv_at hl 1 rfl) ?_
    refine lv_iload_n gX gB dX6_readNumber_20 rfl (lv_at hl 0 rfl) ?_
    refine lv_if_eq (tgt := 33) gX gB dX6_readNumber_21 (by decide) (fun h9 => absurd (show 1 = (0 : Int32) from h9) (by decide)) (fun _ => ?_)
    refine lv_aload_n gX gB dX6_readNumber_24 rfl (lv_at hl 1 rfl) ?_
    refine gx_get C hW fX6_124 ⟨0, rfl⟩ rfl dX6_readNumber_25 ?_
    refine lv_iconst (v := 1) gX gB dX6_readNumber_28 (by decide) ?_
    refine lv_iadd gX gB dX6_readNumber_29 ?_
    refine gx_topi (show ((nI zp) + 1) = nI (zp + 1) from nI_1 zp) ?_
    refine lv_goto (tgt := 37) gX gB dX6_readNumber_30 (by decide) ?_
    refine gx_putE C hW clX6 fX6_124 0 rfl (Or.inl rfl) rfl rfl (Nat.le_of_ble_eq_true rfl) dX6_readNumber_37 (fun H locs hW => ?_)
    have hW : gx_W G A s ([(ad 0, .inr (11, [.int cd, .int (nI pn), .ref (ad 1), .ref (ad 2), .ref (ad 3), .ref (ad 4), .ref (ad 5), .int (nI fn), .ref (ad 6), .ref (ad 7), .int (nI dn), .ref (ad 8), .long ex, .long ey, .long eg, .int (nI cn), .ref (ad 9), .ref (ad 10), .int (nI sn), .int (nI (zp + 1)), .int (-1), .int (nI tn), .ref (ad 11), .ref (ad 12)])), (ad 1, .inl (G.2.1 2, 16, .inr (.inl px))), (ad 2, .inl (G.2.1 2, 16, .inr (.inl py))), (ad 3, .inl (G.2.1 2, 16, .inr (.inl pz))), (ad 4, .inl (G.2.1 2, 16, .inr (.inl gr))), (ad 5, .inl (G.2.1 2, 16, .inr (.inl ou))), (ad 6, .inl (G.2.1 2, 12, .inr (.inl fx))), (ad 7, .inl (G.2.1 2, 12, .inr (.inl fy))), (ad 8, .inl (G.2.1 1, 8, .inl od)), (ad 9, .inl (G.2.1 1, 12, .inl cr)), (ad 10, .inl (G.2.1 1, 200, .inl ty)), (ad 11, .inl (G.2.1 1, 48, .inl to_)), (ad 12, .inl (G.2.1 1, 48, .inl dr))]) H locs := hW
    refine lv_iconst (v := 0) gX gB dX6_readNumber_40 (by decide) ?_
    refine lv_istore_n (lv' := [(3, .int 0), (2, .int 1), (0, .ref (ad 0)), (1, .int 1)]) gX gB dX6_readNumber_41 rfl hl (by decide) rfl (fun ls hl => ?_)
    refine lv_iconst (v := 0) gX gB dX6_readNumber_42 (by decide) ?_
    refine lv_istore (lv' := [(4, .int 0), (3, .int 0), (2, .int 1), (0, .ref (ad 0)), (1, .int 1)]) gX gB dX6_readNumber_43 hl (by decide) rfl (fun ls hl => ?_)
    have hl : lv_has ls 5 [(4, .int (nI 0)), (3, .int (nI 0)), (2, .int 1), (0, .ref (ad 0)), (1, .int 1)] := hl
    have loop : ∀ (fu : Nat) (k p1 v : Nat), (5 - k < fu) → (k ≤ 5) → (p1 = (zp + 1) + k) → (p1 ≤ sn) → (dr_at t sn (5 - k) p1 v = dr_at t sn 5 (zp + 1) 0) → ∀ (H : Heap) (locs : List Loc), gx_W G A s ([(ad 0, .inr (11, [.int cd, .int (nI pn), .ref (ad 1), .ref (ad 2), .ref (ad 3), .ref (ad 4), .ref (ad 5), .int (nI fn), .ref (ad 6), .ref (ad 7), .int (nI dn), .ref (ad 8), .long ex, .long ey, .long eg, .int (nI cn), .ref (ad 9), .ref (ad 10), .int (nI sn), .int (nI p1), .int (-1), .int (nI tn), .ref (ad 11), .ref (ad 12)])), (ad 1, .inl (G.2.1 2, 16, .inr (.inl px))), (ad 2, .inl (G.2.1 2, 16, .inr (.inl py))), (ad 3, .inl (G.2.1 2, 16, .inr (.inl pz))), (ad 4, .inl (G.2.1 2, 16, .inr (.inl gr))), (ad 5, .inl (G.2.1 2, 16, .inr (.inl ou))), (ad 6, .inl (G.2.1 2, 12, .inr (.inl fx))), (ad 7, .inl (G.2.1 2, 12, .inr (.inl fy))), (ad 8, .inl (G.2.1 1, 8, .inl od)), (ad 9, .inl (G.2.1 1, 12, .inl cr)), (ad 10, .inl (G.2.1 1, 200, .inl ty)), (ad 11, .inl (G.2.1 1, 48, .inl to_)), (ad 12, .inl (G.2.1 1, 48, .inl dr))]) H locs → ∀ ls : Array Slot, lv_has ls 5 [(4, .int (nI k)), (3, .int (nI v)), (2, .int 1), (0, .ref (ad 0))] → W p l e ({ frames := 1, cells := 0, slots := 0, locals := 20 } : Room) s m args below meth c H locs 0 0 (MQ below (gx_Q G A (fun v9 u => v9 = some (.int (sg_v t sn zp)) ∧ u = [(ad 0, .inr (11, [.int cd, .int (nI pn), .ref (ad 1), .ref (ad 2), .ref (ad 3), .ref (ad 4), .ref (ad 5), .int (nI fn), .ref (ad 6), .ref (ad 7), .int (nI dn), .ref (ad 8), .long ex, .long ey, .long eg, .int (nI cn), .ref (ad 9), .ref (ad 10), .int (nI sn), .int (nI (sg_e t sn zp).1), .int (if sg_q t sn zp < (sg_e t sn zp).1 then -1 else nI (sg_e t sn zp).1), .int (nI tn), .ref (ad 11), .ref (ad 12)])), (ad 1, .inl (G.2.1 2, 16, .inr (.inl px))), (ad 2, .inl (G.2.1 2, 16, .inr (.inl py))), (ad 3, .inl (G.2.1 2, 16, .inr (.inl pz))), (ad 4, .inl (G.2.1 2, 16, .inr (.inl gr))), (ad 5, .inl (G.2.1 2, 16, .inr (.inl ou))), (ad 6, .inl (G.2.1 2, 12, .inr (.inl fx))), (ad 7, .inl (G.2.1 2, 12, .inr (.inl fy))), (ad 8, .inl (G.2.1 1, 8, .inl od)), (ad 9, .inl (G.2.1 1, 12, .inl cr)), (ad 10, .inl (G.2.1 1, 200, .inl ty)), (ad 11, .inl (G.2.1 1, 48, .inl to_)), (ad 12, .inl (G.2.1 1, 48, .inl dr))])) args s (({ frames := 1, cells := 0, slots := 0, locals := 20 } : Room)).cells (({ frames := 1, cells := 0, slots := 0, locals := 20 } : Room)).slots A) (F0 m 45 ls []) := by
      intro fu
      induction fu with
      | zero => intro k p1 v hfu hk hp1 hpn1 hR H locs hW ls hl; exact absurd hfu (Nat.not_lt_zero _)
      | succ fu ih =>
        intro k p1 v hfu hk hp1 hpn1 hR H locs hW ls hl
        have hcs : k = 5 ∨ (k < 5 ∧ (p1 < sn ∧ 48 ≤ t p1 ∧ t p1 ≤ 57)) ∨ (k < 5 ∧ ¬ (p1 < sn ∧ 48 ≤ t p1 ∧ t p1 ≤ 57) ∧ ¬ p1 < sn) ∨ (k < 5 ∧ ¬ (p1 < sn ∧ 48 ≤ t p1 ∧ t p1 ≤ 57) ∧ p1 < sn ∧ t p1 < 48) ∨ (k < 5 ∧ ¬ (p1 < sn ∧ 48 ≤ t p1 ∧ t p1 ≤ 57) ∧ p1 < sn ∧ 48 ≤ t p1 ∧ 57 < t p1) := by omega
        rcases hcs with hk5 | ⟨hk5, hdg⟩ | ⟨hk5, hdg, hpn⟩ | ⟨hk5, hdg, hpn, h48⟩ | ⟨hk5, hdg, hpn, h48, h57⟩
        · have hE : dr_at t sn 5 (zp + 1) 0 = (p1, v) := hR.symm.trans (by rw [show 5 - k = 0 by omega]; rfl)
          refine lv_iload gX gB dX6_readNumber_45 (lv_at hl 0 rfl) ?_
          refine lv_iconst (v := 5) gX gB dX6_readNumber_47 (by decide) ?_
          refine lv_icmp_ge (tgt := 98) gX gB dX6_readNumber_48 (by decide) (fun _ => ?_) (fun h9 => absurd (show (5 : Int32) ≤ (nI k) from (nI_leI (a := 5) (b := k) (by decide) (by omega)).mpr (by omega)) h9)
          rcases (by omega : k = 0 ∨ 0 < k) with hk0 | hk0
          · refine lv_iload gX gB dX6_readNumber_98 (lv_at hl 0 rfl) ?_
            refine lv_if_ne (tgt := 107) gX gB dX6_readNumber_100 (by decide) (fun h9 => absurd (show ¬ (nI k) = (0 : Int32) from h9) (by rw [hk0]; exact fun zz => zz rfl)) (fun _ => ?_)
            refine lv_aload_n gX gB dX6_readNumber_103 rfl (lv_at hl 3 rfl) ?_
            refine gx_callV (wr := []) (rest := []) C hW sX6_134 (kX6_fail l G ad cd pn fn dn cn sn tn ex ey eg (nI p1) fl px py pz gr ou fx fy od cr ty to_ dr) ⟨0, rfl⟩ rfl rfl ⟨(Nat.le_of_ble_eq_true rfl), (Nat.le_of_ble_eq_true rfl)⟩ hl.1 rfl (Nat.le_of_ble_eq_true rfl) dX6_readNumber_104 ⟨(Nat.le_of_ble_eq_true rfl), (Nat.le_of_ble_eq_true rfl)⟩ (fun v9 u9 H locs hp hW => ?_)
            obtain ⟨rfl, hu⟩ := hp
            rw [hu] at hW
            have hW : gx_W G A s ([(ad 0, .inr (11, [.int cd, .int (nI pn), .ref (ad 1), .ref (ad 2), .ref (ad 3), .ref (ad 4), .ref (ad 5), .int (nI fn), .ref (ad 6), .ref (ad 7), .int (nI dn), .ref (ad 8), .long ex, .long ey, .long eg, .int (nI cn), .ref (ad 9), .ref (ad 10), .int (nI sn), .int (nI p1), .int (nI p1), .int (nI tn), .ref (ad 11), .ref (ad 12)])), (ad 1, .inl (G.2.1 2, 16, .inr (.inl px))), (ad 2, .inl (G.2.1 2, 16, .inr (.inl py))), (ad 3, .inl (G.2.1 2, 16, .inr (.inl pz))), (ad 4, .inl (G.2.1 2, 16, .inr (.inl gr))), (ad 5, .inl (G.2.1 2, 16, .inr (.inl ou))), (ad 6, .inl (G.2.1 2, 12, .inr (.inl fx))), (ad 7, .inl (G.2.1 2, 12, .inr (.inl fy))), (ad 8, .inl (G.2.1 1, 8, .inl od)), (ad 9, .inl (G.2.1 1, 12, .inl cr)), (ad 10, .inl (G.2.1 1, 200, .inl ty)), (ad 11, .inl (G.2.1 1, 48, .inl to_)), (ad 12, .inl (G.2.1 1, 48, .inl dr))]) H locs := hW
            refine W.eq (g2 := F0 m 107 ls []) rfl ?_
            refine W.widen (k := 0) (n := 0) (Nat.le_of_ble_eq_true rfl) (Nat.le_of_ble_eq_true rfl) ?_
            refine lv_iload_n gX gB dX6_readNumber_107 rfl (lv_at hl 2 rfl) ?_
            refine lv_if_eq (tgt := 116) gX gB dX6_readNumber_108 (by decide) (fun h9 => absurd (show 1 = (0 : Int32) from h9) (by decide)) (fun _ => ?_)
            refine lv_iload_n gX gB dX6_readNumber_111 rfl (lv_at hl 1 rfl) ?_
            refine lv_ineg gX gB dX6_readNumber_112 ?_
            refine lv_goto (tgt := 117) gX gB dX6_readNumber_113 (by decide) ?_
            exact gx_iret C hr hW (⟨by rw [sg_v, if_pos hlt, sg_e, hsg, hE], by rw [sg_e, hsg, hE, if_neg (show ¬ (zp + 1) < (p1, v).1 from (by omega : ¬ (zp + 1) < p1))]⟩) (Nat.le_of_ble_eq_true rfl) (Nat.le_of_ble_eq_true rfl) dX6_readNumber_117
          · refine lv_iload gX gB dX6_readNumber_98 (lv_at hl 0 rfl) ?_
            refine lv_if_ne (tgt := 107) gX gB dX6_readNumber_100 (by decide) (fun _ => ?_) (fun h9 => absurd h9 (show ¬ (nI k) = (0 : Int32) from fun zz => absurd ((nI_eq (b := 0) (by omega) (by decide)).mp zz) (by omega)))
            refine lv_iload_n gX gB dX6_readNumber_107 rfl (lv_at hl 2 rfl) ?_
            refine lv_if_eq (tgt := 116) gX gB dX6_readNumber_108 (by decide) (fun h9 => absurd (show 1 = (0 : Int32) from h9) (by decide)) (fun _ => ?_)
            refine lv_iload_n gX gB dX6_readNumber_111 rfl (lv_at hl 1 rfl) ?_
            refine lv_ineg gX gB dX6_readNumber_112 ?_
            refine lv_goto (tgt := 117) gX gB dX6_readNumber_113 (by decide) ?_
            exact gx_iret C hr hW (⟨by rw [sg_v, if_pos hlt, sg_e, hsg, hE], by rw [sg_e, hsg, hE, if_pos (show (zp + 1) < (p1, v).1 from (by omega : (zp + 1) < p1))]⟩) (Nat.le_of_ble_eq_true rfl) (Nat.le_of_ble_eq_true rfl) dX6_readNumber_117
        · have h128 := ht8 p1 hdg.1
          refine lv_iload gX gB dX6_readNumber_45 (lv_at hl 0 rfl) ?_
          refine lv_iconst (v := 5) gX gB dX6_readNumber_47 (by decide) ?_
          refine lv_icmp_ge (tgt := 98) gX gB dX6_readNumber_48 (by decide) (fun h9 => absurd (show (5 : Int32) ≤ (nI k) from h9) (fun zz => absurd ((nI_leI (a := 5) (b := k) (by decide) (by omega)).mp zz) (by omega))) (fun _ => ?_)
          refine lv_aload_n gX gB dX6_readNumber_51 rfl (lv_at hl 3 rfl) ?_
          refine gx_callV (wr := []) (rest := []) C hW sX6_130 (kX6_here l G ad cd pn fn dn cn sn tn ex ey eg at0 (-1) px py pz gr ou fx fy od cr ty to_ dr t hsn hty ht8 p1 (by omega)) ⟨0, rfl⟩ rfl rfl ⟨(Nat.le_of_ble_eq_true rfl), (Nat.le_of_ble_eq_true rfl)⟩ hl.1 rfl (Nat.le_of_ble_eq_true rfl) dX6_readNumber_52 ⟨(Nat.le_of_ble_eq_true rfl), (Nat.le_of_ble_eq_true rfl)⟩ (fun v9 u9 H locs hp hW => ?_)
          obtain ⟨rfl, hu⟩ := hp
          rw [hu] at hW
          have hW : gx_W G A s ([(ad 0, .inr (11, [.int cd, .int (nI pn), .ref (ad 1), .ref (ad 2), .ref (ad 3), .ref (ad 4), .ref (ad 5), .int (nI fn), .ref (ad 6), .ref (ad 7), .int (nI dn), .ref (ad 8), .long ex, .long ey, .long eg, .int (nI cn), .ref (ad 9), .ref (ad 10), .int (nI sn), .int (nI p1), .int (-1), .int (nI tn), .ref (ad 11), .ref (ad 12)])), (ad 1, .inl (G.2.1 2, 16, .inr (.inl px))), (ad 2, .inl (G.2.1 2, 16, .inr (.inl py))), (ad 3, .inl (G.2.1 2, 16, .inr (.inl pz))), (ad 4, .inl (G.2.1 2, 16, .inr (.inl gr))), (ad 5, .inl (G.2.1 2, 16, .inr (.inl ou))), (ad 6, .inl (G.2.1 2, 12, .inr (.inl fx))), (ad 7, .inl (G.2.1 2, 12, .inr (.inl fy))), (ad 8, .inl (G.2.1 1, 8, .inl od)), (ad 9, .inl (G.2.1 1, 12, .inl cr)), (ad 10, .inl (G.2.1 1, 200, .inl ty)), (ad 11, .inl (G.2.1 1, 48, .inl to_)), (ad 12, .inl (G.2.1 1, 48, .inl dr))]) H locs := hW
          refine W.eq (g2 := F0 m 55 ls [.int (hr_v t sn p1)]) rfl ?_
          refine W.widen (k := 0) (n := 0) (Nat.le_of_ble_eq_true rfl) (Nat.le_of_ble_eq_true rfl) ?_
          refine lv_bipush (v := 48) gX gB dX6_readNumber_55 (by decide) ?_
          refine lv_icmp_lt (tgt := 98) gX gB dX6_readNumber_57 (by decide) (fun h9 => absurd (show (hr_v t sn p1) < (48 : Int32) from h9) (by rw [hr_1 hdg.1]; exact nI_nlt (a := t p1) (b := 48) hdg.2.1 (by omega))) (fun _ => ?_)
          refine lv_aload_n gX gB dX6_readNumber_60 rfl (lv_at hl 3 rfl) ?_
          refine gx_callV (wr := []) (rest := []) C hW sX6_130 (kX6_here l G ad cd pn fn dn cn sn tn ex ey eg at0 (-1) px py pz gr ou fx fy od cr ty to_ dr t hsn hty ht8 p1 (by omega)) ⟨0, rfl⟩ rfl rfl ⟨(Nat.le_of_ble_eq_true rfl), (Nat.le_of_ble_eq_true rfl)⟩ hl.1 rfl (Nat.le_of_ble_eq_true rfl) dX6_readNumber_61 ⟨(Nat.le_of_ble_eq_true rfl), (Nat.le_of_ble_eq_true rfl)⟩ (fun v9 u9 H locs hp hW => ?_)
          obtain ⟨rfl, hu⟩ := hp
          rw [hu] at hW
          have hW : gx_W G A s ([(ad 0, .inr (11, [.int cd, .int (nI pn), .ref (ad 1), .ref (ad 2), .ref (ad 3), .ref (ad 4), .ref (ad 5), .int (nI fn), .ref (ad 6), .ref (ad 7), .int (nI dn), .ref (ad 8), .long ex, .long ey, .long eg, .int (nI cn), .ref (ad 9), .ref (ad 10), .int (nI sn), .int (nI p1), .int (-1), .int (nI tn), .ref (ad 11), .ref (ad 12)])), (ad 1, .inl (G.2.1 2, 16, .inr (.inl px))), (ad 2, .inl (G.2.1 2, 16, .inr (.inl py))), (ad 3, .inl (G.2.1 2, 16, .inr (.inl pz))), (ad 4, .inl (G.2.1 2, 16, .inr (.inl gr))), (ad 5, .inl (G.2.1 2, 16, .inr (.inl ou))), (ad 6, .inl (G.2.1 2, 12, .inr (.inl fx))), (ad 7, .inl (G.2.1 2, 12, .inr (.inl fy))), (ad 8, .inl (G.2.1 1, 8, .inl od)), (ad 9, .inl (G.2.1 1, 12, .inl cr)), (ad 10, .inl (G.2.1 1, 200, .inl ty)), (ad 11, .inl (G.2.1 1, 48, .inl to_)), (ad 12, .inl (G.2.1 1, 48, .inl dr))]) H locs := hW
          refine W.eq (g2 := F0 m 64 ls [.int (hr_v t sn p1)]) rfl ?_
          refine W.widen (k := 0) (n := 0) (Nat.le_of_ble_eq_true rfl) (Nat.le_of_ble_eq_true rfl) ?_
          refine lv_bipush (v := 57) gX gB dX6_readNumber_64 (by decide) ?_
          refine lv_icmp_gt (tgt := 98) gX gB dX6_readNumber_66 (by decide) (fun h9 => absurd (show (57 : Int32) < (hr_v t sn p1) from h9) (by rw [hr_1 hdg.1]; exact nI_nlt (a := 57) (b := t p1) hdg.2.2 (by decide))) (fun _ => ?_)
          refine lv_bipush (v := 10) gX gB dX6_readNumber_69 (by decide) ?_
          refine lv_iload_n gX gB dX6_readNumber_71 rfl (lv_at hl 1 rfl) ?_
          refine lv_imul gX gB dX6_readNumber_72 ?_
          refine lv_aload_n gX gB dX6_readNumber_73 rfl (lv_at hl 3 rfl) ?_
          refine gx_callV (wr := []) (rest := [.int (10 * (nI v))]) C hW sX6_130 (kX6_here l G ad cd pn fn dn cn sn tn ex ey eg at0 (-1) px py pz gr ou fx fy od cr ty to_ dr t hsn hty ht8 p1 (by omega)) ⟨0, rfl⟩ rfl rfl ⟨(Nat.le_of_ble_eq_true rfl), (Nat.le_of_ble_eq_true rfl)⟩ hl.1 rfl (Nat.le_of_ble_eq_true rfl) dX6_readNumber_74 ⟨(Nat.le_of_ble_eq_true rfl), (Nat.le_of_ble_eq_true rfl)⟩ (fun v9 u9 H locs hp hW => ?_)
          obtain ⟨rfl, hu⟩ := hp
          rw [hu] at hW
          have hW : gx_W G A s ([(ad 0, .inr (11, [.int cd, .int (nI pn), .ref (ad 1), .ref (ad 2), .ref (ad 3), .ref (ad 4), .ref (ad 5), .int (nI fn), .ref (ad 6), .ref (ad 7), .int (nI dn), .ref (ad 8), .long ex, .long ey, .long eg, .int (nI cn), .ref (ad 9), .ref (ad 10), .int (nI sn), .int (nI p1), .int (-1), .int (nI tn), .ref (ad 11), .ref (ad 12)])), (ad 1, .inl (G.2.1 2, 16, .inr (.inl px))), (ad 2, .inl (G.2.1 2, 16, .inr (.inl py))), (ad 3, .inl (G.2.1 2, 16, .inr (.inl pz))), (ad 4, .inl (G.2.1 2, 16, .inr (.inl gr))), (ad 5, .inl (G.2.1 2, 16, .inr (.inl ou))), (ad 6, .inl (G.2.1 2, 12, .inr (.inl fx))), (ad 7, .inl (G.2.1 2, 12, .inr (.inl fy))), (ad 8, .inl (G.2.1 1, 8, .inl od)), (ad 9, .inl (G.2.1 1, 12, .inl cr)), (ad 10, .inl (G.2.1 1, 200, .inl ty)), (ad 11, .inl (G.2.1 1, 48, .inl to_)), (ad 12, .inl (G.2.1 1, 48, .inl dr))]) H locs := hW
          refine W.eq (g2 := F0 m 77 ls [.int (hr_v t sn p1), .int (10 * (nI v))]) rfl ?_
          refine W.widen (k := 0) (n := 0) (Nat.le_of_ble_eq_true rfl) (Nat.le_of_ble_eq_true rfl) ?_
          refine lv_iadd gX gB dX6_readNumber_77 ?_
          refine lv_bipush (v := 48) gX gB dX6_readNumber_78 (by decide) ?_
          refine lv_isub gX gB dX6_readNumber_80 ?_
          refine gx_topi (show (((10 * (nI v)) + (hr_v t sn p1)) - 48) = nI (10 * v + (t p1 - 48)) from rn_add hdg) ?_
          refine lv_istore_n (lv' := [(3, .int (nI (10 * v + (t p1 - 48)))), (4, .int (nI k)), (2, .int 1), (0, .ref (ad 0))]) gX gB dX6_readNumber_81 rfl hl (by decide) rfl (fun ls hl => ?_)
          refine lv_iinc (v := nI (k + 1)) (lv' := [(4, .int (nI (k + 1))), (3, .int (nI (10 * v + (t p1 - 48)))), (2, .int 1), (0, .ref (ad 0))]) gX gB dX6_readNumber_82 hl (k := 1) rfl (by exact nI_1 k) (by decide) rfl (fun ls hl => ?_)
          refine lv_aload_n gX gB dX6_readNumber_85 rfl (lv_at hl 3 rfl) ?_
          refine lv_dup gX gB dX6_readNumber_86 rfl ?_
          refine gx_get C hW fX6_124 ⟨0, rfl⟩ rfl dX6_readNumber_87 ?_
          refine lv_iconst (v := 1) gX gB dX6_readNumber_90 (by decide) ?_
          refine lv_iadd gX gB dX6_readNumber_91 ?_
          refine gx_topi (show ((nI p1) + 1) = nI (p1 + 1) from nI_1 p1) ?_
          refine gx_putE C hW clX6 fX6_124 0 rfl (Or.inl rfl) rfl rfl (Nat.le_of_ble_eq_true rfl) dX6_readNumber_92 (fun H locs hW => ?_)
          have hW : gx_W G A s ([(ad 0, .inr (11, [.int cd, .int (nI pn), .ref (ad 1), .ref (ad 2), .ref (ad 3), .ref (ad 4), .ref (ad 5), .int (nI fn), .ref (ad 6), .ref (ad 7), .int (nI dn), .ref (ad 8), .long ex, .long ey, .long eg, .int (nI cn), .ref (ad 9), .ref (ad 10), .int (nI sn), .int (nI (p1 + 1)), .int (-1), .int (nI tn), .ref (ad 11), .ref (ad 12)])), (ad 1, .inl (G.2.1 2, 16, .inr (.inl px))), (ad 2, .inl (G.2.1 2, 16, .inr (.inl py))), (ad 3, .inl (G.2.1 2, 16, .inr (.inl pz))), (ad 4, .inl (G.2.1 2, 16, .inr (.inl gr))), (ad 5, .inl (G.2.1 2, 16, .inr (.inl ou))), (ad 6, .inl (G.2.1 2, 12, .inr (.inl fx))), (ad 7, .inl (G.2.1 2, 12, .inr (.inl fy))), (ad 8, .inl (G.2.1 1, 8, .inl od)), (ad 9, .inl (G.2.1 1, 12, .inl cr)), (ad 10, .inl (G.2.1 1, 200, .inl ty)), (ad 11, .inl (G.2.1 1, 48, .inl to_)), (ad 12, .inl (G.2.1 1, 48, .inl dr))]) H locs := hW
          refine lv_goto (tgt := 45) gX gB dX6_readNumber_95 (by decide) ?_
          exact ih (k + 1) (p1 + 1) (10 * v + (t p1 - 48)) (by omega) (by omega) (by omega) (by omega) ((dg_step hk5 hdg).symm.trans hR) _ _ hW ls (lv_sub hl [0, 1, 2, 3] rfl)
        · have hE : dr_at t sn 5 (zp + 1) 0 = (p1, v) := hR.symm.trans (dg_stop hdg)
          refine lv_iload gX gB dX6_readNumber_45 (lv_at hl 0 rfl) ?_
          refine lv_iconst (v := 5) gX gB dX6_readNumber_47 (by decide) ?_
          refine lv_icmp_ge (tgt := 98) gX gB dX6_readNumber_48 (by decide) (fun h9 => absurd (show (5 : Int32) ≤ (nI k) from h9) (fun zz => absurd ((nI_leI (a := 5) (b := k) (by decide) (by omega)).mp zz) (by omega))) (fun _ => ?_)
          refine lv_aload_n gX gB dX6_readNumber_51 rfl (lv_at hl 3 rfl) ?_
          refine gx_callV (wr := []) (rest := []) C hW sX6_130 (kX6_here l G ad cd pn fn dn cn sn tn ex ey eg at0 (-1) px py pz gr ou fx fy od cr ty to_ dr t hsn hty ht8 p1 (by omega)) ⟨0, rfl⟩ rfl rfl ⟨(Nat.le_of_ble_eq_true rfl), (Nat.le_of_ble_eq_true rfl)⟩ hl.1 rfl (Nat.le_of_ble_eq_true rfl) dX6_readNumber_52 ⟨(Nat.le_of_ble_eq_true rfl), (Nat.le_of_ble_eq_true rfl)⟩ (fun v9 u9 H locs hp hW => ?_)
          obtain ⟨rfl, hu⟩ := hp
          rw [hu] at hW
          have hW : gx_W G A s ([(ad 0, .inr (11, [.int cd, .int (nI pn), .ref (ad 1), .ref (ad 2), .ref (ad 3), .ref (ad 4), .ref (ad 5), .int (nI fn), .ref (ad 6), .ref (ad 7), .int (nI dn), .ref (ad 8), .long ex, .long ey, .long eg, .int (nI cn), .ref (ad 9), .ref (ad 10), .int (nI sn), .int (nI p1), .int (-1), .int (nI tn), .ref (ad 11), .ref (ad 12)])), (ad 1, .inl (G.2.1 2, 16, .inr (.inl px))), (ad 2, .inl (G.2.1 2, 16, .inr (.inl py))), (ad 3, .inl (G.2.1 2, 16, .inr (.inl pz))), (ad 4, .inl (G.2.1 2, 16, .inr (.inl gr))), (ad 5, .inl (G.2.1 2, 16, .inr (.inl ou))), (ad 6, .inl (G.2.1 2, 12, .inr (.inl fx))), (ad 7, .inl (G.2.1 2, 12, .inr (.inl fy))), (ad 8, .inl (G.2.1 1, 8, .inl od)), (ad 9, .inl (G.2.1 1, 12, .inl cr)), (ad 10, .inl (G.2.1 1, 200, .inl ty)), (ad 11, .inl (G.2.1 1, 48, .inl to_)), (ad 12, .inl (G.2.1 1, 48, .inl dr))]) H locs := hW
          refine W.eq (g2 := F0 m 55 ls [.int (hr_v t sn p1)]) rfl ?_
          refine W.widen (k := 0) (n := 0) (Nat.le_of_ble_eq_true rfl) (Nat.le_of_ble_eq_true rfl) ?_
          refine lv_bipush (v := 48) gX gB dX6_readNumber_55 (by decide) ?_
          refine lv_icmp_lt (tgt := 98) gX gB dX6_readNumber_57 (by decide) (fun _ => ?_) (fun h9 => absurd (show (hr_v t sn p1) < (48 : Int32) from by rw [hr_0 hpn]; decide) h9)
          rcases (by omega : k = 0 ∨ 0 < k) with hk0 | hk0
          · refine lv_iload gX gB dX6_readNumber_98 (lv_at hl 0 rfl) ?_
            refine lv_if_ne (tgt := 107) gX gB dX6_readNumber_100 (by decide) (fun h9 => absurd (show ¬ (nI k) = (0 : Int32) from h9) (by rw [hk0]; exact fun zz => zz rfl)) (fun _ => ?_)
            refine lv_aload_n gX gB dX6_readNumber_103 rfl (lv_at hl 3 rfl) ?_
            refine gx_callV (wr := []) (rest := []) C hW sX6_134 (kX6_fail l G ad cd pn fn dn cn sn tn ex ey eg (nI p1) fl px py pz gr ou fx fy od cr ty to_ dr) ⟨0, rfl⟩ rfl rfl ⟨(Nat.le_of_ble_eq_true rfl), (Nat.le_of_ble_eq_true rfl)⟩ hl.1 rfl (Nat.le_of_ble_eq_true rfl) dX6_readNumber_104 ⟨(Nat.le_of_ble_eq_true rfl), (Nat.le_of_ble_eq_true rfl)⟩ (fun v9 u9 H locs hp hW => ?_)
            obtain ⟨rfl, hu⟩ := hp
            rw [hu] at hW
            have hW : gx_W G A s ([(ad 0, .inr (11, [.int cd, .int (nI pn), .ref (ad 1), .ref (ad 2), .ref (ad 3), .ref (ad 4), .ref (ad 5), .int (nI fn), .ref (ad 6), .ref (ad 7), .int (nI dn), .ref (ad 8), .long ex, .long ey, .long eg, .int (nI cn), .ref (ad 9), .ref (ad 10), .int (nI sn), .int (nI p1), .int (nI p1), .int (nI tn), .ref (ad 11), .ref (ad 12)])), (ad 1, .inl (G.2.1 2, 16, .inr (.inl px))), (ad 2, .inl (G.2.1 2, 16, .inr (.inl py))), (ad 3, .inl (G.2.1 2, 16, .inr (.inl pz))), (ad 4, .inl (G.2.1 2, 16, .inr (.inl gr))), (ad 5, .inl (G.2.1 2, 16, .inr (.inl ou))), (ad 6, .inl (G.2.1 2, 12, .inr (.inl fx))), (ad 7, .inl (G.2.1 2, 12, .inr (.inl fy))), (ad 8, .inl (G.2.1 1, 8, .inl od)), (ad 9, .inl (G.2.1 1, 12, .inl cr)), (ad 10, .inl (G.2.1 1, 200, .inl ty)), (ad 11, .inl (G.2.1 1, 48, .inl to_)), (ad 12, .inl (G.2.1 1, 48, .inl dr))]) H locs := hW
            refine W.eq (g2 := F0 m 107 ls []) rfl ?_
            refine W.widen (k := 0) (n := 0) (Nat.le_of_ble_eq_true rfl) (Nat.le_of_ble_eq_true rfl) ?_
            refine lv_iload_n gX gB dX6_readNumber_107 rfl (lv_at hl 2 rfl) ?_
            refine lv_if_eq (tgt := 116) gX gB dX6_readNumber_108 (by decide) (fun h9 => absurd (show 1 = (0 : Int32) from h9) (by decide)) (fun _ => ?_)
            refine lv_iload_n gX gB dX6_readNumber_111 rfl (lv_at hl 1 rfl) ?_
            refine lv_ineg gX gB dX6_readNumber_112 ?_
            refine lv_goto (tgt := 117) gX gB dX6_readNumber_113 (by decide) ?_
            exact gx_iret C hr hW (⟨by rw [sg_v, if_pos hlt, sg_e, hsg, hE], by rw [sg_e, hsg, hE, if_neg (show ¬ (zp + 1) < (p1, v).1 from (by omega : ¬ (zp + 1) < p1))]⟩) (Nat.le_of_ble_eq_true rfl) (Nat.le_of_ble_eq_true rfl) dX6_readNumber_117
          · refine lv_iload gX gB dX6_readNumber_98 (lv_at hl 0 rfl) ?_
            refine lv_if_ne (tgt := 107) gX gB dX6_readNumber_100 (by decide) (fun _ => ?_) (fun h9 => absurd h9 (show ¬ (nI k) = (0 : Int32) from fun zz => absurd ((nI_eq (b := 0) (by omega) (by decide)).mp zz) (by omega)))
            refine lv_iload_n gX gB dX6_readNumber_107 rfl (lv_at hl 2 rfl) ?_
            refine lv_if_eq (tgt := 116) gX gB dX6_readNumber_108 (by decide) (fun h9 => absurd (show 1 = (0 : Int32) from h9) (by decide)) (fun _ => ?_)
            refine lv_iload_n gX gB dX6_readNumber_111 rfl (lv_at hl 1 rfl) ?_
            refine lv_ineg gX gB dX6_readNumber_112 ?_
            refine lv_goto (tgt := 117) gX gB dX6_readNumber_113 (by decide) ?_
            exact gx_iret C hr hW (⟨by rw [sg_v, if_pos hlt, sg_e, hsg, hE], by rw [sg_e, hsg, hE, if_pos (show (zp + 1) < (p1, v).1 from (by omega : (zp + 1) < p1))]⟩) (Nat.le_of_ble_eq_true rfl) (Nat.le_of_ble_eq_true rfl) dX6_readNumber_117
        · have hE : dr_at t sn 5 (zp + 1) 0 = (p1, v) := hR.symm.trans (dg_stop hdg)
          refine lv_iload gX gB dX6_readNumber_45 (lv_at hl 0 rfl) ?_
          refine lv_iconst (v := 5) gX gB dX6_readNumber_47 (by decide) ?_
          refine lv_icmp_ge (tgt := 98) gX gB dX6_readNumber_48 (by decide) (fun h9 => absurd (show (5 : Int32) ≤ (nI k) from h9) (fun zz => absurd ((nI_leI (a := 5) (b := k) (by decide) (by omega)).mp zz) (by omega))) (fun _ => ?_)
          refine lv_aload_n gX gB dX6_readNumber_51 rfl (lv_at hl 3 rfl) ?_
          refine gx_callV (wr := []) (rest := []) C hW sX6_130 (kX6_here l G ad cd pn fn dn cn sn tn ex ey eg at0 (-1) px py pz gr ou fx fy od cr ty to_ dr t hsn hty ht8 p1 (by omega)) ⟨0, rfl⟩ rfl rfl ⟨(Nat.le_of_ble_eq_true rfl), (Nat.le_of_ble_eq_true rfl)⟩ hl.1 rfl (Nat.le_of_ble_eq_true rfl) dX6_readNumber_52 ⟨(Nat.le_of_ble_eq_true rfl), (Nat.le_of_ble_eq_true rfl)⟩ (fun v9 u9 H locs hp hW => ?_)
          obtain ⟨rfl, hu⟩ := hp
          rw [hu] at hW
          have hW : gx_W G A s ([(ad 0, .inr (11, [.int cd, .int (nI pn), .ref (ad 1), .ref (ad 2), .ref (ad 3), .ref (ad 4), .ref (ad 5), .int (nI fn), .ref (ad 6), .ref (ad 7), .int (nI dn), .ref (ad 8), .long ex, .long ey, .long eg, .int (nI cn), .ref (ad 9), .ref (ad 10), .int (nI sn), .int (nI p1), .int (-1), .int (nI tn), .ref (ad 11), .ref (ad 12)])), (ad 1, .inl (G.2.1 2, 16, .inr (.inl px))), (ad 2, .inl (G.2.1 2, 16, .inr (.inl py))), (ad 3, .inl (G.2.1 2, 16, .inr (.inl pz))), (ad 4, .inl (G.2.1 2, 16, .inr (.inl gr))), (ad 5, .inl (G.2.1 2, 16, .inr (.inl ou))), (ad 6, .inl (G.2.1 2, 12, .inr (.inl fx))), (ad 7, .inl (G.2.1 2, 12, .inr (.inl fy))), (ad 8, .inl (G.2.1 1, 8, .inl od)), (ad 9, .inl (G.2.1 1, 12, .inl cr)), (ad 10, .inl (G.2.1 1, 200, .inl ty)), (ad 11, .inl (G.2.1 1, 48, .inl to_)), (ad 12, .inl (G.2.1 1, 48, .inl dr))]) H locs := hW
          refine W.eq (g2 := F0 m 55 ls [.int (hr_v t sn p1)]) rfl ?_
          refine W.widen (k := 0) (n := 0) (Nat.le_of_ble_eq_true rfl) (Nat.le_of_ble_eq_true rfl) ?_
          refine lv_bipush (v := 48) gX gB dX6_readNumber_55 (by decide) ?_
          refine lv_icmp_lt (tgt := 98) gX gB dX6_readNumber_57 (by decide) (fun _ => ?_) (fun h9 => absurd (show (hr_v t sn p1) < (48 : Int32) from by rw [hr_1 hpn]; exact nI_lt (a := t p1) (b := 48) h48 (by decide)) h9)
          rcases (by omega : k = 0 ∨ 0 < k) with hk0 | hk0
          · refine lv_iload gX gB dX6_readNumber_98 (lv_at hl 0 rfl) ?_
            refine lv_if_ne (tgt := 107) gX gB dX6_readNumber_100 (by decide) (fun h9 => absurd (show ¬ (nI k) = (0 : Int32) from h9) (by rw [hk0]; exact fun zz => zz rfl)) (fun _ => ?_)
            refine lv_aload_n gX gB dX6_readNumber_103 rfl (lv_at hl 3 rfl) ?_
            refine gx_callV (wr := []) (rest := []) C hW sX6_134 (kX6_fail l G ad cd pn fn dn cn sn tn ex ey eg (nI p1) fl px py pz gr ou fx fy od cr ty to_ dr) ⟨0, rfl⟩ rfl rfl ⟨(Nat.le_of_ble_eq_true rfl), (Nat.le_of_ble_eq_true rfl)⟩ hl.1 rfl (Nat.le_of_ble_eq_true rfl) dX6_readNumber_104 ⟨(Nat.le_of_ble_eq_true rfl), (Nat.le_of_ble_eq_true rfl)⟩ (fun v9 u9 H locs hp hW => ?_)
            obtain ⟨rfl, hu⟩ := hp
            rw [hu] at hW
            have hW : gx_W G A s ([(ad 0, .inr (11, [.int cd, .int (nI pn), .ref (ad 1), .ref (ad 2), .ref (ad 3), .ref (ad 4), .ref (ad 5), .int (nI fn), .ref (ad 6), .ref (ad 7), .int (nI dn), .ref (ad 8), .long ex, .long ey, .long eg, .int (nI cn), .ref (ad 9), .ref (ad 10), .int (nI sn), .int (nI p1), .int (nI p1), .int (nI tn), .ref (ad 11), .ref (ad 12)])), (ad 1, .inl (G.2.1 2, 16, .inr (.inl px))), (ad 2, .inl (G.2.1 2, 16, .inr (.inl py))), (ad 3, .inl (G.2.1 2, 16, .inr (.inl pz))), (ad 4, .inl (G.2.1 2, 16, .inr (.inl gr))), (ad 5, .inl (G.2.1 2, 16, .inr (.inl ou))), (ad 6, .inl (G.2.1 2, 12, .inr (.inl fx))), (ad 7, .inl (G.2.1 2, 12, .inr (.inl fy))), (ad 8, .inl (G.2.1 1, 8, .inl od)), (ad 9, .inl (G.2.1 1, 12, .inl cr)), (ad 10, .inl (G.2.1 1, 200, .inl ty)), (ad 11, .inl (G.2.1 1, 48, .inl to_)), (ad 12, .inl (G.2.1 1, 48, .inl dr))]) H locs := hW
            refine W.eq (g2 := F0 m 107 ls []) rfl ?_
            refine W.widen (k := 0) (n := 0) (Nat.le_of_ble_eq_true rfl) (Nat.le_of_ble_eq_true rfl) ?_
            refine lv_iload_n gX gB dX6_readNumber_107 rfl (lv_at hl 2 rfl) ?_
            refine lv_if_eq (tgt := 116) gX gB dX6_readNumber_108 (by decide) (fun h9 => absurd (show 1 = (0 : Int32) from h9) (by decide)) (fun _ => ?_)
            refine lv_iload_n gX gB dX6_readNumber_111 rfl (lv_at hl 1 rfl) ?_
            refine lv_ineg gX gB dX6_readNumber_112 ?_
            refine lv_goto (tgt := 117) gX gB dX6_readNumber_113 (by decide) ?_
            exact gx_iret C hr hW (⟨by rw [sg_v, if_pos hlt, sg_e, hsg, hE], by rw [sg_e, hsg, hE, if_neg (show ¬ (zp + 1) < (p1, v).1 from (by omega : ¬ (zp + 1) < p1))]⟩) (Nat.le_of_ble_eq_true rfl) (Nat.le_of_ble_eq_true rfl) dX6_readNumber_117
          · refine lv_iload gX gB dX6_readNumber_98 (lv_at hl 0 rfl) ?_
            refine lv_if_ne (tgt := 107) gX gB dX6_readNumber_100 (by decide) (fun _ => ?_) (fun h9 => absurd h9 (show ¬ (nI k) = (0 : Int32) from fun zz => absurd ((nI_eq (b := 0) (by omega) (by decide)).mp zz) (by omega)))
            refine lv_iload_n gX gB dX6_readNumber_107 rfl (lv_at hl 2 rfl) ?_
            refine lv_if_eq (tgt := 116) gX gB dX6_readNumber_108 (by decide) (fun h9 => absurd (show 1 = (0 : Int32) from h9) (by decide)) (fun _ => ?_)
            refine lv_iload_n gX gB dX6_readNumber_111 rfl (lv_at hl 1 rfl) ?_
            refine lv_ineg gX gB dX6_readNumber_112 ?_
            refine lv_goto (tgt := 117) gX gB dX6_readNumber_113 (by decide) ?_
            exact gx_iret C hr hW (⟨by rw [sg_v, if_pos hlt, sg_e, hsg, hE], by rw [sg_e, hsg, hE, if_pos (show (zp + 1) < (p1, v).1 from (by omega : (zp + 1) < p1))]⟩) (Nat.le_of_ble_eq_true rfl) (Nat.le_of_ble_eq_true rfl) dX6_readNumber_117
        · have hE : dr_at t sn 5 (zp + 1) 0 = (p1, v) := hR.symm.trans (dg_stop hdg)
          have h128 := ht8 p1 hpn
          refine lv_iload gX gB dX6_readNumber_45 (lv_at hl 0 rfl) ?_
          refine lv_iconst (v := 5) gX gB dX6_readNumber_47 (by decide) ?_
          refine lv_icmp_ge (tgt := 98) gX gB dX6_readNumber_48 (by decide) (fun h9 => absurd (show (5 : Int32) ≤ (nI k) from h9) (fun zz => absurd ((nI_leI (a := 5) (b := k) (by decide) (by omega)).mp zz) (by omega))) (fun _ => ?_)
          refine lv_aload_n gX gB dX6_readNumber_51 rfl (lv_at hl 3 rfl) ?_
          refine gx_callV (wr := []) (rest := []) C hW sX6_130 (kX6_here l G ad cd pn fn dn cn sn tn ex ey eg at0 (-1) px py pz gr ou fx fy od cr ty to_ dr t hsn hty ht8 p1 (by omega)) ⟨0, rfl⟩ rfl rfl ⟨(Nat.le_of_ble_eq_true rfl), (Nat.le_of_ble_eq_true rfl)⟩ hl.1 rfl (Nat.le_of_ble_eq_true rfl) dX6_readNumber_52 ⟨(Nat.le_of_ble_eq_true rfl), (Nat.le_of_ble_eq_true rfl)⟩ (fun v9 u9 H locs hp hW => ?_)
          obtain ⟨rfl, hu⟩ := hp
          rw [hu] at hW
          have hW : gx_W G A s ([(ad 0, .inr (11, [.int cd, .int (nI pn), .ref (ad 1), .ref (ad 2), .ref (ad 3), .ref (ad 4), .ref (ad 5), .int (nI fn), .ref (ad 6), .ref (ad 7), .int (nI dn), .ref (ad 8), .long ex, .long ey, .long eg, .int (nI cn), .ref (ad 9), .ref (ad 10), .int (nI sn), .int (nI p1), .int (-1), .int (nI tn), .ref (ad 11), .ref (ad 12)])), (ad 1, .inl (G.2.1 2, 16, .inr (.inl px))), (ad 2, .inl (G.2.1 2, 16, .inr (.inl py))), (ad 3, .inl (G.2.1 2, 16, .inr (.inl pz))), (ad 4, .inl (G.2.1 2, 16, .inr (.inl gr))), (ad 5, .inl (G.2.1 2, 16, .inr (.inl ou))), (ad 6, .inl (G.2.1 2, 12, .inr (.inl fx))), (ad 7, .inl (G.2.1 2, 12, .inr (.inl fy))), (ad 8, .inl (G.2.1 1, 8, .inl od)), (ad 9, .inl (G.2.1 1, 12, .inl cr)), (ad 10, .inl (G.2.1 1, 200, .inl ty)), (ad 11, .inl (G.2.1 1, 48, .inl to_)), (ad 12, .inl (G.2.1 1, 48, .inl dr))]) H locs := hW
          refine W.eq (g2 := F0 m 55 ls [.int (hr_v t sn p1)]) rfl ?_
          refine W.widen (k := 0) (n := 0) (Nat.le_of_ble_eq_true rfl) (Nat.le_of_ble_eq_true rfl) ?_
          refine lv_bipush (v := 48) gX gB dX6_readNumber_55 (by decide) ?_
          refine lv_icmp_lt (tgt := 98) gX gB dX6_readNumber_57 (by decide) (fun h9 => absurd (show (hr_v t sn p1) < (48 : Int32) from h9) (by rw [hr_1 hpn]; exact nI_nlt (a := t p1) (b := 48) h48 (by omega))) (fun _ => ?_)
          refine lv_aload_n gX gB dX6_readNumber_60 rfl (lv_at hl 3 rfl) ?_
          refine gx_callV (wr := []) (rest := []) C hW sX6_130 (kX6_here l G ad cd pn fn dn cn sn tn ex ey eg at0 (-1) px py pz gr ou fx fy od cr ty to_ dr t hsn hty ht8 p1 (by omega)) ⟨0, rfl⟩ rfl rfl ⟨(Nat.le_of_ble_eq_true rfl), (Nat.le_of_ble_eq_true rfl)⟩ hl.1 rfl (Nat.le_of_ble_eq_true rfl) dX6_readNumber_61 ⟨(Nat.le_of_ble_eq_true rfl), (Nat.le_of_ble_eq_true rfl)⟩ (fun v9 u9 H locs hp hW => ?_)
          obtain ⟨rfl, hu⟩ := hp
          rw [hu] at hW
          have hW : gx_W G A s ([(ad 0, .inr (11, [.int cd, .int (nI pn), .ref (ad 1), .ref (ad 2), .ref (ad 3), .ref (ad 4), .ref (ad 5), .int (nI fn), .ref (ad 6), .ref (ad 7), .int (nI dn), .ref (ad 8), .long ex, .long ey, .long eg, .int (nI cn), .ref (ad 9), .ref (ad 10), .int (nI sn), .int (nI p1), .int (-1), .int (nI tn), .ref (ad 11), .ref (ad 12)])), (ad 1, .inl (G.2.1 2, 16, .inr (.inl px))), (ad 2, .inl (G.2.1 2, 16, .inr (.inl py))), (ad 3, .inl (G.2.1 2, 16, .inr (.inl pz))), (ad 4, .inl (G.2.1 2, 16, .inr (.inl gr))), (ad 5, .inl (G.2.1 2, 16, .inr (.inl ou))), (ad 6, .inl (G.2.1 2, 12, .inr (.inl fx))), (ad 7, .inl (G.2.1 2, 12, .inr (.inl fy))), (ad 8, .inl (G.2.1 1, 8, .inl od)), (ad 9, .inl (G.2.1 1, 12, .inl cr)), (ad 10, .inl (G.2.1 1, 200, .inl ty)), (ad 11, .inl (G.2.1 1, 48, .inl to_)), (ad 12, .inl (G.2.1 1, 48, .inl dr))]) H locs := hW
          refine W.eq (g2 := F0 m 64 ls [.int (hr_v t sn p1)]) rfl ?_
          refine W.widen (k := 0) (n := 0) (Nat.le_of_ble_eq_true rfl) (Nat.le_of_ble_eq_true rfl) ?_
          refine lv_bipush (v := 57) gX gB dX6_readNumber_64 (by decide) ?_
          refine lv_icmp_gt (tgt := 98) gX gB dX6_readNumber_66 (by decide) (fun _ => ?_) (fun h9 => absurd (show (57 : Int32) < (hr_v t sn p1) from by rw [hr_1 hpn]; exact nI_lt (a := 57) (b := t p1) h57 (by omega)) h9)
          rcases (by omega : k = 0 ∨ 0 < k) with hk0 | hk0
          · refine lv_iload gX gB dX6_readNumber_98 (lv_at hl 0 rfl) ?_
            refine lv_if_ne (tgt := 107) gX gB dX6_readNumber_100 (by decide) (fun h9 => absurd (show ¬ (nI k) = (0 : Int32) from h9) (by rw [hk0]; exact fun zz => zz rfl)) (fun _ => ?_)
            refine lv_aload_n gX gB dX6_readNumber_103 rfl (lv_at hl 3 rfl) ?_
            refine gx_callV (wr := []) (rest := []) C hW sX6_134 (kX6_fail l G ad cd pn fn dn cn sn tn ex ey eg (nI p1) fl px py pz gr ou fx fy od cr ty to_ dr) ⟨0, rfl⟩ rfl rfl ⟨(Nat.le_of_ble_eq_true rfl), (Nat.le_of_ble_eq_true rfl)⟩ hl.1 rfl (Nat.le_of_ble_eq_true rfl) dX6_readNumber_104 ⟨(Nat.le_of_ble_eq_true rfl), (Nat.le_of_ble_eq_true rfl)⟩ (fun v9 u9 H locs hp hW => ?_)
            obtain ⟨rfl, hu⟩ := hp
            rw [hu] at hW
            have hW : gx_W G A s ([(ad 0, .inr (11, [.int cd, .int (nI pn), .ref (ad 1), .ref (ad 2), .ref (ad 3), .ref (ad 4), .ref (ad 5), .int (nI fn), .ref (ad 6), .ref (ad 7), .int (nI dn), .ref (ad 8), .long ex, .long ey, .long eg, .int (nI cn), .ref (ad 9), .ref (ad 10), .int (nI sn), .int (nI p1), .int (nI p1), .int (nI tn), .ref (ad 11), .ref (ad 12)])), (ad 1, .inl (G.2.1 2, 16, .inr (.inl px))), (ad 2, .inl (G.2.1 2, 16, .inr (.inl py))), (ad 3, .inl (G.2.1 2, 16, .inr (.inl pz))), (ad 4, .inl (G.2.1 2, 16, .inr (.inl gr))), (ad 5, .inl (G.2.1 2, 16, .inr (.inl ou))), (ad 6, .inl (G.2.1 2, 12, .inr (.inl fx))), (ad 7, .inl (G.2.1 2, 12, .inr (.inl fy))), (ad 8, .inl (G.2.1 1, 8, .inl od)), (ad 9, .inl (G.2.1 1, 12, .inl cr)), (ad 10, .inl (G.2.1 1, 200, .inl ty)), (ad 11, .inl (G.2.1 1, 48, .inl to_)), (ad 12, .inl (G.2.1 1, 48, .inl dr))]) H locs := hW
            refine W.eq (g2 := F0 m 107 ls []) rfl ?_
            refine W.widen (k := 0) (n := 0) (Nat.le_of_ble_eq_true rfl) (Nat.le_of_ble_eq_true rfl) ?_
            refine lv_iload_n gX gB dX6_readNumber_107 rfl (lv_at hl 2 rfl) ?_
            refine lv_if_eq (tgt := 116) gX gB dX6_readNumber_108 (by decide) (fun h9 => absurd (show 1 = (0 : Int32) from h9) (by decide)) (fun _ => ?_)
            refine lv_iload_n gX gB dX6_readNumber_111 rfl (lv_at hl 1 rfl) ?_
            refine lv_ineg gX gB dX6_readNumber_112 ?_
            refine lv_goto (tgt := 117) gX gB dX6_readNumber_113 (by decide) ?_
            exact gx_iret C hr hW (⟨by rw [sg_v, if_pos hlt, sg_e, hsg, hE], by rw [sg_e, hsg, hE, if_neg (show ¬ (zp + 1) < (p1, v).1 from (by omega : ¬ (zp + 1) < p1))]⟩) (Nat.le_of_ble_eq_true rfl) (Nat.le_of_ble_eq_true rfl) dX6_readNumber_117
          · refine lv_iload gX gB dX6_readNumber_98 (lv_at hl 0 rfl) ?_
            refine lv_if_ne (tgt := 107) gX gB dX6_readNumber_100 (by decide) (fun _ => ?_) (fun h9 => absurd h9 (show ¬ (nI k) = (0 : Int32) from fun zz => absurd ((nI_eq (b := 0) (by omega) (by decide)).mp zz) (by omega)))
            refine lv_iload_n gX gB dX6_readNumber_107 rfl (lv_at hl 2 rfl) ?_
            refine lv_if_eq (tgt := 116) gX gB dX6_readNumber_108 (by decide) (fun h9 => absurd (show 1 = (0 : Int32) from h9) (by decide)) (fun _ => ?_)
            refine lv_iload_n gX gB dX6_readNumber_111 rfl (lv_at hl 1 rfl) ?_
            refine lv_ineg gX gB dX6_readNumber_112 ?_
            refine lv_goto (tgt := 117) gX gB dX6_readNumber_113 (by decide) ?_
            exact gx_iret C hr hW (⟨by rw [sg_v, if_pos hlt, sg_e, hsg, hE], by rw [sg_e, hsg, hE, if_pos (show (zp + 1) < (p1, v).1 from (by omega : (zp + 1) < p1))]⟩) (Nat.le_of_ble_eq_true rfl) (Nat.le_of_ble_eq_true rfl) dX6_readNumber_117
    exact loop 6 0 (zp + 1) 0 (by omega) (by omega) (by omega) hq9 rfl _ _ hW ls (lv_sub hl [0, 1, 2, 3] rfl)
  · have hq9 : zp ≤ sn := hp9
    have hsg : sg_q t sn zp = zp := if_neg hlt
    refine lv_bipush (v := 45) gX gB dX6_readNumber_8 (by decide) ?_
    refine lv_icmp_ne (tgt := 17) gX gB dX6_readNumber_10 (by decide) (fun _ => ?_) (fun h9 => absurd h9 (show ¬ (hr_v t sn zp) = (45 : Int32) from fun zz => hlt ((hr_eq (ch := 45) ht8 (by decide)).mp zz)))
    refine lv_iconst (v := 0) gX gB dX6_readNumber_17 (by decide) ?_
    refine lv_istore_n (lv' := [(2, .int 0), (0, .ref (ad 0)), (1, .int 1)]) gX gB dX6_readNumber_18 rfl hl (by decide) rfl (fun ls hl => ?_)
    refine lv_aload_n gX gB dX6_readNumber_19 rfl (lv_at hl 1 rfl) ?_
    refine lv_iload_n gX gB dX6_readNumber_20 rfl (lv_at hl 0 rfl) ?_
    refine lv_if_eq (tgt := 33) gX gB dX6_readNumber_21 (by decide) (fun _ => ?_) (fun h9 => absurd (show 0 = (0 : Int32) from by decide) h9)
    refine lv_aload_n gX gB dX6_readNumber_33 rfl (lv_at hl 1 rfl) ?_
    refine gx_get C hW fX6_124 ⟨0, rfl⟩ rfl dX6_readNumber_34 ?_
    refine gx_putE C hW clX6 fX6_124 0 rfl (Or.inl rfl) rfl rfl (Nat.le_of_ble_eq_true rfl) dX6_readNumber_37 (fun H locs hW => ?_)
    have hW : gx_W G A s ([(ad 0, .inr (11, [.int cd, .int (nI pn), .ref (ad 1), .ref (ad 2), .ref (ad 3), .ref (ad 4), .ref (ad 5), .int (nI fn), .ref (ad 6), .ref (ad 7), .int (nI dn), .ref (ad 8), .long ex, .long ey, .long eg, .int (nI cn), .ref (ad 9), .ref (ad 10), .int (nI sn), .int (nI zp), .int (-1), .int (nI tn), .ref (ad 11), .ref (ad 12)])), (ad 1, .inl (G.2.1 2, 16, .inr (.inl px))), (ad 2, .inl (G.2.1 2, 16, .inr (.inl py))), (ad 3, .inl (G.2.1 2, 16, .inr (.inl pz))), (ad 4, .inl (G.2.1 2, 16, .inr (.inl gr))), (ad 5, .inl (G.2.1 2, 16, .inr (.inl ou))), (ad 6, .inl (G.2.1 2, 12, .inr (.inl fx))), (ad 7, .inl (G.2.1 2, 12, .inr (.inl fy))), (ad 8, .inl (G.2.1 1, 8, .inl od)), (ad 9, .inl (G.2.1 1, 12, .inl cr)), (ad 10, .inl (G.2.1 1, 200, .inl ty)), (ad 11, .inl (G.2.1 1, 48, .inl to_)), (ad 12, .inl (G.2.1 1, 48, .inl dr))]) H locs := hW
    refine lv_iconst (v := 0) gX gB dX6_readNumber_40 (by decide) ?_
    refine lv_istore_n (lv' := [(3, .int 0), (2, .int 0), (0, .ref (ad 0)), (1, .int 1)]) gX gB dX6_readNumber_41 rfl hl (by decide) rfl (fun ls hl => ?_)
    refine lv_iconst (v := 0) gX gB dX6_readNumber_42 (by decide) ?_
    refine lv_istore (lv' := [(4, .int 0), (3, .int 0), (2, .int 0), (0, .ref (ad 0)), (1, .int 1)]) gX gB dX6_readNumber_43 hl (by decide) rfl (fun ls hl => ?_)
    have hl : lv_has ls 5 [(4, .int (nI 0)), (3, .int (nI 0)), (2, .int 0), (0, .ref (ad 0)), (1, .int 1)] := hl
    have loop : ∀ (fu : Nat) (k p1 v : Nat), (5 - k < fu) → (k ≤ 5) → (p1 = zp + k) → (p1 ≤ sn) → (dr_at t sn (5 - k) p1 v = dr_at t sn 5 zp 0) → ∀ (H : Heap) (locs : List Loc), gx_W G A s ([(ad 0, .inr (11, [.int cd, .int (nI pn), .ref (ad 1), .ref (ad 2), .ref (ad 3), .ref (ad 4), .ref (ad 5), .int (nI fn), .ref (ad 6), .ref (ad 7), .int (nI dn), .ref (ad 8), .long ex, .long ey, .long eg, .int (nI cn), .ref (ad 9), .ref (ad 10), .int (nI sn), .int (nI p1), .int (-1), .int (nI tn), .ref (ad 11), .ref (ad 12)])), (ad 1, .inl (G.2.1 2, 16, .inr (.inl px))), (ad 2, .inl (G.2.1 2, 16, .inr (.inl py))), (ad 3, .inl (G.2.1 2, 16, .inr (.inl pz))), (ad 4, .inl (G.2.1 2, 16, .inr (.inl gr))), (ad 5, .inl (G.2.1 2, 16, .inr (.inl ou))), (ad 6, .inl (G.2.1 2, 12, .inr (.inl fx))), (ad 7, .inl (G.2.1 2, 12, .inr (.inl fy))), (ad 8, .inl (G.2.1 1, 8, .inl od)), (ad 9, .inl (G.2.1 1, 12, .inl cr)), (ad 10, .inl (G.2.1 1, 200, .inl ty)), (ad 11, .inl (G.2.1 1, 48, .inl to_)), (ad 12, .inl (G.2.1 1, 48, .inl dr))]) H locs → ∀ ls : Array Slot, lv_has ls 5 [(4, .int (nI k)), (3, .int (nI v)), (2, .int 0), (0, .ref (ad 0))] → W p l e ({ frames := 1, cells := 0, slots := 0, locals := 20 } : Room) s m args below meth c H locs 0 0 (MQ below (gx_Q G A (fun v9 u => v9 = some (.int (sg_v t sn zp)) ∧ u = [(ad 0, .inr (11, [.int cd, .int (nI pn), .ref (ad 1), .ref (ad 2), .ref (ad 3), .ref (ad 4), .ref (ad 5), .int (nI fn), .ref (ad 6), .ref (ad 7), .int (nI dn), .ref (ad 8), .long ex, .long ey, .long eg, .int (nI cn), .ref (ad 9), .ref (ad 10), .int (nI sn), .int (nI (sg_e t sn zp).1), .int (if sg_q t sn zp < (sg_e t sn zp).1 then -1 else nI (sg_e t sn zp).1), .int (nI tn), .ref (ad 11), .ref (ad 12)])), (ad 1, .inl (G.2.1 2, 16, .inr (.inl px))), (ad 2, .inl (G.2.1 2, 16, .inr (.inl py))), (ad 3, .inl (G.2.1 2, 16, .inr (.inl pz))), (ad 4, .inl (G.2.1 2, 16, .inr (.inl gr))), (ad 5, .inl (G.2.1 2, 16, .inr (.inl ou))), (ad 6, .inl (G.2.1 2, 12, .inr (.inl fx))), (ad 7, .inl (G.2.1 2, 12, .inr (.inl fy))), (ad 8, .inl (G.2.1 1, 8, .inl od)), (ad 9, .inl (G.2.1 1, 12, .inl cr)), (ad 10, .inl (G.2.1 1, 200, .inl ty)), (ad 11, .inl (G.2.1 1, 48, .inl to_)), (ad 12, .inl (G.2.1 1, 48, .inl dr))])) args s (({ frames := 1, cells := 0, slots := 0, locals := 20 } : Room)).cells (({ frames := 1, cells := 0, slots := 0, locals := 20 } : Room)).slots A) (F0 m 45 ls []) := by
      intro fu
      induction fu with
      | zero => intro k p1 v hfu hk hp1 hpn1 hR H locs hW ls hl; exact absurd hfu (Nat.not_lt_zero _)
      | succ fu ih =>
        intro k p1 v hfu hk hp1 hpn1 hR H locs hW ls hl
        have hcs : k = 5 ∨ (k < 5 ∧ (p1 < sn ∧ 48 ≤ t p1 ∧ t p1 ≤ 57)) ∨ (k < 5 ∧ ¬ (p1 < sn ∧ 48 ≤ t p1 ∧ t p1 ≤ 57) ∧ ¬ p1 < sn) ∨ (k < 5 ∧ ¬ (p1 < sn ∧ 48 ≤ t p1 ∧ t p1 ≤ 57) ∧ p1 < sn ∧ t p1 < 48) ∨ (k < 5 ∧ ¬ (p1 < sn ∧ 48 ≤ t p1 ∧ t p1 ≤ 57) ∧ p1 < sn ∧ 48 ≤ t p1 ∧ 57 < t p1) := by omega
        rcases hcs with hk5 | ⟨hk5, hdg⟩ | ⟨hk5, hdg, hpn⟩ | ⟨hk5, hdg, hpn, h48⟩ | ⟨hk5, hdg, hpn, h48, h57⟩
        · have hE : dr_at t sn 5 zp 0 = (p1, v) := hR.symm.trans (by rw [show 5 - k = 0 by omega]; rfl)
          refine lv_iload gX gB dX6_readNumber_45 (lv_at hl 0 rfl) ?_
          refine lv_iconst (v := 5) gX gB dX6_readNumber_47 (by decide) ?_
          refine lv_icmp_ge (tgt := 98) gX gB dX6_readNumber_48 (by decide) (fun _ => ?_) (fun h9 => absurd (show (5 : Int32) ≤ (nI k) from (nI_leI (a := 5) (b := k) (by decide) (by omega)).mpr (by omega)) h9)
          rcases (by omega : k = 0 ∨ 0 < k) with hk0 | hk0
          · refine lv_iload gX gB dX6_readNumber_98 (lv_at hl 0 rfl) ?_
            refine lv_if_ne (tgt := 107) gX gB dX6_readNumber_100 (by decide) (fun h9 => absurd (show ¬ (nI k) = (0 : Int32) from h9) (by rw [hk0]; exact fun zz => zz rfl)) (fun _ => ?_)
            refine lv_aload_n gX gB dX6_readNumber_103 rfl (lv_at hl 3 rfl) ?_
            refine gx_callV (wr := []) (rest := []) C hW sX6_134 (kX6_fail l G ad cd pn fn dn cn sn tn ex ey eg (nI p1) fl px py pz gr ou fx fy od cr ty to_ dr) ⟨0, rfl⟩ rfl rfl ⟨(Nat.le_of_ble_eq_true rfl), (Nat.le_of_ble_eq_true rfl)⟩ hl.1 rfl (Nat.le_of_ble_eq_true rfl) dX6_readNumber_104 ⟨(Nat.le_of_ble_eq_true rfl), (Nat.le_of_ble_eq_true rfl)⟩ (fun v9 u9 H locs hp hW => ?_)
            obtain ⟨rfl, hu⟩ := hp
            rw [hu] at hW
            have hW : gx_W G A s ([(ad 0, .inr (11, [.int cd, .int (nI pn), .ref (ad 1), .ref (ad 2), .ref (ad 3), .ref (ad 4), .ref (ad 5), .int (nI fn), .ref (ad 6), .ref (ad 7), .int (nI dn), .ref (ad 8), .long ex, .long ey, .long eg, .int (nI cn), .ref (ad 9), .ref (ad 10), .int (nI sn), .int (nI p1), .int (nI p1), .int (nI tn), .ref (ad 11), .ref (ad 12)])), (ad 1, .inl (G.2.1 2, 16, .inr (.inl px))), (ad 2, .inl (G.2.1 2, 16, .inr (.inl py))), (ad 3, .inl (G.2.1 2, 16, .inr (.inl pz))), (ad 4, .inl (G.2.1 2, 16, .inr (.inl gr))), (ad 5, .inl (G.2.1 2, 16, .inr (.inl ou))), (ad 6, .inl (G.2.1 2, 12, .inr (.inl fx))), (ad 7, .inl (G.2.1 2, 12, .inr (.inl fy))), (ad 8, .inl (G.2.1 1, 8, .inl od)), (ad 9, .inl (G.2.1 1, 12, .inl cr)), (ad 10, .inl (G.2.1 1, 200, .inl ty)), (ad 11, .inl (G.2.1 1, 48, .inl to_)), (ad 12, .inl (G.2.1 1, 48, .inl dr))]) H locs := hW
            refine W.eq (g2 := F0 m 107 ls []) rfl ?_
            refine W.widen (k := 0) (n := 0) (Nat.le_of_ble_eq_true rfl) (Nat.le_of_ble_eq_true rfl) ?_
            refine lv_iload_n gX gB dX6_readNumber_107 rfl (lv_at hl 2 rfl) ?_
            refine lv_if_eq (tgt := 116) gX gB dX6_readNumber_108 (by decide) (fun _ => ?_) (fun h9 => absurd (show 0 = (0 : Int32) from by decide) h9)
            refine lv_iload_n gX gB dX6_readNumber_116 rfl (lv_at hl 1 rfl) ?_
            exact gx_iret C hr hW (⟨by rw [sg_v, if_neg hlt, sg_e, hsg, hE], by rw [sg_e, hsg, hE, if_neg (show ¬ zp < (p1, v).1 from (by omega : ¬ zp < p1))]⟩) (Nat.le_of_ble_eq_true rfl) (Nat.le_of_ble_eq_true rfl) dX6_readNumber_117
          · refine lv_iload gX gB dX6_readNumber_98 (lv_at hl 0 rfl) ?_
            refine lv_if_ne (tgt := 107) gX gB dX6_readNumber_100 (by decide) (fun _ => ?_) (fun h9 => absurd h9 (show ¬ (nI k) = (0 : Int32) from fun zz => absurd ((nI_eq (b := 0) (by omega) (by decide)).mp zz) (by omega)))
            refine lv_iload_n gX gB dX6_readNumber_107 rfl (lv_at hl 2 rfl) ?_
            refine lv_if_eq (tgt := 116) gX gB dX6_readNumber_108 (by decide) (fun _ => ?_) (fun h9 => absurd (show 0 = (0 : Int32) from by decide) h9)
            refine lv_iload_n gX gB dX6_readNumber_116 rfl (lv_at hl 1 rfl) ?_
            exact gx_iret C hr hW (⟨by rw [sg_v, if_neg hlt, sg_e, hsg, hE], by rw [sg_e, hsg, hE, if_pos (show zp < (p1, v).1 from (by omega : zp < p1))]⟩) (Nat.le_of_ble_eq_true rfl) (Nat.le_of_ble_eq_true rfl) dX6_readNumber_117
        · have h128 := ht8 p1 hdg.1
          refine lv_iload gX gB dX6_readNumber_45 (lv_at hl 0 rfl) ?_
          refine lv_iconst (v := 5) gX gB dX6_readNumber_47 (by decide) ?_
          refine lv_icmp_ge (tgt := 98) gX gB dX6_readNumber_48 (by decide) (fun h9 => absurd (show (5 : Int32) ≤ (nI k) from h9) (fun zz => absurd ((nI_leI (a := 5) (b := k) (by decide) (by omega)).mp zz) (by omega))) (fun _ => ?_)
          refine lv_aload_n gX gB dX6_readNumber_51 rfl (lv_at hl 3 rfl) ?_
          refine gx_callV (wr := []) (rest := []) C hW sX6_130 (kX6_here l G ad cd pn fn dn cn sn tn ex ey eg at0 (-1) px py pz gr ou fx fy od cr ty to_ dr t hsn hty ht8 p1 (by omega)) ⟨0, rfl⟩ rfl rfl ⟨(Nat.le_of_ble_eq_true rfl), (Nat.le_of_ble_eq_true rfl)⟩ hl.1 rfl (Nat.le_of_ble_eq_true rfl) dX6_readNumber_52 ⟨(Nat.le_of_ble_eq_true rfl), (Nat.le_of_ble_eq_true rfl)⟩ (fun v9 u9 H locs hp hW => ?_)
          obtain ⟨rfl, hu⟩ := hp
          rw [hu] at hW
          have hW : gx_W G A s ([(ad 0, .inr (11, [.int cd, .int (nI pn), .ref (ad 1), .ref (ad 2), .ref (ad 3), .ref (ad 4), .ref (ad 5), .int (nI fn), .ref (ad 6), .ref (ad 7), .int (nI dn), .ref (ad 8), .long ex, .long ey, .long eg, .int (nI cn), .ref (ad 9), .ref (ad 10), .int (nI sn), .int (nI p1), .int (-1), .int (nI tn), .ref (ad 11), .ref (ad 12)])), (ad 1, .inl (G.2.1 2, 16, .inr (.inl px))), (ad 2, .inl (G.2.1 2, 16, .inr (.inl py))), (ad 3, .inl (G.2.1 2, 16, .inr (.inl pz))), (ad 4, .inl (G.2.1 2, 16, .inr (.inl gr))), (ad 5, .inl (G.2.1 2, 16, .inr (.inl ou))), (ad 6, .inl (G.2.1 2, 12, .inr (.inl fx))), (ad 7, .inl (G.2.1 2, 12, .inr (.inl fy))), (ad 8, .inl (G.2.1 1, 8, .inl od)), (ad 9, .inl (G.2.1 1, 12, .inl cr)), (ad 10, .inl (G.2.1 1, 200, .inl ty)), (ad 11, .inl (G.2.1 1, 48, .inl to_)), (ad 12, .inl (G.2.1 1, 48, .inl dr))]) H locs := hW
          refine W.eq (g2 := F0 m 55 ls [.int (hr_v t sn p1)]) rfl ?_
          refine W.widen (k := 0) (n := 0) (Nat.le_of_ble_eq_true rfl) (Nat.le_of_ble_eq_true rfl) ?_
          refine lv_bipush (v := 48) gX gB dX6_readNumber_55 (by decide) ?_
          refine lv_icmp_lt (tgt := 98) gX gB dX6_readNumber_57 (by decide) (fun h9 => absurd (show (hr_v t sn p1) < (48 : Int32) from h9) (by rw [hr_1 hdg.1]; exact nI_nlt (a := t p1) (b := 48) hdg.2.1 (by omega))) (fun _ => ?_)
          refine lv_aload_n gX gB dX6_readNumber_60 rfl (lv_at hl 3 rfl) ?_
          refine gx_callV (wr := []) (rest := []) C hW sX6_130 (kX6_here l G ad cd pn fn dn cn sn tn ex ey eg at0 (-1) px py pz gr ou fx fy od cr ty to_ dr t hsn hty ht8 p1 (by omega)) ⟨0, rfl⟩ rfl rfl ⟨(Nat.le_of_ble_eq_true rfl), (Nat.le_of_ble_eq_true rfl)⟩ hl.1 rfl (Nat.le_of_ble_eq_true rfl) dX6_readNumber_61 ⟨(Nat.le_of_ble_eq_true rfl), (Nat.le_of_ble_eq_true rfl)⟩ (fun v9 u9 H locs hp hW => ?_)
          obtain ⟨rfl, hu⟩ := hp
          rw [hu] at hW
          have hW : gx_W G A s ([(ad 0, .inr (11, [.int cd, .int (nI pn), .ref (ad 1), .ref (ad 2), .ref (ad 3), .ref (ad 4), .ref (ad 5), .int (nI fn), .ref (ad 6), .ref (ad 7), .int (nI dn), .ref (ad 8), .long ex, .long ey, .long eg, .int (nI cn), .ref (ad 9), .ref (ad 10), .int (nI sn), .int (nI p1), .int (-1), .int (nI tn), .ref (ad 11), .ref (ad 12)])), (ad 1, .inl (G.2.1 2, 16, .inr (.inl px))), (ad 2, .inl (G.2.1 2, 16, .inr (.inl py))), (ad 3, .inl (G.2.1 2, 16, .inr (.inl pz))), (ad 4, .inl (G.2.1 2, 16, .inr (.inl gr))), (ad 5, .inl (G.2.1 2, 16, .inr (.inl ou))), (ad 6, .inl (G.2.1 2, 12, .inr (.inl fx))), (ad 7, .inl (G.2.1 2, 12, .inr (.inl fy))), (ad 8, .inl (G.2.1 1, 8, .inl od)), (ad 9, .inl (G.2.1 1, 12, .inl cr)), (ad 10, .inl (G.2.1 1, 200, .inl ty)), (ad 11, .inl (G.2.1 1, 48, .inl to_)), (ad 12, .inl (G.2.1 1, 48, .inl dr))]) H locs := hW
          refine W.eq (g2 := F0 m 64 ls [.int (hr_v t sn p1)]) rfl ?_
          refine W.widen (k := 0) (n := 0) (Nat.le_of_ble_eq_true rfl) (Nat.le_of_ble_eq_true rfl) ?_
          refine lv_bipush (v := 57) gX gB dX6_readNumber_64 (by decide) ?_
          refine lv_icmp_gt (tgt := 98) gX gB dX6_readNumber_66 (by decide) (fun h9 => absurd (show (57 : Int32) < (hr_v t sn p1) from h9) (by rw [hr_1 hdg.1]; exact nI_nlt (a := 57) (b := t p1) hdg.2.2 (by decide))) (fun _ => ?_)
          refine lv_bipush (v := 10) gX gB dX6_readNumber_69 (by decide) ?_
          refine lv_iload_n gX gB dX6_readNumber_71 rfl (lv_at hl 1 rfl) ?_
          refine lv_imul gX gB dX6_readNumber_72 ?_
          refine lv_aload_n gX gB dX6_readNumber_73 rfl (lv_at hl 3 rfl) ?_
          refine gx_callV (wr := []) (rest := [.int (10 * (nI v))]) C hW sX6_130 (kX6_here l G ad cd pn fn dn cn sn tn ex ey eg at0 (-1) px py pz gr ou fx fy od cr ty to_ dr t hsn hty ht8 p1 (by omega)) ⟨0, rfl⟩ rfl rfl ⟨(Nat.le_of_ble_eq_true rfl), (Nat.le_of_ble_eq_true rfl)⟩ hl.1 rfl (Nat.le_of_ble_eq_true rfl) dX6_readNumber_74 ⟨(Nat.le_of_ble_eq_true rfl), (Nat.le_of_ble_eq_true rfl)⟩ (fun v9 u9 H locs hp hW => ?_)
          obtain ⟨rfl, hu⟩ := hp
          rw [hu] at hW
          have hW : gx_W G A s ([(ad 0, .inr (11, [.int cd, .int (nI pn), .ref (ad 1), .ref (ad 2), .ref (ad 3), .ref (ad 4), .ref (ad 5), .int (nI fn), .ref (ad 6), .ref (ad 7), .int (nI dn), .ref (ad 8), .long ex, .long ey, .long eg, .int (nI cn), .ref (ad 9), .ref (ad 10), .int (nI sn), .int (nI p1), .int (-1), .int (nI tn), .ref (ad 11), .ref (ad 12)])), (ad 1, .inl (G.2.1 2, 16, .inr (.inl px))), (ad 2, .inl (G.2.1 2, 16, .inr (.inl py))), (ad 3, .inl (G.2.1 2, 16, .inr (.inl pz))), (ad 4, .inl (G.2.1 2, 16, .inr (.inl gr))), (ad 5, .inl (G.2.1 2, 16, .inr (.inl ou))), (ad 6, .inl (G.2.1 2, 12, .inr (.inl fx))), (ad 7, .inl (G.2.1 2, 12, .inr (.inl fy))), (ad 8, .inl (G.2.1 1, 8, .inl od)), (ad 9, .inl (G.2.1 1, 12, .inl cr)), (ad 10, .inl (G.2.1 1, 200, .inl ty)), (ad 11, .inl (G.2.1 1, 48, .inl to_)), (ad 12, .inl (G.2.1 1, 48, .inl dr))]) H locs := hW
          refine W.eq (g2 := F0 m 77 ls [.int (hr_v t sn p1), .int (10 * (nI v))]) rfl ?_
          refine W.widen (k := 0) (n := 0) (Nat.le_of_ble_eq_true rfl) (Nat.le_of_ble_eq_true rfl) ?_
          refine lv_iadd gX gB dX6_readNumber_77 ?_
          refine lv_bipush (v := 48) gX gB dX6_readNumber_78 (by decide) ?_
          refine lv_isub gX gB dX6_readNumber_80 ?_
          refine gx_topi (show (((10 * (nI v)) + (hr_v t sn p1)) - 48) = nI (10 * v + (t p1 - 48)) from rn_add hdg) ?_
          refine lv_istore_n (lv' := [(3, .int (nI (10 * v + (t p1 - 48)))), (4, .int (nI k)), (2, .int 0), (0, .ref (ad 0))]) gX gB dX6_readNumber_81 rfl hl (by decide) rfl (fun ls hl => ?_)
          refine lv_iinc (v := nI (k + 1)) (lv' := [(4, .int (nI (k + 1))), (3, .int (nI (10 * v + (t p1 - 48)))), (2, .int 0), (0, .ref (ad 0))]) gX gB dX6_readNumber_82 hl (k := 1) rfl (by exact nI_1 k) (by decide) rfl (fun ls hl => ?_)
          refine lv_aload_n gX gB dX6_readNumber_85 rfl (lv_at hl 3 rfl) ?_
          refine lv_dup gX gB dX6_readNumber_86 rfl ?_
          refine gx_get C hW fX6_124 ⟨0, rfl⟩ rfl dX6_readNumber_87 ?_
          refine lv_iconst (v := 1) gX gB dX6_readNumber_90 (by decide) ?_
          refine lv_iadd gX gB dX6_readNumber_91 ?_
          refine gx_topi (show ((nI p1) + 1) = nI (p1 + 1) from nI_1 p1) ?_
          refine gx_putE C hW clX6 fX6_124 0 rfl (Or.inl rfl) rfl rfl (Nat.le_of_ble_eq_true rfl) dX6_readNumber_92 (fun H locs hW => ?_)
          have hW : gx_W G A s ([(ad 0, .inr (11, [.int cd, .int (nI pn), .ref (ad 1), .ref (ad 2), .ref (ad 3), .ref (ad 4), .ref (ad 5), .int (nI fn), .ref (ad 6), .ref (ad 7), .int (nI dn), .ref (ad 8), .long ex, .long ey, .long eg, .int (nI cn), .ref (ad 9), .ref (ad 10), .int (nI sn), .int (nI (p1 + 1)), .int (-1), .int (nI tn), .ref (ad 11), .ref (ad 12)])), (ad 1, .inl (G.2.1 2, 16, .inr (.inl px))), (ad 2, .inl (G.2.1 2, 16, .inr (.inl py))), (ad 3, .inl (G.2.1 2, 16, .inr (.inl pz))), (ad 4, .inl (G.2.1 2, 16, .inr (.inl gr))), (ad 5, .inl (G.2.1 2, 16, .inr (.inl ou))), (ad 6, .inl (G.2.1 2, 12, .inr (.inl fx))), (ad 7, .inl (G.2.1 2, 12, .inr (.inl fy))), (ad 8, .inl (G.2.1 1, 8, .inl od)), (ad 9, .inl (G.2.1 1, 12, .inl cr)), (ad 10, .inl (G.2.1 1, 200, .inl ty)), (ad 11, .inl (G.2.1 1, 48, .inl to_)), (ad 12, .inl (G.2.1 1, 48, .inl dr))]) H locs := hW
          refine lv_goto (tgt := 45) gX gB dX6_readNumber_95 (by decide) ?_
          exact ih (k + 1) (p1 + 1) (10 * v + (t p1 - 48)) (by omega) (by omega) (by omega) (by omega) ((dg_step hk5 hdg).symm.trans hR) _ _ hW ls (lv_sub hl [0, 1, 2, 3] rfl)
        · have hE : dr_at t sn 5 zp 0 = (p1, v) := hR.symm.trans (dg_stop hdg)
          refine lv_iload gX gB dX6_readNumber_45 (lv_at hl 0 rfl) ?_
          refine lv_iconst (v := 5) gX gB dX6_readNumber_47 (by decide) ?_
          refine lv_icmp_ge (tgt := 98) gX gB dX6_readNumber_48 (by decide) (fun h9 => absurd (show (5 : Int32) ≤ (nI k) from h9) (fun zz => absurd ((nI_leI (a := 5) (b := k) (by decide) (by omega)).mp zz) (by omega))) (fun _ => ?_)
          refine lv_aload_n gX gB dX6_readNumber_51 rfl (lv_at hl 3 rfl) ?_
          refine gx_callV (wr := []) (rest := []) C hW sX6_130 (kX6_here l G ad cd pn fn dn cn sn tn ex ey eg at0 (-1) px py pz gr ou fx fy od cr ty to_ dr t hsn hty ht8 p1 (by omega)) ⟨0, rfl⟩ rfl rfl ⟨(Nat.le_of_ble_eq_true rfl), (Nat.le_of_ble_eq_true rfl)⟩ hl.1 rfl (Nat.le_of_ble_eq_true rfl) dX6_readNumber_52 ⟨(Nat.le_of_ble_eq_true rfl), (Nat.le_of_ble_eq_true rfl)⟩ (fun v9 u9 H locs hp hW => ?_)
          obtain ⟨rfl, hu⟩ := hp
          rw [hu] at hW
          have hW : gx_W G A s ([(ad 0, .inr (11, [.int cd, .int (nI pn), .ref (ad 1), .ref (ad 2), .ref (ad 3), .ref (ad 4), .ref (ad 5), .int (nI fn), .ref (ad 6), .ref (ad 7), .int (nI dn), .ref (ad 8), .long ex, .long ey, .long eg, .int (nI cn), .ref (ad 9), .ref (ad 10), .int (nI sn), .int (nI p1), .int (-1), .int (nI tn), .ref (ad 11), .ref (ad 12)])), (ad 1, .inl (G.2.1 2, 16, .inr (.inl px))), (ad 2, .inl (G.2.1 2, 16, .inr (.inl py))), (ad 3, .inl (G.2.1 2, 16, .inr (.inl pz))), (ad 4, .inl (G.2.1 2, 16, .inr (.inl gr))), (ad 5, .inl (G.2.1 2, 16, .inr (.inl ou))), (ad 6, .inl (G.2.1 2, 12, .inr (.inl fx))), (ad 7, .inl (G.2.1 2, 12, .inr (.inl fy))), (ad 8, .inl (G.2.1 1, 8, .inl od)), (ad 9, .inl (G.2.1 1, 12, .inl cr)), (ad 10, .inl (G.2.1 1, 200, .inl ty)), (ad 11, .inl (G.2.1 1, 48, .inl to_)), (ad 12, .inl (G.2.1 1, 48, .inl dr))]) H locs := hW
          refine W.eq (g2 := F0 m 55 ls [.int (hr_v t sn p1)]) rfl ?_
          refine W.widen (k := 0) (n := 0) (Nat.le_of_ble_eq_true rfl) (Nat.le_of_ble_eq_true rfl) ?_
          refine lv_bipush (v := 48) gX gB dX6_readNumber_55 (by decide) ?_
          refine lv_icmp_lt (tgt := 98) gX gB dX6_readNumber_57 (by decide) (fun _ => ?_) (fun h9 => absurd (show (hr_v t sn p1) < (48 : Int32) from by rw [hr_0 hpn]; decide) h9)
          rcases (by omega : k = 0 ∨ 0 < k) with hk0 | hk0
          · refine lv_iload gX gB dX6_readNumber_98 (lv_at hl 0 rfl) ?_
            refine lv_if_ne (tgt := 107) gX gB dX6_readNumber_100 (by decide) (fun h9 => absurd (show ¬ (nI k) = (0 : Int32) from h9) (by rw [hk0]; exact fun zz => zz rfl)) (fun _ => ?_)
            refine lv_aload_n gX gB dX6_readNumber_103 rfl (lv_at hl 3 rfl) ?_
            refine gx_callV (wr := []) (rest := []) C hW sX6_134 (kX6_fail l G ad cd pn fn dn cn sn tn ex ey eg (nI p1) fl px py pz gr ou fx fy od cr ty to_ dr) ⟨0, rfl⟩ rfl rfl ⟨(Nat.le_of_ble_eq_true rfl), (Nat.le_of_ble_eq_true rfl)⟩ hl.1 rfl (Nat.le_of_ble_eq_true rfl) dX6_readNumber_104 ⟨(Nat.le_of_ble_eq_true rfl), (Nat.le_of_ble_eq_true rfl)⟩ (fun v9 u9 H locs hp hW => ?_)
            obtain ⟨rfl, hu⟩ := hp
            rw [hu] at hW
            have hW : gx_W G A s ([(ad 0, .inr (11, [.int cd, .int (nI pn), .ref (ad 1), .ref (ad 2), .ref (ad 3), .ref (ad 4), .ref (ad 5), .int (nI fn), .ref (ad 6), .ref (ad 7), .int (nI dn), .ref (ad 8), .long ex, .long ey, .long eg, .int (nI cn), .ref (ad 9), .ref (ad 10), .int (nI sn), .int (nI p1), .int (nI p1), .int (nI tn), .ref (ad 11), .ref (ad 12)])), (ad 1, .inl (G.2.1 2, 16, .inr (.inl px))), (ad 2, .inl (G.2.1 2, 16, .inr (.inl py))), (ad 3, .inl (G.2.1 2, 16, .inr (.inl pz))), (ad 4, .inl (G.2.1 2, 16, .inr (.inl gr))), (ad 5, .inl (G.2.1 2, 16, .inr (.inl ou))), (ad 6, .inl (G.2.1 2, 12, .inr (.inl fx))), (ad 7, .inl (G.2.1 2, 12, .inr (.inl fy))), (ad 8, .inl (G.2.1 1, 8, .inl od)), (ad 9, .inl (G.2.1 1, 12, .inl cr)), (ad 10, .inl (G.2.1 1, 200, .inl ty)), (ad 11, .inl (G.2.1 1, 48, .inl to_)), (ad 12, .inl (G.2.1 1, 48, .inl dr))]) H locs := hW
            refine W.eq (g2 := F0 m 107 ls []) rfl ?_
            refine W.widen (k := 0) (n := 0) (Nat.le_of_ble_eq_true rfl) (Nat.le_of_ble_eq_true rfl) ?_
            refine lv_iload_n gX gB dX6_readNumber_107 rfl (lv_at hl 2 rfl) ?_
            refine lv_if_eq (tgt := 116) gX gB dX6_readNumber_108 (by decide) (fun _ => ?_) (fun h9 => absurd (show 0 = (0 : Int32) from by decide) h9)
            refine lv_iload_n gX gB dX6_readNumber_116 rfl (lv_at hl 1 rfl) ?_
            exact gx_iret C hr hW (⟨by rw [sg_v, if_neg hlt, sg_e, hsg, hE], by rw [sg_e, hsg, hE, if_neg (show ¬ zp < (p1, v).1 from (by omega : ¬ zp < p1))]⟩) (Nat.le_of_ble_eq_true rfl) (Nat.le_of_ble_eq_true rfl) dX6_readNumber_117
          · refine lv_iload gX gB dX6_readNumber_98 (lv_at hl 0 rfl) ?_
            refine lv_if_ne (tgt := 107) gX gB dX6_readNumber_100 (by decide) (fun _ => ?_) (fun h9 => absurd h9 (show ¬ (nI k) = (0 : Int32) from fun zz => absurd ((nI_eq (b := 0) (by omega) (by decide)).mp zz) (by omega)))
            refine lv_iload_n gX gB dX6_readNumber_107 rfl (lv_at hl 2 rfl) ?_
            refine lv_if_eq (tgt := 116) gX gB dX6_readNumber_108 (by decide) (fun _ => ?_) (fun h9 => absurd (show 0 = (0 : Int32) from by decide) h9)
            refine lv_iload_n gX gB dX6_readNumber_116 rfl (lv_at hl 1 rfl) ?_
            exact gx_iret C hr hW (⟨by rw [sg_v, if_neg hlt, sg_e, hsg, hE], by rw [sg_e, hsg, hE, if_pos (show zp < (p1, v).1 from (by omega : zp < p1))]⟩) (Nat.le_of_ble_eq_true rfl) (Nat.le_of_ble_eq_true rfl) dX6_readNumber_117
        · have hE : dr_at t sn 5 zp 0 = (p1, v) := hR.symm.trans (dg_stop hdg)
          refine lv_iload gX gB dX6_readNumber_45 (lv_at hl 0 rfl) ?_
          refine lv_iconst (v := 5) gX gB dX6_readNumber_47 (by decide) ?_
          refine lv_icmp_ge (tgt := 98) gX gB dX6_readNumber_48 (by decide) (fun h9 => absurd (show (5 : Int32) ≤ (nI k) from h9) (fun zz => absurd ((nI_leI (a := 5) (b := k) (by decide) (by omega)).mp zz) (by omega))) (fun _ => ?_)
          refine lv_aload_n gX gB dX6_readNumber_51 rfl (lv_at hl 3 rfl) ?_
          refine gx_callV (wr := []) (rest := []) C hW sX6_130 (kX6_here l G ad cd pn fn dn cn sn tn ex ey eg at0 (-1) px py pz gr ou fx fy od cr ty to_ dr t hsn hty ht8 p1 (by omega)) ⟨0, rfl⟩ rfl rfl ⟨(Nat.le_of_ble_eq_true rfl), (Nat.le_of_ble_eq_true rfl)⟩ hl.1 rfl (Nat.le_of_ble_eq_true rfl) dX6_readNumber_52 ⟨(Nat.le_of_ble_eq_true rfl), (Nat.le_of_ble_eq_true rfl)⟩ (fun v9 u9 H locs hp hW => ?_)
          obtain ⟨rfl, hu⟩ := hp
          rw [hu] at hW
          have hW : gx_W G A s ([(ad 0, .inr (11, [.int cd, .int (nI pn), .ref (ad 1), .ref (ad 2), .ref (ad 3), .ref (ad 4), .ref (ad 5), .int (nI fn), .ref (ad 6), .ref (ad 7), .int (nI dn), .ref (ad 8), .long ex, .long ey, .long eg, .int (nI cn), .ref (ad 9), .ref (ad 10), .int (nI sn), .int (nI p1), .int (-1), .int (nI tn), .ref (ad 11), .ref (ad 12)])), (ad 1, .inl (G.2.1 2, 16, .inr (.inl px))), (ad 2, .inl (G.2.1 2, 16, .inr (.inl py))), (ad 3, .inl (G.2.1 2, 16, .inr (.inl pz))), (ad 4, .inl (G.2.1 2, 16, .inr (.inl gr))), (ad 5, .inl (G.2.1 2, 16, .inr (.inl ou))), (ad 6, .inl (G.2.1 2, 12, .inr (.inl fx))), (ad 7, .inl (G.2.1 2, 12, .inr (.inl fy))), (ad 8, .inl (G.2.1 1, 8, .inl od)), (ad 9, .inl (G.2.1 1, 12, .inl cr)), (ad 10, .inl (G.2.1 1, 200, .inl ty)), (ad 11, .inl (G.2.1 1, 48, .inl to_)), (ad 12, .inl (G.2.1 1, 48, .inl dr))]) H locs := hW
          refine W.eq (g2 := F0 m 55 ls [.int (hr_v t sn p1)]) rfl ?_
          refine W.widen (k := 0) (n := 0) (Nat.le_of_ble_eq_true rfl) (Nat.le_of_ble_eq_true rfl) ?_
          refine lv_bipush (v := 48) gX gB dX6_readNumber_55 (by decide) ?_
          refine lv_icmp_lt (tgt := 98) gX gB dX6_readNumber_57 (by decide) (fun _ => ?_) (fun h9 => absurd (show (hr_v t sn p1) < (48 : Int32) from by rw [hr_1 hpn]; exact nI_lt (a := t p1) (b := 48) h48 (by decide)) h9)
          rcases (by omega : k = 0 ∨ 0 < k) with hk0 | hk0
          · refine lv_iload gX gB dX6_readNumber_98 (lv_at hl 0 rfl) ?_
            refine lv_if_ne (tgt := 107) gX gB dX6_readNumber_100 (by decide) (fun h9 => absurd (show ¬ (nI k) = (0 : Int32) from h9) (by rw [hk0]; exact fun zz => zz rfl)) (fun _ => ?_)
            refine lv_aload_n gX gB dX6_readNumber_103 rfl (lv_at hl 3 rfl) ?_
            refine gx_callV (wr := []) (rest := []) C hW sX6_134 (kX6_fail l G ad cd pn fn dn cn sn tn ex ey eg (nI p1) fl px py pz gr ou fx fy od cr ty to_ dr) ⟨0, rfl⟩ rfl rfl ⟨(Nat.le_of_ble_eq_true rfl), (Nat.le_of_ble_eq_true rfl)⟩ hl.1 rfl (Nat.le_of_ble_eq_true rfl) dX6_readNumber_104 ⟨(Nat.le_of_ble_eq_true rfl), (Nat.le_of_ble_eq_true rfl)⟩ (fun v9 u9 H locs hp hW => ?_)
            obtain ⟨rfl, hu⟩ := hp
            rw [hu] at hW
            have hW : gx_W G A s ([(ad 0, .inr (11, [.int cd, .int (nI pn), .ref (ad 1), .ref (ad 2), .ref (ad 3), .ref (ad 4), .ref (ad 5), .int (nI fn), .ref (ad 6), .ref (ad 7), .int (nI dn), .ref (ad 8), .long ex, .long ey, .long eg, .int (nI cn), .ref (ad 9), .ref (ad 10), .int (nI sn), .int (nI p1), .int (nI p1), .int (nI tn), .ref (ad 11), .ref (ad 12)])), (ad 1, .inl (G.2.1 2, 16, .inr (.inl px))), (ad 2, .inl (G.2.1 2, 16, .inr (.inl py))), (ad 3, .inl (G.2.1 2, 16, .inr (.inl pz))), (ad 4, .inl (G.2.1 2, 16, .inr (.inl gr))), (ad 5, .inl (G.2.1 2, 16, .inr (.inl ou))), (ad 6, .inl (G.2.1 2, 12, .inr (.inl fx))), (ad 7, .inl (G.2.1 2, 12, .inr (.inl fy))), (ad 8, .inl (G.2.1 1, 8, .inl od)), (ad 9, .inl (G.2.1 1, 12, .inl cr)), (ad 10, .inl (G.2.1 1, 200, .inl ty)), (ad 11, .inl (G.2.1 1, 48, .inl to_)), (ad 12, .inl (G.2.1 1, 48, .inl dr))]) H locs := hW
            refine W.eq (g2 := F0 m 107 ls []) rfl ?_
            refine W.widen (k := 0) (n := 0) (Nat.le_of_ble_eq_true rfl) (Nat.le_of_ble_eq_true rfl) ?_
            refine lv_iload_n gX gB dX6_readNumber_107 rfl (lv_at hl 2 rfl) ?_
            refine lv_if_eq (tgt := 116) gX gB dX6_readNumber_108 (by decide) (fun _ => ?_) (fun h9 => absurd (show 0 = (0 : Int32) from by decide) h9)
            refine lv_iload_n gX gB dX6_readNumber_116 rfl (lv_at hl 1 rfl) ?_
            exact gx_iret C hr hW (⟨by rw [sg_v, if_neg hlt, sg_e, hsg, hE], by rw [sg_e, hsg, hE, if_neg (show ¬ zp < (p1, v).1 from (by omega : ¬ zp < p1))]⟩) (Nat.le_of_ble_eq_true rfl) (Nat.le_of_ble_eq_true rfl) dX6_readNumber_117
          · refine lv_iload gX gB dX6_readNumber_98 (lv_at hl 0 rfl) ?_
            refine lv_if_ne (tgt := 107) gX gB dX6_readNumber_100 (by decide) (fun _ => ?_) (fun h9 => absurd h9 (show ¬ (nI k) = (0 : Int32) from fun zz => absurd ((nI_eq (b := 0) (by omega) (by decide)).mp zz) (by omega)))
            refine lv_iload_n gX gB dX6_readNumber_107 rfl (lv_at hl 2 rfl) ?_
            refine lv_if_eq (tgt := 116) gX gB dX6_readNumber_108 (by decide) (fun _ => ?_) (fun h9 => absurd (show 0 = (0 : Int32) from by decide) h9)
            refine lv_iload_n gX gB dX6_readNumber_116 rfl (lv_at hl 1 rfl) ?_
            exact gx_iret C hr hW (⟨by rw [sg_v, if_neg hlt, sg_e, hsg, hE], by rw [sg_e, hsg, hE, if_pos (show zp < (p1, v).1 from (by omega : zp < p1))]⟩) (Nat.le_of_ble_eq_true rfl) (Nat.le_of_ble_eq_true rfl) dX6_readNumber_117
        · have hE : dr_at t sn 5 zp 0 = (p1, v) := hR.symm.trans (dg_stop hdg)
          have h128 := ht8 p1 hpn
          refine lv_iload gX gB dX6_readNumber_45 (lv_at hl 0 rfl) ?_
          refine lv_iconst (v := 5) gX gB dX6_readNumber_47 (by decide) ?_
          refine lv_icmp_ge (tgt := 98) gX gB dX6_readNumber_48 (by decide) (fun h9 => absurd (show (5 : Int32) ≤ (nI k) from h9) (fun zz => absurd ((nI_leI (a := 5) (b := k) (by decide) (by omega)).mp zz) (by omega))) (fun _ => ?_)
          refine lv_aload_n gX gB dX6_readNumber_51 rfl (lv_at hl 3 rfl) ?_
          refine gx_callV (wr := []) (rest := []) C hW sX6_130 (kX6_here l G ad cd pn fn dn cn sn tn ex ey eg at0 (-1) px py pz gr ou fx fy od cr ty to_ dr t hsn hty ht8 p1 (by omega)) ⟨0, rfl⟩ rfl rfl ⟨(Nat.le_of_ble_eq_true rfl), (Nat.le_of_ble_eq_true rfl)⟩ hl.1 rfl (Nat.le_of_ble_eq_true rfl) dX6_readNumber_52 ⟨(Nat.le_of_ble_eq_true rfl), (Nat.le_of_ble_eq_true rfl)⟩ (fun v9 u9 H locs hp hW => ?_)
          obtain ⟨rfl, hu⟩ := hp
          rw [hu] at hW
          have hW : gx_W G A s ([(ad 0, .inr (11, [.int cd, .int (nI pn), .ref (ad 1), .ref (ad 2), .ref (ad 3), .ref (ad 4), .ref (ad 5), .int (nI fn), .ref (ad 6), .ref (ad 7), .int (nI dn), .ref (ad 8), .long ex, .long ey, .long eg, .int (nI cn), .ref (ad 9), .ref (ad 10), .int (nI sn), .int (nI p1), .int (-1), .int (nI tn), .ref (ad 11), .ref (ad 12)])), (ad 1, .inl (G.2.1 2, 16, .inr (.inl px))), (ad 2, .inl (G.2.1 2, 16, .inr (.inl py))), (ad 3, .inl (G.2.1 2, 16, .inr (.inl pz))), (ad 4, .inl (G.2.1 2, 16, .inr (.inl gr))), (ad 5, .inl (G.2.1 2, 16, .inr (.inl ou))), (ad 6, .inl (G.2.1 2, 12, .inr (.inl fx))), (ad 7, .inl (G.2.1 2, 12, .inr (.inl fy))), (ad 8, .inl (G.2.1 1, 8, .inl od)), (ad 9, .inl (G.2.1 1, 12, .inl cr)), (ad 10, .inl (G.2.1 1, 200, .inl ty)), (ad 11, .inl (G.2.1 1, 48, .inl to_)), (ad 12, .inl (G.2.1 1, 48, .inl dr))]) H locs := hW
          refine W.eq (g2 := F0 m 55 ls [.int (hr_v t sn p1)]) rfl ?_
          refine W.widen (k := 0) (n := 0) (Nat.le_of_ble_eq_true rfl) (Nat.le_of_ble_eq_true rfl) ?_
          refine lv_bipush (v := 48) gX gB dX6_readNumber_55 (by decide) ?_
          refine lv_icmp_lt (tgt := 98) gX gB dX6_readNumber_57 (by decide) (fun h9 => absurd (show (hr_v t sn p1) < (48 : Int32) from h9) (by rw [hr_1 hpn]; exact nI_nlt (a := t p1) (b := 48) h48 (by omega))) (fun _ => ?_)
          refine lv_aload_n gX gB dX6_readNumber_60 rfl (lv_at hl 3 rfl) ?_
          refine gx_callV (wr := []) (rest := []) C hW sX6_130 (kX6_here l G ad cd pn fn dn cn sn tn ex ey eg at0 (-1) px py pz gr ou fx fy od cr ty to_ dr t hsn hty ht8 p1 (by omega)) ⟨0, rfl⟩ rfl rfl ⟨(Nat.le_of_ble_eq_true rfl), (Nat.le_of_ble_eq_true rfl)⟩ hl.1 rfl (Nat.le_of_ble_eq_true rfl) dX6_readNumber_61 ⟨(Nat.le_of_ble_eq_true rfl), (Nat.le_of_ble_eq_true rfl)⟩ (fun v9 u9 H locs hp hW => ?_)
          obtain ⟨rfl, hu⟩ := hp
          rw [hu] at hW
          have hW : gx_W G A s ([(ad 0, .inr (11, [.int cd, .int (nI pn), .ref (ad 1), .ref (ad 2), .ref (ad 3), .ref (ad 4), .ref (ad 5), .int (nI fn), .ref (ad 6), .ref (ad 7), .int (nI dn), .ref (ad 8), .long ex, .long ey, .long eg, .int (nI cn), .ref (ad 9), .ref (ad 10), .int (nI sn), .int (nI p1), .int (-1), .int (nI tn), .ref (ad 11), .ref (ad 12)])), (ad 1, .inl (G.2.1 2, 16, .inr (.inl px))), (ad 2, .inl (G.2.1 2, 16, .inr (.inl py))), (ad 3, .inl (G.2.1 2, 16, .inr (.inl pz))), (ad 4, .inl (G.2.1 2, 16, .inr (.inl gr))), (ad 5, .inl (G.2.1 2, 16, .inr (.inl ou))), (ad 6, .inl (G.2.1 2, 12, .inr (.inl fx))), (ad 7, .inl (G.2.1 2, 12, .inr (.inl fy))), (ad 8, .inl (G.2.1 1, 8, .inl od)), (ad 9, .inl (G.2.1 1, 12, .inl cr)), (ad 10, .inl (G.2.1 1, 200, .inl ty)), (ad 11, .inl (G.2.1 1, 48, .inl to_)), (ad 12, .inl (G.2.1 1, 48, .inl dr))]) H locs := hW
          refine W.eq (g2 := F0 m 64 ls [.int (hr_v t sn p1)]) rfl ?_
          refine W.widen (k := 0) (n := 0) (Nat.le_of_ble_eq_true rfl) (Nat.le_of_ble_eq_true rfl) ?_
          refine lv_bipush (v := 57) gX gB dX6_readNumber_64 (by decide) ?_
          refine lv_icmp_gt (tgt := 98) gX gB dX6_readNumber_66 (by decide) (fun _ => ?_) (fun h9 => absurd (show (57 : Int32) < (hr_v t sn p1) from by rw [hr_1 hpn]; exact nI_lt (a := 57) (b := t p1) h57 (by omega)) h9)
          rcases (by omega : k = 0 ∨ 0 < k) with hk0 | hk0
          · refine lv_iload gX gB dX6_readNumber_98 (lv_at hl 0 rfl) ?_
            refine lv_if_ne (tgt := 107) gX gB dX6_readNumber_100 (by decide) (fun h9 => absurd (show ¬ (nI k) = (0 : Int32) from h9) (by rw [hk0]; exact fun zz => zz rfl)) (fun _ => ?_)
            refine lv_aload_n gX gB dX6_readNumber_103 rfl (lv_at hl 3 rfl) ?_
            refine gx_callV (wr := []) (rest := []) C hW sX6_134 (kX6_fail l G ad cd pn fn dn cn sn tn ex ey eg (nI p1) fl px py pz gr ou fx fy od cr ty to_ dr) ⟨0, rfl⟩ rfl rfl ⟨(Nat.le_of_ble_eq_true rfl), (Nat.le_of_ble_eq_true rfl)⟩ hl.1 rfl (Nat.le_of_ble_eq_true rfl) dX6_readNumber_104 ⟨(Nat.le_of_ble_eq_true rfl), (Nat.le_of_ble_eq_true rfl)⟩ (fun v9 u9 H locs hp hW => ?_)
            obtain ⟨rfl, hu⟩ := hp
            rw [hu] at hW
            have hW : gx_W G A s ([(ad 0, .inr (11, [.int cd, .int (nI pn), .ref (ad 1), .ref (ad 2), .ref (ad 3), .ref (ad 4), .ref (ad 5), .int (nI fn), .ref (ad 6), .ref (ad 7), .int (nI dn), .ref (ad 8), .long ex, .long ey, .long eg, .int (nI cn), .ref (ad 9), .ref (ad 10), .int (nI sn), .int (nI p1), .int (nI p1), .int (nI tn), .ref (ad 11), .ref (ad 12)])), (ad 1, .inl (G.2.1 2, 16, .inr (.inl px))), (ad 2, .inl (G.2.1 2, 16, .inr (.inl py))), (ad 3, .inl (G.2.1 2, 16, .inr (.inl pz))), (ad 4, .inl (G.2.1 2, 16, .inr (.inl gr))), (ad 5, .inl (G.2.1 2, 16, .inr (.inl ou))), (ad 6, .inl (G.2.1 2, 12, .inr (.inl fx))), (ad 7, .inl (G.2.1 2, 12, .inr (.inl fy))), (ad 8, .inl (G.2.1 1, 8, .inl od)), (ad 9, .inl (G.2.1 1, 12, .inl cr)), (ad 10, .inl (G.2.1 1, 200, .inl ty)), (ad 11, .inl (G.2.1 1, 48, .inl to_)), (ad 12, .inl (G.2.1 1, 48, .inl dr))]) H locs := hW
            refine W.eq (g2 := F0 m 107 ls []) rfl ?_
            refine W.widen (k := 0) (n := 0) (Nat.le_of_ble_eq_true rfl) (Nat.le_of_ble_eq_true rfl) ?_
            refine lv_iload_n gX gB dX6_readNumber_107 rfl (lv_at hl 2 rfl) ?_
            refine lv_if_eq (tgt := 116) gX gB dX6_readNumber_108 (by decide) (fun _ => ?_) (fun h9 => absurd (show 0 = (0 : Int32) from by decide) h9)
            refine lv_iload_n gX gB dX6_readNumber_116 rfl (lv_at hl 1 rfl) ?_
            exact gx_iret C hr hW (⟨by rw [sg_v, if_neg hlt, sg_e, hsg, hE], by rw [sg_e, hsg, hE, if_neg (show ¬ zp < (p1, v).1 from (by omega : ¬ zp < p1))]⟩) (Nat.le_of_ble_eq_true rfl) (Nat.le_of_ble_eq_true rfl) dX6_readNumber_117
          · refine lv_iload gX gB dX6_readNumber_98 (lv_at hl 0 rfl) ?_
            refine lv_if_ne (tgt := 107) gX gB dX6_readNumber_100 (by decide) (fun _ => ?_) (fun h9 => absurd h9 (show ¬ (nI k) = (0 : Int32) from fun zz => absurd ((nI_eq (b := 0) (by omega) (by decide)).mp zz) (by omega)))
            refine lv_iload_n gX gB dX6_readNumber_107 rfl (lv_at hl 2 rfl) ?_
            refine lv_if_eq (tgt := 116) gX gB dX6_readNumber_108 (by decide) (fun _ => ?_) (fun h9 => absurd (show 0 = (0 : Int32) from by decide) h9)
            refine lv_iload_n gX gB dX6_readNumber_116 rfl (lv_at hl 1 rfl) ?_
            exact gx_iret C hr hW (⟨by rw [sg_v, if_neg hlt, sg_e, hsg, hE], by rw [sg_e, hsg, hE, if_pos (show zp < (p1, v).1 from (by omega : zp < p1))]⟩) (Nat.le_of_ble_eq_true rfl) (Nat.le_of_ble_eq_true rfl) dX6_readNumber_117
    exact loop 6 0 zp 0 (by omega) (by omega) (by omega) hq9 rfl _ _ hW ls (lv_sub hl [0, 1, 2, 3] rfl)
set_option maxHeartbeats 4000000 in
set_option maxRecDepth 100000 in
theorem kX6_readNumberU (l : Launch) (G : gx_T) (ad : Nat → Nat) (cd : Int32) (pn fn dn cn sn tn : Nat) (ex ey eg : Int64) (at0 fl : Int32) (px py pz gr ou fx fy : Nat → Int64) (od cr ty to_ dr : Nat → Int32) (t : Nat → Nat) (hsn : sn ≤ 200) (hty : ∀ i, i < sn → ty i = nI (t i)) (ht8 : ∀ i, i < sn → t i < 128) (zp : Nat) (hp9 : zp ≤ sn) : gx_M l G yX6_readNumber cX6_readNumber 5 (some .int) ({ frames := 1, cells := 0, slots := 0, locals := 20 } : Room) [.ref (ad 0), .int 0] ([(ad 0, .inr (11, [.int cd, .int (nI pn), .ref (ad 1), .ref (ad 2), .ref (ad 3), .ref (ad 4), .ref (ad 5), .int (nI fn), .ref (ad 6), .ref (ad 7), .int (nI dn), .ref (ad 8), .long ex, .long ey, .long eg, .int (nI cn), .ref (ad 9), .ref (ad 10), .int (nI sn), .int (nI zp), .int (-1), .int (nI tn), .ref (ad 11), .ref (ad 12)])), (ad 1, .inl (G.2.1 2, 16, .inr (.inl px))), (ad 2, .inl (G.2.1 2, 16, .inr (.inl py))), (ad 3, .inl (G.2.1 2, 16, .inr (.inl pz))), (ad 4, .inl (G.2.1 2, 16, .inr (.inl gr))), (ad 5, .inl (G.2.1 2, 16, .inr (.inl ou))), (ad 6, .inl (G.2.1 2, 12, .inr (.inl fx))), (ad 7, .inl (G.2.1 2, 12, .inr (.inl fy))), (ad 8, .inl (G.2.1 1, 8, .inl od)), (ad 9, .inl (G.2.1 1, 12, .inl cr)), (ad 10, .inl (G.2.1 1, 200, .inl ty)), (ad 11, .inl (G.2.1 1, 48, .inl to_)), (ad 12, .inl (G.2.1 1, 48, .inl dr))]) (fun v9 u => v9 = some (.int (nI (dr_at t sn 5 zp 0).2)) ∧ u = [(ad 0, .inr (11, [.int cd, .int (nI pn), .ref (ad 1), .ref (ad 2), .ref (ad 3), .ref (ad 4), .ref (ad 5), .int (nI fn), .ref (ad 6), .ref (ad 7), .int (nI dn), .ref (ad 8), .long ex, .long ey, .long eg, .int (nI cn), .ref (ad 9), .ref (ad 10), .int (nI sn), .int (nI (dr_at t sn 5 zp 0).1), .int (if zp < (dr_at t sn 5 zp 0).1 then -1 else nI (dr_at t sn 5 zp 0).1), .int (nI tn), .ref (ad 11), .ref (ad 12)])), (ad 1, .inl (G.2.1 2, 16, .inr (.inl px))), (ad 2, .inl (G.2.1 2, 16, .inr (.inl py))), (ad 3, .inl (G.2.1 2, 16, .inr (.inl pz))), (ad 4, .inl (G.2.1 2, 16, .inr (.inl gr))), (ad 5, .inl (G.2.1 2, 16, .inr (.inl ou))), (ad 6, .inl (G.2.1 2, 12, .inr (.inl fx))), (ad 7, .inl (G.2.1 2, 12, .inr (.inl fy))), (ad 8, .inl (G.2.1 1, 8, .inl od)), (ad 9, .inl (G.2.1 1, 12, .inl cr)), (ad 10, .inl (G.2.1 1, 200, .inl ty)), (ad 11, .inl (G.2.1 1, 48, .inl to_)), (ad 12, .inl (G.2.1 1, 48, .inl dr))]) := by
  refine gx_start (by decide +kernel) (Nat.le_of_ble_eq_true rfl) ?_
  intro p e s m args below meth c A ls C hr hnm hW hl
  have gX := C.x
  have gB := C.b
  have hl : lv_has ls 5 [(0, .ref (ad 0)), (1, .int 0)] := hl
  refine lv_iload_n gX gB dX6_readNumber_0 rfl (lv_at hl 1 rfl) ?_
  refine lv_if_eq (tgt := 17) gX gB dX6_readNumber_1 (by decide) (fun _ => ?_) (fun h9 => absurd (show 0 = (0 : Int32) from by decide) h9)
  refine lv_iconst (v := 0) gX gB dX6_readNumber_17 (by decide) ?_
  refine lv_istore_n (lv' := [(2, .int 0), (0, .ref (ad 0)), (1, .int 0)]) gX gB dX6_readNumber_18 rfl hl (by decide) rfl (fun ls hl => ?_)
  refine lv_aload_n gX gB dX6_readNumber_19 rfl (lv_at hl 1 rfl) ?_
  refine lv_iload_n gX gB dX6_readNumber_20 rfl (lv_at hl 0 rfl) ?_
  refine lv_if_eq (tgt := 33) gX gB dX6_readNumber_21 (by decide) (fun _ => ?_) (fun h9 => absurd (show 0 = (0 : Int32) from by decide) h9)
  refine lv_aload_n gX gB dX6_readNumber_33 rfl (lv_at hl 1 rfl) ?_
  refine gx_get C hW fX6_124 ⟨0, rfl⟩ rfl dX6_readNumber_34 ?_
  refine gx_putE C hW clX6 fX6_124 0 rfl (Or.inl rfl) rfl rfl (Nat.le_of_ble_eq_true rfl) dX6_readNumber_37 (fun H locs hW => ?_)
  have hW : gx_W G A s ([(ad 0, .inr (11, [.int cd, .int (nI pn), .ref (ad 1), .ref (ad 2), .ref (ad 3), .ref (ad 4), .ref (ad 5), .int (nI fn), .ref (ad 6), .ref (ad 7), .int (nI dn), .ref (ad 8), .long ex, .long ey, .long eg, .int (nI cn), .ref (ad 9), .ref (ad 10), .int (nI sn), .int (nI zp), .int (-1), .int (nI tn), .ref (ad 11), .ref (ad 12)])), (ad 1, .inl (G.2.1 2, 16, .inr (.inl px))), (ad 2, .inl (G.2.1 2, 16, .inr (.inl py))), (ad 3, .inl (G.2.1 2, 16, .inr (.inl pz))), (ad 4, .inl (G.2.1 2, 16, .inr (.inl gr))), (ad 5, .inl (G.2.1 2, 16, .inr (.inl ou))), (ad 6, .inl (G.2.1 2, 12, .inr (.inl fx))), (ad 7, .inl (G.2.1 2, 12, .inr (.inl fy))), (ad 8, .inl (G.2.1 1, 8, .inl od)), (ad 9, .inl (G.2.1 1, 12, .inl cr)), (ad 10, .inl (G.2.1 1, 200, .inl ty)), (ad 11, .inl (G.2.1 1, 48, .inl to_)), (ad 12, .inl (G.2.1 1, 48, .inl dr))]) H locs := hW
  refine lv_iconst (v := 0) gX gB dX6_readNumber_40 (by decide) ?_
  refine lv_istore_n (lv' := [(3, .int 0), (2, .int 0), (0, .ref (ad 0)), (1, .int 0)]) gX gB dX6_readNumber_41 rfl hl (by decide) rfl (fun ls hl => ?_)
  refine lv_iconst (v := 0) gX gB dX6_readNumber_42 (by decide) ?_
  refine lv_istore (lv' := [(4, .int 0), (3, .int 0), (2, .int 0), (0, .ref (ad 0)), (1, .int 0)]) gX gB dX6_readNumber_43 hl (by decide) rfl (fun ls hl => ?_)
  have hl : lv_has ls 5 [(4, .int (nI 0)), (3, .int (nI 0)), (2, .int 0), (0, .ref (ad 0)), (1, .int 0)] := hl
  have hq9 : zp ≤ sn := hp9
  have loop : ∀ (fu : Nat) (k p1 v : Nat), (5 - k < fu) → (k ≤ 5) → (p1 = zp + k) → (p1 ≤ sn) → (dr_at t sn (5 - k) p1 v = dr_at t sn 5 zp 0) → ∀ (H : Heap) (locs : List Loc), gx_W G A s ([(ad 0, .inr (11, [.int cd, .int (nI pn), .ref (ad 1), .ref (ad 2), .ref (ad 3), .ref (ad 4), .ref (ad 5), .int (nI fn), .ref (ad 6), .ref (ad 7), .int (nI dn), .ref (ad 8), .long ex, .long ey, .long eg, .int (nI cn), .ref (ad 9), .ref (ad 10), .int (nI sn), .int (nI p1), .int (-1), .int (nI tn), .ref (ad 11), .ref (ad 12)])), (ad 1, .inl (G.2.1 2, 16, .inr (.inl px))), (ad 2, .inl (G.2.1 2, 16, .inr (.inl py))), (ad 3, .inl (G.2.1 2, 16, .inr (.inl pz))), (ad 4, .inl (G.2.1 2, 16, .inr (.inl gr))), (ad 5, .inl (G.2.1 2, 16, .inr (.inl ou))), (ad 6, .inl (G.2.1 2, 12, .inr (.inl fx))), (ad 7, .inl (G.2.1 2, 12, .inr (.inl fy))), (ad 8, .inl (G.2.1 1, 8, .inl od)), (ad 9, .inl (G.2.1 1, 12, .inl cr)), (ad 10, .inl (G.2.1 1, 200, .inl ty)), (ad 11, .inl (G.2.1 1, 48, .inl to_)), (ad 12, .inl (G.2.1 1, 48, .inl dr))]) H locs → ∀ ls : Array Slot, lv_has ls 5 [(4, .int (nI k)), (3, .int (nI v)), (2, .int 0), (0, .ref (ad 0))] → W p l e ({ frames := 1, cells := 0, slots := 0, locals := 20 } : Room) s m args below meth c H locs 0 0 (MQ below (gx_Q G A (fun v9 u => v9 = some (.int (nI (dr_at t sn 5 zp 0).2)) ∧ u = [(ad 0, .inr (11, [.int cd, .int (nI pn), .ref (ad 1), .ref (ad 2), .ref (ad 3), .ref (ad 4), .ref (ad 5), .int (nI fn), .ref (ad 6), .ref (ad 7), .int (nI dn), .ref (ad 8), .long ex, .long ey, .long eg, .int (nI cn), .ref (ad 9), .ref (ad 10), .int (nI sn), .int (nI (dr_at t sn 5 zp 0).1), .int (if zp < (dr_at t sn 5 zp 0).1 then -1 else nI (dr_at t sn 5 zp 0).1), .int (nI tn), .ref (ad 11), .ref (ad 12)])), (ad 1, .inl (G.2.1 2, 16, .inr (.inl px))), (ad 2, .inl (G.2.1 2, 16, .inr (.inl py))), (ad 3, .inl (G.2.1 2, 16, .inr (.inl pz))), (ad 4, .inl (G.2.1 2, 16, .inr (.inl gr))), (ad 5, .inl (G.2.1 2, 16, .inr (.inl ou))), (ad 6, .inl (G.2.1 2, 12, .inr (.inl fx))), (ad 7, .inl (G.2.1 2, 12, .inr (.inl fy))), (ad 8, .inl (G.2.1 1, 8, .inl od)), (ad 9, .inl (G.2.1 1, 12, .inl cr)), (ad 10, .inl (G.2.1 1, 200, .inl ty)), (ad 11, .inl (G.2.1 1, 48, .inl to_)), (ad 12, .inl (G.2.1 1, 48, .inl dr))])) args s (({ frames := 1, cells := 0, slots := 0, locals := 20 } : Room)).cells (({ frames := 1, cells := 0, slots := 0, locals := 20 } : Room)).slots A) (F0 m 45 ls []) := by
    intro fu
    induction fu with
    | zero => intro k p1 v hfu hk hp1 hpn1 hR H locs hW ls hl; exact absurd hfu (Nat.not_lt_zero _)
    | succ fu ih =>
      intro k p1 v hfu hk hp1 hpn1 hR H locs hW ls hl
      have hcs : k = 5 ∨ (k < 5 ∧ (p1 < sn ∧ 48 ≤ t p1 ∧ t p1 ≤ 57)) ∨ (k < 5 ∧ ¬ (p1 < sn ∧ 48 ≤ t p1 ∧ t p1 ≤ 57) ∧ ¬ p1 < sn) ∨ (k < 5 ∧ ¬ (p1 < sn ∧ 48 ≤ t p1 ∧ t p1 ≤ 57) ∧ p1 < sn ∧ t p1 < 48) ∨ (k < 5 ∧ ¬ (p1 < sn ∧ 48 ≤ t p1 ∧ t p1 ≤ 57) ∧ p1 < sn ∧ 48 ≤ t p1 ∧ 57 < t p1) := by omega
      rcases hcs with hk5 | ⟨hk5, hdg⟩ | ⟨hk5, hdg, hpn⟩ | ⟨hk5, hdg, hpn, h48⟩ | ⟨hk5, hdg, hpn, h48, h57⟩
      · have hE : dr_at t sn 5 zp 0 = (p1, v) := hR.symm.trans (by rw [show 5 - k = 0 by omega]; rfl)
        refine lv_iload gX gB dX6_readNumber_45 (lv_at hl 0 rfl) ?_
        refine lv_iconst (v := 5) gX gB dX6_readNumber_47 (by decide) ?_
        refine lv_icmp_ge (tgt := 98) gX gB dX6_readNumber_48 (by decide) (fun _ => ?_) (fun h9 => absurd (show (5 : Int32) ≤ (nI k) from (nI_leI (a := 5) (b := k) (by decide) (by omega)).mpr (by omega)) h9)
        rcases (by omega : k = 0 ∨ 0 < k) with hk0 | hk0
        · refine lv_iload gX gB dX6_readNumber_98 (lv_at hl 0 rfl) ?_
          refine lv_if_ne (tgt := 107) gX gB dX6_readNumber_100 (by decide) (fun h9 => absurd (show ¬ (nI k) = (0 : Int32) from h9) (by rw [hk0]; exact fun zz => zz rfl)) (fun _ => ?_)
          refine lv_aload_n gX gB dX6_readNumber_103 rfl (lv_at hl 3 rfl) ?_
          refine gx_callV (wr := []) (rest := []) C hW sX6_134 (kX6_fail l G ad cd pn fn dn cn sn tn ex ey eg (nI p1) fl px py pz gr ou fx fy od cr ty to_ dr) ⟨0, rfl⟩ rfl rfl ⟨(Nat.le_of_ble_eq_true rfl), (Nat.le_of_ble_eq_true rfl)⟩ hl.1 rfl (Nat.le_of_ble_eq_true rfl) dX6_readNumber_104 ⟨(Nat.le_of_ble_eq_true rfl), (Nat.le_of_ble_eq_true rfl)⟩ (fun v9 u9 H locs hp hW => ?_)
          obtain ⟨rfl, hu⟩ := hp
          rw [hu] at hW
          have hW : gx_W G A s ([(ad 0, .inr (11, [.int cd, .int (nI pn), .ref (ad 1), .ref (ad 2), .ref (ad 3), .ref (ad 4), .ref (ad 5), .int (nI fn), .ref (ad 6), .ref (ad 7), .int (nI dn), .ref (ad 8), .long ex, .long ey, .long eg, .int (nI cn), .ref (ad 9), .ref (ad 10), .int (nI sn), .int (nI p1), .int (nI p1), .int (nI tn), .ref (ad 11), .ref (ad 12)])), (ad 1, .inl (G.2.1 2, 16, .inr (.inl px))), (ad 2, .inl (G.2.1 2, 16, .inr (.inl py))), (ad 3, .inl (G.2.1 2, 16, .inr (.inl pz))), (ad 4, .inl (G.2.1 2, 16, .inr (.inl gr))), (ad 5, .inl (G.2.1 2, 16, .inr (.inl ou))), (ad 6, .inl (G.2.1 2, 12, .inr (.inl fx))), (ad 7, .inl (G.2.1 2, 12, .inr (.inl fy))), (ad 8, .inl (G.2.1 1, 8, .inl od)), (ad 9, .inl (G.2.1 1, 12, .inl cr)), (ad 10, .inl (G.2.1 1, 200, .inl ty)), (ad 11, .inl (G.2.1 1, 48, .inl to_)), (ad 12, .inl (G.2.1 1, 48, .inl dr))]) H locs := hW
          refine W.eq (g2 := F0 m 107 ls []) rfl ?_
          refine W.widen (k := 0) (n := 0) (Nat.le_of_ble_eq_true rfl) (Nat.le_of_ble_eq_true rfl) ?_
          refine lv_iload_n gX gB dX6_readNumber_107 rfl (lv_at hl 2 rfl) ?_
          refine lv_if_eq (tgt := 116) gX gB dX6_readNumber_108 (by decide) (fun _ => ?_) (fun h9 => absurd (show 0 = (0 : Int32) from by decide) h9)
          refine lv_iload_n gX gB dX6_readNumber_116 rfl (lv_at hl 1 rfl) ?_
          exact gx_iret C hr hW (⟨by rw [hE], by rw [hE, if_neg (show ¬ zp < (p1, v).1 from (by omega : ¬ zp < p1))]⟩) (Nat.le_of_ble_eq_true rfl) (Nat.le_of_ble_eq_true rfl) dX6_readNumber_117
        · refine lv_iload gX gB dX6_readNumber_98 (lv_at hl 0 rfl) ?_
          refine lv_if_ne (tgt := 107) gX gB dX6_readNumber_100 (by decide) (fun _ => ?_) (fun h9 => absurd h9 (show ¬ (nI k) = (0 : Int32) from fun zz => absurd ((nI_eq (b := 0) (by omega) (by decide)).mp zz) (by omega)))
          refine lv_iload_n gX gB dX6_readNumber_107 rfl (lv_at hl 2 rfl) ?_
          refine lv_if_eq (tgt := 116) gX gB dX6_readNumber_108 (by decide) (fun _ => ?_) (fun h9 => absurd (show 0 = (0 : Int32) from by decide) h9)
          refine lv_iload_n gX gB dX6_readNumber_116 rfl (lv_at hl 1 rfl) ?_
          exact gx_iret C hr hW (⟨by rw [hE], by rw [hE, if_pos (show zp < (p1, v).1 from (by omega : zp < p1))]⟩) (Nat.le_of_ble_eq_true rfl) (Nat.le_of_ble_eq_true rfl) dX6_readNumber_117
      · have h128 := ht8 p1 hdg.1
        refine lv_iload gX gB dX6_readNumber_45 (lv_at hl 0 rfl) ?_
        refine lv_iconst (v := 5) gX gB dX6_readNumber_47 (by decide) ?_
        refine lv_icmp_ge (tgt := 98) gX gB dX6_readNumber_48 (by decide) (fun h9 => absurd (show (5 : Int32) ≤ (nI k) from h9) (fun zz => absurd ((nI_leI (a := 5) (b := k) (by decide) (by omega)).mp zz) (by omega))) (fun _ => ?_)
        refine lv_aload_n gX gB dX6_readNumber_51 rfl (lv_at hl 3 rfl) ?_
        refine gx_callV (wr := []) (rest := []) C hW sX6_130 (kX6_here l G ad cd pn fn dn cn sn tn ex ey eg at0 (-1) px py pz gr ou fx fy od cr ty to_ dr t hsn hty ht8 p1 (by omega)) ⟨0, rfl⟩ rfl rfl ⟨(Nat.le_of_ble_eq_true rfl), (Nat.le_of_ble_eq_true rfl)⟩ hl.1 rfl (Nat.le_of_ble_eq_true rfl) dX6_readNumber_52 ⟨(Nat.le_of_ble_eq_true rfl), (Nat.le_of_ble_eq_true rfl)⟩ (fun v9 u9 H locs hp hW => ?_)
        obtain ⟨rfl, hu⟩ := hp
        rw [hu] at hW
        have hW : gx_W G A s ([(ad 0, .inr (11, [.int cd, .int (nI pn), .ref (ad 1), .ref (ad 2), .ref (ad 3), .ref (ad 4), .ref (ad 5), .int (nI fn), .ref (ad 6), .ref (ad 7), .int (nI dn), .ref (ad 8), .long ex, .long ey, .long eg, .int (nI cn), .ref (ad 9), .ref (ad 10), .int (nI sn), .int (nI p1), .int (-1), .int (nI tn), .ref (ad 11), .ref (ad 12)])), (ad 1, .inl (G.2.1 2, 16, .inr (.inl px))), (ad 2, .inl (G.2.1 2, 16, .inr (.inl py))), (ad 3, .inl (G.2.1 2, 16, .inr (.inl pz))), (ad 4, .inl (G.2.1 2, 16, .inr (.inl gr))), (ad 5, .inl (G.2.1 2, 16, .inr (.inl ou))), (ad 6, .inl (G.2.1 2, 12, .inr (.inl fx))), (ad 7, .inl (G.2.1 2, 12, .inr (.inl fy))), (ad 8, .inl (G.2.1 1, 8, .inl od)), (ad 9, .inl (G.2.1 1, 12, .inl cr)), (ad 10, .inl (G.2.1 1, 200, .inl ty)), (ad 11, .inl (G.2.1 1, 48, .inl to_)), (ad 12, .inl (G.2.1 1, 48, .inl dr))]) H locs := hW
        refine W.eq (g2 := F0 m 55 ls [.int (hr_v t sn p1)]) rfl ?_
        refine W.widen (k := 0) (n := 0) (Nat.le_of_ble_eq_true rfl) (Nat.le_of_ble_eq_true rfl) ?_
        refine lv_bipush (v := 48) gX gB dX6_readNumber_55 (by decide) ?_
        refine lv_icmp_lt (tgt := 98) gX gB dX6_readNumber_57 (by decide) (fun h9 => absurd (show (hr_v t sn p1) < (48 : Int32) from h9) (by rw [hr_1 hdg.1]; exact nI_nlt (a := t p1) (b := 48) hdg.2.1 (by omega))) (fun _ => ?_)
        refine lv_aload_n gX gB dX6_readNumber_60 rfl (lv_at hl 3 rfl) ?_
        refine gx_callV (wr := []) (rest := []) C hW sX6_130 (kX6_here l G ad cd pn fn dn cn sn tn ex ey eg at0 (-1) px py pz gr ou fx fy od cr ty to_ dr t hsn hty ht8 p1 (by omega)) ⟨0, rfl⟩ rfl rfl ⟨(Nat.le_of_ble_eq_true rfl), (Nat.le_of_ble_eq_true rfl)⟩ hl.1 rfl (Nat.le_of_ble_eq_true rfl) dX6_readNumber_61 ⟨(Nat.le_of_ble_eq_true rfl), (Nat.le_of_ble_eq_true rfl)⟩ (fun v9 u9 H locs hp hW => ?_)
        obtain ⟨rfl, hu⟩ := hp
        rw [hu] at hW
        have hW : gx_W G A s ([(ad 0, .inr (11, [.int cd, .int (nI pn), .ref (ad 1), .ref (ad 2), .ref (ad 3), .ref (ad 4), .ref (ad 5), .int (nI fn), .ref (ad 6), .ref (ad 7), .int (nI dn), .ref (ad 8), .long ex, .long ey, .long eg, .int (nI cn), .ref (ad 9), .ref (ad 10), .int (nI sn), .int (nI p1), .int (-1), .int (nI tn), .ref (ad 11), .ref (ad 12)])), (ad 1, .inl (G.2.1 2, 16, .inr (.inl px))), (ad 2, .inl (G.2.1 2, 16, .inr (.inl py))), (ad 3, .inl (G.2.1 2, 16, .inr (.inl pz))), (ad 4, .inl (G.2.1 2, 16, .inr (.inl gr))), (ad 5, .inl (G.2.1 2, 16, .inr (.inl ou))), (ad 6, .inl (G.2.1 2, 12, .inr (.inl fx))), (ad 7, .inl (G.2.1 2, 12, .inr (.inl fy))), (ad 8, .inl (G.2.1 1, 8, .inl od)), (ad 9, .inl (G.2.1 1, 12, .inl cr)), (ad 10, .inl (G.2.1 1, 200, .inl ty)), (ad 11, .inl (G.2.1 1, 48, .inl to_)), (ad 12, .inl (G.2.1 1, 48, .inl dr))]) H locs := hW
        refine W.eq (g2 := F0 m 64 ls [.int (hr_v t sn p1)]) rfl ?_
        refine W.widen (k := 0) (n := 0) (Nat.le_of_ble_eq_true rfl) (Nat.le_of_ble_eq_true rfl) ?_
        refine lv_bipush (v := 57) gX gB dX6_readNumber_64 (by decide) ?_
        refine lv_icmp_gt (tgt := 98) gX gB dX6_readNumber_66 (by decide) (fun h9 => absurd (show (57 : Int32) < (hr_v t sn p1) from h9) (by rw [hr_1 hdg.1]; exact nI_nlt (a := 57) (b := t p1) hdg.2.2 (by decide))) (fun _ => ?_)
        refine lv_bipush (v := 10) gX gB dX6_readNumber_69 (by decide) ?_
        refine lv_iload_n gX gB dX6_readNumber_71 rfl (lv_at hl 1 rfl) ?_
        refine lv_imul gX gB dX6_readNumber_72 ?_
        refine lv_aload_n gX gB dX6_readNumber_73 rfl (lv_at hl 3 rfl) ?_
        refine gx_callV (wr := []) (rest := [.int (10 * (nI v))]) C hW sX6_130 (kX6_here l G ad cd pn fn dn cn sn tn ex ey eg at0 (-1) px py pz gr ou fx fy od cr ty to_ dr t hsn hty ht8 p1 (by omega)) ⟨0, rfl⟩ rfl rfl ⟨(Nat.le_of_ble_eq_true rfl), (Nat.le_of_ble_eq_true rfl)⟩ hl.1 rfl (Nat.le_of_ble_eq_true rfl) dX6_readNumber_74 ⟨(Nat.le_of_ble_eq_true rfl), (Nat.le_of_ble_eq_true rfl)⟩ (fun v9 u9 H locs hp hW => ?_)
        obtain ⟨rfl, hu⟩ := hp
        rw [hu] at hW
        have hW : gx_W G A s ([(ad 0, .inr (11, [.int cd, .int (nI pn), .ref (ad 1), .ref (ad 2), .ref (ad 3), .ref (ad 4), .ref (ad 5), .int (nI fn), .ref (ad 6), .ref (ad 7), .int (nI dn), .ref (ad 8), .long ex, .long ey, .long eg, .int (nI cn), .ref (ad 9), .ref (ad 10), .int (nI sn), .int (nI p1), .int (-1), .int (nI tn), .ref (ad 11), .ref (ad 12)])), (ad 1, .inl (G.2.1 2, 16, .inr (.inl px))), (ad 2, .inl (G.2.1 2, 16, .inr (.inl py))), (ad 3, .inl (G.2.1 2, 16, .inr (.inl pz))), (ad 4, .inl (G.2.1 2, 16, .inr (.inl gr))), (ad 5, .inl (G.2.1 2, 16, .inr (.inl ou))), (ad 6, .inl (G.2.1 2, 12, .inr (.inl fx))), (ad 7, .inl (G.2.1 2, 12, .inr (.inl fy))), (ad 8, .inl (G.2.1 1, 8, .inl od)), (ad 9, .inl (G.2.1 1, 12, .inl cr)), (ad 10, .inl (G.2.1 1, 200, .inl ty)), (ad 11, .inl (G.2.1 1, 48, .inl to_)), (ad 12, .inl (G.2.1 1, 48, .inl dr))]) H locs := hW
        refine W.eq (g2 := F0 m 77 ls [.int (hr_v t sn p1), .int (10 * (nI v))]) rfl ?_
        refine W.widen (k := 0) (n := 0) (Nat.le_of_ble_eq_true rfl) (Nat.le_of_ble_eq_true rfl) ?_
        refine lv_iadd gX gB dX6_readNumber_77 ?_
        refine lv_bipush (v := 48) gX gB dX6_readNumber_78 (by decide) ?_
        refine lv_isub gX gB dX6_readNumber_80 ?_
        refine gx_topi (show (((10 * (nI v)) + (hr_v t sn p1)) - 48) = nI (10 * v + (t p1 - 48)) from rn_add hdg) ?_
        refine lv_istore_n (lv' := [(3, .int (nI (10 * v + (t p1 - 48)))), (4, .int (nI k)), (2, .int 0), (0, .ref (ad 0))]) gX gB dX6_readNumber_81 rfl hl (by decide) rfl (fun ls hl => ?_)
        refine lv_iinc (v := nI (k + 1)) (lv' := [(4, .int (nI (k + 1))), (3, .int (nI (10 * v + (t p1 - 48)))), (2, .int 0), (0, .ref (ad 0))]) gX gB dX6_readNumber_82 hl (k := 1) rfl (by exact nI_1 k) (by decide) rfl (fun ls hl => ?_)
        refine lv_aload_n gX gB dX6_readNumber_85 rfl (lv_at hl 3 rfl) ?_
        refine lv_dup gX gB dX6_readNumber_86 rfl ?_
        refine gx_get C hW fX6_124 ⟨0, rfl⟩ rfl dX6_readNumber_87 ?_
        refine lv_iconst (v := 1) gX gB dX6_readNumber_90 (by decide) ?_
        refine lv_iadd gX gB dX6_readNumber_91 ?_
        refine gx_topi (show ((nI p1) + 1) = nI (p1 + 1) from nI_1 p1) ?_
        refine gx_putE C hW clX6 fX6_124 0 rfl (Or.inl rfl) rfl rfl (Nat.le_of_ble_eq_true rfl) dX6_readNumber_92 (fun H locs hW => ?_)
        have hW : gx_W G A s ([(ad 0, .inr (11, [.int cd, .int (nI pn), .ref (ad 1), .ref (ad 2), .ref (ad 3), .ref (ad 4), .ref (ad 5), .int (nI fn), .ref (ad 6), .ref (ad 7), .int (nI dn), .ref (ad 8), .long ex, .long ey, .long eg, .int (nI cn), .ref (ad 9), .ref (ad 10), .int (nI sn), .int (nI (p1 + 1)), .int (-1), .int (nI tn), .ref (ad 11), .ref (ad 12)])), (ad 1, .inl (G.2.1 2, 16, .inr (.inl px))), (ad 2, .inl (G.2.1 2, 16, .inr (.inl py))), (ad 3, .inl (G.2.1 2, 16, .inr (.inl pz))), (ad 4, .inl (G.2.1 2, 16, .inr (.inl gr))), (ad 5, .inl (G.2.1 2, 16, .inr (.inl ou))), (ad 6, .inl (G.2.1 2, 12, .inr (.inl fx))), (ad 7, .inl (G.2.1 2, 12, .inr (.inl fy))), (ad 8, .inl (G.2.1 1, 8, .inl od)), (ad 9, .inl (G.2.1 1, 12, .inl cr)), (ad 10, .inl (G.2.1 1, 200, .inl ty)), (ad 11, .inl (G.2.1 1, 48, .inl to_)), (ad 12, .inl (G.2.1 1, 48, .inl dr))]) H locs := hW
        refine lv_goto (tgt := 45) gX gB dX6_readNumber_95 (by decide) ?_
        exact ih (k + 1) (p1 + 1) (10 * v + (t p1 - 48)) (by omega) (by omega) (by omega) (by omega) ((dg_step hk5 hdg).symm.trans hR) _ _ hW ls (lv_sub hl [0, 1, 2, 3] rfl)
      · have hE : dr_at t sn 5 zp 0 = (p1, v) := hR.symm.trans (dg_stop hdg)
        refine lv_iload gX gB dX6_readNumber_45 (lv_at hl 0 rfl) ?_
        refine lv_iconst (v := 5) gX gB dX6_readNumber_47 (by decide) ?_
        refine lv_icmp_ge (tgt := 98) gX gB dX6_readNumber_48 (by decide) (fun h9 => absurd (show (5 : Int32) ≤ (nI k) from h9) (fun zz => absurd ((nI_leI (a := 5) (b := k) (by decide) (by omega)).mp zz) (by omega))) (fun _ => ?_)
        refine lv_aload_n gX gB dX6_readNumber_51 rfl (lv_at hl 3 rfl) ?_
        refine gx_callV (wr := []) (rest := []) C hW sX6_130 (kX6_here l G ad cd pn fn dn cn sn tn ex ey eg at0 (-1) px py pz gr ou fx fy od cr ty to_ dr t hsn hty ht8 p1 (by omega)) ⟨0, rfl⟩ rfl rfl ⟨(Nat.le_of_ble_eq_true rfl), (Nat.le_of_ble_eq_true rfl)⟩ hl.1 rfl (Nat.le_of_ble_eq_true rfl) dX6_readNumber_52 ⟨(Nat.le_of_ble_eq_true rfl), (Nat.le_of_ble_eq_true rfl)⟩ (fun v9 u9 H locs hp hW => ?_)
        obtain ⟨rfl, hu⟩ := hp
        rw [hu] at hW
        have hW : gx_W G A s ([(ad 0, .inr (11, [.int cd, .int (nI pn), .ref (ad 1), .ref (ad 2), .ref (ad 3), .ref (ad 4), .ref (ad 5), .int (nI fn), .ref (ad 6), .ref (ad 7), .int (nI dn), .ref (ad 8), .long ex, .long ey, .long eg, .int (nI cn), .ref (ad 9), .ref (ad 10), .int (nI sn), .int (nI p1), .int (-1), .int (nI tn), .ref (ad 11), .ref (ad 12)])), (ad 1, .inl (G.2.1 2, 16, .inr (.inl px))), (ad 2, .inl (G.2.1 2, 16, .inr (.inl py))), (ad 3, .inl (G.2.1 2, 16, .inr (.inl pz))), (ad 4, .inl (G.2.1 2, 16, .inr (.inl gr))), (ad 5, .inl (G.2.1 2, 16, .inr (.inl ou))), (ad 6, .inl (G.2.1 2, 12, .inr (.inl fx))), (ad 7, .inl (G.2.1 2, 12, .inr (.inl fy))), (ad 8, .inl (G.2.1 1, 8, .inl od)), (ad 9, .inl (G.2.1 1, 12, .inl cr)), (ad 10, .inl (G.2.1 1, 200, .inl ty)), (ad 11, .inl (G.2.1 1, 48, .inl to_)), (ad 12, .inl (G.2.1 1, 48, .inl dr))]) H locs := hW
        refine W.eq (g2 := F0 m 55 ls [.int (hr_v t sn p1)]) rfl ?_
        refine W.widen (k := 0) (n := 0) (Nat.le_of_ble_eq_true rfl) (Nat.le_of_ble_eq_true rfl) ?_
        refine lv_bipush (v := 48) gX gB dX6_readNumber_55 (by decide) ?_
        refine lv_icmp_lt (tgt := 98) gX gB dX6_readNumber_57 (by decide) (fun _ => ?_) (fun h9 => absurd (show (hr_v t sn p1) < (48 : Int32) from by rw [hr_0 hpn]; decide) h9)
        rcases (by omega : k = 0 ∨ 0 < k) with hk0 | hk0
        · refine lv_iload gX gB dX6_readNumber_98 (lv_at hl 0 rfl) ?_
          refine lv_if_ne (tgt := 107) gX gB dX6_readNumber_100 (by decide) (fun h9 => absurd (show ¬ (nI k) = (0 : Int32) from h9) (by rw [hk0]; exact fun zz => zz rfl)) (fun _ => ?_)
          refine lv_aload_n gX gB dX6_readNumber_103 rfl (lv_at hl 3 rfl) ?_
          refine gx_callV (wr := []) (rest := []) C hW sX6_134 (kX6_fail l G ad cd pn fn dn cn sn tn ex ey eg (nI p1) fl px py pz gr ou fx fy od cr ty to_ dr) ⟨0, rfl⟩ rfl rfl ⟨(Nat.le_of_ble_eq_true rfl), (Nat.le_of_ble_eq_true rfl)⟩ hl.1 rfl (Nat.le_of_ble_eq_true rfl) dX6_readNumber_104 ⟨(Nat.le_of_ble_eq_true rfl), (Nat.le_of_ble_eq_true rfl)⟩ (fun v9 u9 H locs hp hW => ?_)
          obtain ⟨rfl, hu⟩ := hp
          rw [hu] at hW
          have hW : gx_W G A s ([(ad 0, .inr (11, [.int cd, .int (nI pn), .ref (ad 1), .ref (ad 2), .ref (ad 3), .ref (ad 4), .ref (ad 5), .int (nI fn), .ref (ad 6), .ref (ad 7), .int (nI dn), .ref (ad 8), .long ex, .long ey, .long eg, .int (nI cn), .ref (ad 9), .ref (ad 10), .int (nI sn), .int (nI p1), .int (nI p1), .int (nI tn), .ref (ad 11), .ref (ad 12)])), (ad 1, .inl (G.2.1 2, 16, .inr (.inl px))), (ad 2, .inl (G.2.1 2, 16, .inr (.inl py))), (ad 3, .inl (G.2.1 2, 16, .inr (.inl pz))), (ad 4, .inl (G.2.1 2, 16, .inr (.inl gr))), (ad 5, .inl (G.2.1 2, 16, .inr (.inl ou))), (ad 6, .inl (G.2.1 2, 12, .inr (.inl fx))), (ad 7, .inl (G.2.1 2, 12, .inr (.inl fy))), (ad 8, .inl (G.2.1 1, 8, .inl od)), (ad 9, .inl (G.2.1 1, 12, .inl cr)), (ad 10, .inl (G.2.1 1, 200, .inl ty)), (ad 11, .inl (G.2.1 1, 48, .inl to_)), (ad 12, .inl (G.2.1 1, 48, .inl dr))]) H locs := hW
          refine W.eq (g2 := F0 m 107 ls []) rfl ?_
          refine W.widen (k := 0) (n := 0) (Nat.le_of_ble_eq_true rfl) (Nat.le_of_ble_eq_true rfl) ?_
          refine lv_iload_n gX gB dX6_readNumber_107 rfl (lv_at hl 2 rfl) ?_
          refine lv_if_eq (tgt := 116) gX gB dX6_readNumber_108 (by decide) (fun _ => ?_) (fun h9 => absurd (show 0 = (0 : Int32) from by decide) h9)
          refine lv_iload_n gX gB dX6_readNumber_116 rfl (lv_at hl 1 rfl) ?_
          exact gx_iret C hr hW (⟨by rw [hE], by rw [hE, if_neg (show ¬ zp < (p1, v).1 from (by omega : ¬ zp < p1))]⟩) (Nat.le_of_ble_eq_true rfl) (Nat.le_of_ble_eq_true rfl) dX6_readNumber_117
        · refine lv_iload gX gB dX6_readNumber_98 (lv_at hl 0 rfl) ?_
          refine lv_if_ne (tgt := 107) gX gB dX6_readNumber_100 (by decide) (fun _ => ?_) (fun h9 => absurd h9 (show ¬ (nI k) = (0 : Int32) from fun zz => absurd ((nI_eq (b := 0) (by omega) (by decide)).mp zz) (by omega)))
          refine lv_iload_n gX gB dX6_readNumber_107 rfl (lv_at hl 2 rfl) ?_
          refine lv_if_eq (tgt := 116) gX gB dX6_readNumber_108 (by decide) (fun _ => ?_) (fun h9 => absurd (show 0 = (0 : Int32) from by decide) h9)
          refine lv_iload_n gX gB dX6_readNumber_116 rfl (lv_at hl 1 rfl) ?_
          exact gx_iret C hr hW (⟨by rw [hE], by rw [hE, if_pos (show zp < (p1, v).1 from (by omega : zp < p1))]⟩) (Nat.le_of_ble_eq_true rfl) (Nat.le_of_ble_eq_true rfl) dX6_readNumber_117
      · have hE : dr_at t sn 5 zp 0 = (p1, v) := hR.symm.trans (dg_stop hdg)
        refine lv_iload gX gB dX6_readNumber_45 (lv_at hl 0 rfl) ?_
        refine lv_iconst (v := 5) gX gB dX6_readNumber_47 (by decide) ?_
        refine lv_icmp_ge (tgt := 98) gX gB dX6_readNumber_48 (by decide) (fun h9 => absurd (show (5 : Int32) ≤ (nI k) from h9) (fun zz => absurd ((nI_leI (a := 5) (b := k) (by decide) (by omega)).mp zz) (by omega))) (fun _ => ?_)
        refine lv_aload_n gX gB dX6_readNumber_51 rfl (lv_at hl 3 rfl) ?_
        refine gx_callV (wr := []) (rest := []) C hW sX6_130 (kX6_here l G ad cd pn fn dn cn sn tn ex ey eg at0 (-1) px py pz gr ou fx fy od cr ty to_ dr t hsn hty ht8 p1 (by omega)) ⟨0, rfl⟩ rfl rfl ⟨(Nat.le_of_ble_eq_true rfl), (Nat.le_of_ble_eq_true rfl)⟩ hl.1 rfl (Nat.le_of_ble_eq_true rfl) dX6_readNumber_52 ⟨(Nat.le_of_ble_eq_true rfl), (Nat.le_of_ble_eq_true rfl)⟩ (fun v9 u9 H locs hp hW => ?_)
        obtain ⟨rfl, hu⟩ := hp
        rw [hu] at hW
        have hW : gx_W G A s ([(ad 0, .inr (11, [.int cd, .int (nI pn), .ref (ad 1), .ref (ad 2), .ref (ad 3), .ref (ad 4), .ref (ad 5), .int (nI fn), .ref (ad 6), .ref (ad 7), .int (nI dn), .ref (ad 8), .long ex, .long ey, .long eg, .int (nI cn), .ref (ad 9), .ref (ad 10), .int (nI sn), .int (nI p1), .int (-1), .int (nI tn), .ref (ad 11), .ref (ad 12)])), (ad 1, .inl (G.2.1 2, 16, .inr (.inl px))), (ad 2, .inl (G.2.1 2, 16, .inr (.inl py))), (ad 3, .inl (G.2.1 2, 16, .inr (.inl pz))), (ad 4, .inl (G.2.1 2, 16, .inr (.inl gr))), (ad 5, .inl (G.2.1 2, 16, .inr (.inl ou))), (ad 6, .inl (G.2.1 2, 12, .inr (.inl fx))), (ad 7, .inl (G.2.1 2, 12, .inr (.inl fy))), (ad 8, .inl (G.2.1 1, 8, .inl od)), (ad 9, .inl (G.2.1 1, 12, .inl cr)), (ad 10, .inl (G.2.1 1, 200, .inl ty)), (ad 11, .inl (G.2.1 1, 48, .inl to_)), (ad 12, .inl (G.2.1 1, 48, .inl dr))]) H locs := hW
        refine W.eq (g2 := F0 m 55 ls [.int (hr_v t sn p1)]) rfl ?_
        refine W.widen (k := 0) (n := 0) (Nat.le_of_ble_eq_true rfl) (Nat.le_of_ble_eq_true rfl) ?_
        refine lv_bipush (v := 48) gX gB dX6_readNumber_55 (by decide) ?_
        refine lv_icmp_lt (tgt := 98) gX gB dX6_readNumber_57 (by decide) (fun _ => ?_) (fun h9 => absurd (show (hr_v t sn p1) < (48 : Int32) from by rw [hr_1 hpn]; exact nI_lt (a := t p1) (b := 48) h48 (by decide)) h9)
        rcases (by omega : k = 0 ∨ 0 < k) with hk0 | hk0
        · refine lv_iload gX gB dX6_readNumber_98 (lv_at hl 0 rfl) ?_
          refine lv_if_ne (tgt := 107) gX gB dX6_readNumber_100 (by decide) (fun h9 => absurd (show ¬ (nI k) = (0 : Int32) from h9) (by rw [hk0]; exact fun zz => zz rfl)) (fun _ => ?_)
          refine lv_aload_n gX gB dX6_readNumber_103 rfl (lv_at hl 3 rfl) ?_
          refine gx_callV (wr := []) (rest := []) C hW sX6_134 (kX6_fail l G ad cd pn fn dn cn sn tn ex ey eg (nI p1) fl px py pz gr ou fx fy od cr ty to_ dr) ⟨0, rfl⟩ rfl rfl ⟨(Nat.le_of_ble_eq_true rfl), (Nat.le_of_ble_eq_true rfl)⟩ hl.1 rfl (Nat.le_of_ble_eq_true rfl) dX6_readNumber_104 ⟨(Nat.le_of_ble_eq_true rfl), (Nat.le_of_ble_eq_true rfl)⟩ (fun v9 u9 H locs hp hW => ?_)
          obtain ⟨rfl, hu⟩ := hp
          rw [hu] at hW
          have hW : gx_W G A s ([(ad 0, .inr (11, [.int cd, .int (nI pn), .ref (ad 1), .ref (ad 2), .ref (ad 3), .ref (ad 4), .ref (ad 5), .int (nI fn), .ref (ad 6), .ref (ad 7), .int (nI dn), .ref (ad 8), .long ex, .long ey, .long eg, .int (nI cn), .ref (ad 9), .ref (ad 10), .int (nI sn), .int (nI p1), .int (nI p1), .int (nI tn), .ref (ad 11), .ref (ad 12)])), (ad 1, .inl (G.2.1 2, 16, .inr (.inl px))), (ad 2, .inl (G.2.1 2, 16, .inr (.inl py))), (ad 3, .inl (G.2.1 2, 16, .inr (.inl pz))), (ad 4, .inl (G.2.1 2, 16, .inr (.inl gr))), (ad 5, .inl (G.2.1 2, 16, .inr (.inl ou))), (ad 6, .inl (G.2.1 2, 12, .inr (.inl fx))), (ad 7, .inl (G.2.1 2, 12, .inr (.inl fy))), (ad 8, .inl (G.2.1 1, 8, .inl od)), (ad 9, .inl (G.2.1 1, 12, .inl cr)), (ad 10, .inl (G.2.1 1, 200, .inl ty)), (ad 11, .inl (G.2.1 1, 48, .inl to_)), (ad 12, .inl (G.2.1 1, 48, .inl dr))]) H locs := hW
          refine W.eq (g2 := F0 m 107 ls []) rfl ?_
          refine W.widen (k := 0) (n := 0) (Nat.le_of_ble_eq_true rfl) (Nat.le_of_ble_eq_true rfl) ?_
          refine lv_iload_n gX gB dX6_readNumber_107 rfl (lv_at hl 2 rfl) ?_
          refine lv_if_eq (tgt := 116) gX gB dX6_readNumber_108 (by decide) (fun _ => ?_) (fun h9 => absurd (show 0 = (0 : Int32) from by decide) h9)
          refine lv_iload_n gX gB dX6_readNumber_116 rfl (lv_at hl 1 rfl) ?_
          exact gx_iret C hr hW (⟨by rw [hE], by rw [hE, if_neg (show ¬ zp < (p1, v).1 from (by omega : ¬ zp < p1))]⟩) (Nat.le_of_ble_eq_true rfl) (Nat.le_of_ble_eq_true rfl) dX6_readNumber_117
        · refine lv_iload gX gB dX6_readNumber_98 (lv_at hl 0 rfl) ?_
          refine lv_if_ne (tgt := 107) gX gB dX6_readNumber_100 (by decide) (fun _ => ?_) (fun h9 => absurd h9 (show ¬ (nI k) = (0 : Int32) from fun zz => absurd ((nI_eq (b := 0) (by omega) (by decide)).mp zz) (by omega)))
          refine lv_iload_n gX gB dX6_readNumber_107 rfl (lv_at hl 2 rfl) ?_
          refine lv_if_eq (tgt := 116) gX gB dX6_readNumber_108 (by decide) (fun _ => ?_) (fun h9 => absurd (show 0 = (0 : Int32) from by decide) h9)
          refine lv_iload_n gX gB dX6_readNumber_116 rfl (lv_at hl 1 rfl) ?_
          exact gx_iret C hr hW (⟨by rw [hE], by rw [hE, if_pos (show zp < (p1, v).1 from (by omega : zp < p1))]⟩) (Nat.le_of_ble_eq_true rfl) (Nat.le_of_ble_eq_true rfl) dX6_readNumber_117
      · have hE : dr_at t sn 5 zp 0 = (p1, v) := hR.symm.trans (dg_stop hdg)
        have h128 := ht8 p1 hpn
        refine lv_iload gX gB dX6_readNumber_45 (lv_at hl 0 rfl) ?_
        refine lv_iconst (v := 5) gX gB dX6_readNumber_47 (by decide) ?_
        refine lv_icmp_ge (tgt := 98) gX gB dX6_readNumber_48 (by decide) (fun h9 => absurd (show (5 : Int32) ≤ (nI k) from h9) (fun zz => absurd ((nI_leI (a := 5) (b := k) (by decide) (by omega)).mp zz) (by omega))) (fun _ => ?_)
        refine lv_aload_n gX gB dX6_readNumber_51 rfl (lv_at hl 3 rfl) ?_
        refine gx_callV (wr := []) (rest := []) C hW sX6_130 (kX6_here l G ad cd pn fn dn cn sn tn ex ey eg at0 (-1) px py pz gr ou fx fy od cr ty to_ dr t hsn hty ht8 p1 (by omega)) ⟨0, rfl⟩ rfl rfl ⟨(Nat.le_of_ble_eq_true rfl), (Nat.le_of_ble_eq_true rfl)⟩ hl.1 rfl (Nat.le_of_ble_eq_true rfl) dX6_readNumber_52 ⟨(Nat.le_of_ble_eq_true rfl), (Nat.le_of_ble_eq_true rfl)⟩ (fun v9 u9 H locs hp hW => ?_)
        obtain ⟨rfl, hu⟩ := hp
        rw [hu] at hW
        have hW : gx_W G A s ([(ad 0, .inr (11, [.int cd, .int (nI pn), .ref (ad 1), .ref (ad 2), .ref (ad 3), .ref (ad 4), .ref (ad 5), .int (nI fn), .ref (ad 6), .ref (ad 7), .int (nI dn), .ref (ad 8), .long ex, .long ey, .long eg, .int (nI cn), .ref (ad 9), .ref (ad 10), .int (nI sn), .int (nI p1), .int (-1), .int (nI tn), .ref (ad 11), .ref (ad 12)])), (ad 1, .inl (G.2.1 2, 16, .inr (.inl px))), (ad 2, .inl (G.2.1 2, 16, .inr (.inl py))), (ad 3, .inl (G.2.1 2, 16, .inr (.inl pz))), (ad 4, .inl (G.2.1 2, 16, .inr (.inl gr))), (ad 5, .inl (G.2.1 2, 16, .inr (.inl ou))), (ad 6, .inl (G.2.1 2, 12, .inr (.inl fx))), (ad 7, .inl (G.2.1 2, 12, .inr (.inl fy))), (ad 8, .inl (G.2.1 1, 8, .inl od)), (ad 9, .inl (G.2.1 1, 12, .inl cr)), (ad 10, .inl (G.2.1 1, 200, .inl ty)), (ad 11, .inl (G.2.1 1, 48, .inl to_)), (ad 12, .inl (G.2.1 1, 48, .inl dr))]) H locs := hW
        refine W.eq (g2 := F0 m 55 ls [.int (hr_v t sn p1)]) rfl ?_
        refine W.widen (k := 0) (n := 0) (Nat.le_of_ble_eq_true rfl) (Nat.le_of_ble_eq_true rfl) ?_
        refine lv_bipush (v := 48) gX gB dX6_readNumber_55 (by decide) ?_
        refine lv_icmp_lt (tgt := 98) gX gB dX6_readNumber_57 (by decide) (fun h9 => absurd (show (hr_v t sn p1) < (48 : Int32) from h9) (by rw [hr_1 hpn]; exact nI_nlt (a := t p1) (b := 48) h48 (by omega))) (fun _ => ?_)
        refine lv_aload_n gX gB dX6_readNumber_60 rfl (lv_at hl 3 rfl) ?_
        refine gx_callV (wr := []) (rest := []) C hW sX6_130 (kX6_here l G ad cd pn fn dn cn sn tn ex ey eg at0 (-1) px py pz gr ou fx fy od cr ty to_ dr t hsn hty ht8 p1 (by omega)) ⟨0, rfl⟩ rfl rfl ⟨(Nat.le_of_ble_eq_true rfl), (Nat.le_of_ble_eq_true rfl)⟩ hl.1 rfl (Nat.le_of_ble_eq_true rfl) dX6_readNumber_61 ⟨(Nat.le_of_ble_eq_true rfl), (Nat.le_of_ble_eq_true rfl)⟩ (fun v9 u9 H locs hp hW => ?_)
        obtain ⟨rfl, hu⟩ := hp
        rw [hu] at hW
        have hW : gx_W G A s ([(ad 0, .inr (11, [.int cd, .int (nI pn), .ref (ad 1), .ref (ad 2), .ref (ad 3), .ref (ad 4), .ref (ad 5), .int (nI fn), .ref (ad 6), .ref (ad 7), .int (nI dn), .ref (ad 8), .long ex, .long ey, .long eg, .int (nI cn), .ref (ad 9), .ref (ad 10), .int (nI sn), .int (nI p1), .int (-1), .int (nI tn), .ref (ad 11), .ref (ad 12)])), (ad 1, .inl (G.2.1 2, 16, .inr (.inl px))), (ad 2, .inl (G.2.1 2, 16, .inr (.inl py))), (ad 3, .inl (G.2.1 2, 16, .inr (.inl pz))), (ad 4, .inl (G.2.1 2, 16, .inr (.inl gr))), (ad 5, .inl (G.2.1 2, 16, .inr (.inl ou))), (ad 6, .inl (G.2.1 2, 12, .inr (.inl fx))), (ad 7, .inl (G.2.1 2, 12, .inr (.inl fy))), (ad 8, .inl (G.2.1 1, 8, .inl od)), (ad 9, .inl (G.2.1 1, 12, .inl cr)), (ad 10, .inl (G.2.1 1, 200, .inl ty)), (ad 11, .inl (G.2.1 1, 48, .inl to_)), (ad 12, .inl (G.2.1 1, 48, .inl dr))]) H locs := hW
        refine W.eq (g2 := F0 m 64 ls [.int (hr_v t sn p1)]) rfl ?_
        refine W.widen (k := 0) (n := 0) (Nat.le_of_ble_eq_true rfl) (Nat.le_of_ble_eq_true rfl) ?_
        refine lv_bipush (v := 57) gX gB dX6_readNumber_64 (by decide) ?_
        refine lv_icmp_gt (tgt := 98) gX gB dX6_readNumber_66 (by decide) (fun _ => ?_) (fun h9 => absurd (show (57 : Int32) < (hr_v t sn p1) from by rw [hr_1 hpn]; exact nI_lt (a := 57) (b := t p1) h57 (by omega)) h9)
        rcases (by omega : k = 0 ∨ 0 < k) with hk0 | hk0
        · refine lv_iload gX gB dX6_readNumber_98 (lv_at hl 0 rfl) ?_
          refine lv_if_ne (tgt := 107) gX gB dX6_readNumber_100 (by decide) (fun h9 => absurd (show ¬ (nI k) = (0 : Int32) from h9) (by rw [hk0]; exact fun zz => zz rfl)) (fun _ => ?_)
          refine lv_aload_n gX gB dX6_readNumber_103 rfl (lv_at hl 3 rfl) ?_
          refine gx_callV (wr := []) (rest := []) C hW sX6_134 (kX6_fail l G ad cd pn fn dn cn sn tn ex ey eg (nI p1) fl px py pz gr ou fx fy od cr ty to_ dr) ⟨0, rfl⟩ rfl rfl ⟨(Nat.le_of_ble_eq_true rfl), (Nat.le_of_ble_eq_true rfl)⟩ hl.1 rfl (Nat.le_of_ble_eq_true rfl) dX6_readNumber_104 ⟨(Nat.le_of_ble_eq_true rfl), (Nat.le_of_ble_eq_true rfl)⟩ (fun v9 u9 H locs hp hW => ?_)
          obtain ⟨rfl, hu⟩ := hp
          rw [hu] at hW
          have hW : gx_W G A s ([(ad 0, .inr (11, [.int cd, .int (nI pn), .ref (ad 1), .ref (ad 2), .ref (ad 3), .ref (ad 4), .ref (ad 5), .int (nI fn), .ref (ad 6), .ref (ad 7), .int (nI dn), .ref (ad 8), .long ex, .long ey, .long eg, .int (nI cn), .ref (ad 9), .ref (ad 10), .int (nI sn), .int (nI p1), .int (nI p1), .int (nI tn), .ref (ad 11), .ref (ad 12)])), (ad 1, .inl (G.2.1 2, 16, .inr (.inl px))), (ad 2, .inl (G.2.1 2, 16, .inr (.inl py))), (ad 3, .inl (G.2.1 2, 16, .inr (.inl pz))), (ad 4, .inl (G.2.1 2, 16, .inr (.inl gr))), (ad 5, .inl (G.2.1 2, 16, .inr (.inl ou))), (ad 6, .inl (G.2.1 2, 12, .inr (.inl fx))), (ad 7, .inl (G.2.1 2, 12, .inr (.inl fy))), (ad 8, .inl (G.2.1 1, 8, .inl od)), (ad 9, .inl (G.2.1 1, 12, .inl cr)), (ad 10, .inl (G.2.1 1, 200, .inl ty)), (ad 11, .inl (G.2.1 1, 48, .inl to_)), (ad 12, .inl (G.2.1 1, 48, .inl dr))]) H locs := hW
          refine W.eq (g2 := F0 m 107 ls []) rfl ?_
          refine W.widen (k := 0) (n := 0) (Nat.le_of_ble_eq_true rfl) (Nat.le_of_ble_eq_true rfl) ?_
          refine lv_iload_n gX gB dX6_readNumber_107 rfl (lv_at hl 2 rfl) ?_
          refine lv_if_eq (tgt := 116) gX gB dX6_readNumber_108 (by decide) (fun _ => ?_) (fun h9 => absurd (show 0 = (0 : Int32) from by decide) h9)
          refine lv_iload_n gX gB dX6_readNumber_116 rfl (lv_at hl 1 rfl) ?_
          exact gx_iret C hr hW (⟨by rw [hE], by rw [hE, if_neg (show ¬ zp < (p1, v).1 from (by omega : ¬ zp < p1))]⟩) (Nat.le_of_ble_eq_true rfl) (Nat.le_of_ble_eq_true rfl) dX6_readNumber_117
        · refine lv_iload gX gB dX6_readNumber_98 (lv_at hl 0 rfl) ?_
          refine lv_if_ne (tgt := 107) gX gB dX6_readNumber_100 (by decide) (fun _ => ?_) (fun h9 => absurd h9 (show ¬ (nI k) = (0 : Int32) from fun zz => absurd ((nI_eq (b := 0) (by omega) (by decide)).mp zz) (by omega)))
          refine lv_iload_n gX gB dX6_readNumber_107 rfl (lv_at hl 2 rfl) ?_
          refine lv_if_eq (tgt := 116) gX gB dX6_readNumber_108 (by decide) (fun _ => ?_) (fun h9 => absurd (show 0 = (0 : Int32) from by decide) h9)
          refine lv_iload_n gX gB dX6_readNumber_116 rfl (lv_at hl 1 rfl) ?_
          exact gx_iret C hr hW (⟨by rw [hE], by rw [hE, if_pos (show zp < (p1, v).1 from (by omega : zp < p1))]⟩) (Nat.le_of_ble_eq_true rfl) (Nat.le_of_ble_eq_true rfl) dX6_readNumber_117
  exact loop 6 0 zp 0 (by omega) (by omega) (by omega) hq9 rfl _ _ hW ls (lv_sub hl [0, 1, 2, 3] rfl)
