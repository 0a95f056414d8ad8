/-! THE REFERENCE: rules. -/
/-- the tests told stand in a row of ints, four by four -/
def tl_is (ds : List rt_T) (dr : Nat → Int32) : Prop := ∀ j, j < ds.length → dr (4 * j) = (ds.getD j (0, 0, 0, 0)).1 ∧ dr (4 * j + 1) = (ds.getD j (0, 0, 0, 0)).2.1 ∧ dr (4 * j + 2) = (ds.getD j (0, 0, 0, 0)).2.2.1 ∧ dr (4 * j + 3) = (ds.getD j (0, 0, 0, 0)).2.2.2
theorem upd_ne {g : Nat → Int32} {a b : Nat} {v : Int32} (h : ¬ b = a) : upd g a v b = g b := by
  unfold upd
  rw [if_neg h]
theorem upd_eq {g : Nat → Int32} {a : Nat} {v : Int32} : upd g a v a = v := by
  unfold upd
  rw [if_pos rfl]
theorem tl_add {ds : List rt_T} {dr : Nat → Int32} {i : Nat} {d : rt_T} (hi : ds.length = i) (h : tl_is ds dr) : tl_is (ds ++ [d]) (upd (upd (upd (upd dr (4 * i) d.1) (4 * i + 1) d.2.1) (4 * i + 2) d.2.2.1) (4 * i + 3) d.2.2.2) := by
  intro j hj
  rw [List.length_append, List.length_singleton] at hj
  rcases Nat.lt_or_ge j ds.length with k | k
  · rw [List.getD_eq_getElem?_getD, List.getElem?_append_left k, ← List.getD_eq_getElem?_getD]
    obtain ⟨h1, h2, h3, h4⟩ := h j k
    refine ⟨?_, ?_, ?_, ?_⟩
    · rw [upd_ne (by omega), upd_ne (by omega), upd_ne (by omega), upd_ne (by omega)]; exact h1
    · rw [upd_ne (by omega), upd_ne (by omega), upd_ne (by omega), upd_ne (by omega)]; exact h2
    · rw [upd_ne (by omega), upd_ne (by omega), upd_ne (by omega), upd_ne (by omega)]; exact h3
    · rw [upd_ne (by omega), upd_ne (by omega), upd_ne (by omega), upd_ne (by omega)]; exact h4
  · have e : j = i := by omega
    subst e
    rw [List.getD_eq_getElem?_getD, List.getElem?_append_right k, show j - ds.length = 0 by omega]
    refine ⟨?_, ?_, ?_, ?_⟩
    · rw [upd_ne (by omega), upd_ne (by omega), upd_ne (by omega), upd_eq]; rfl
    · rw [upd_ne (by omega), upd_ne (by omega), upd_eq]; rfl
    · rw [upd_ne (by omega), upd_eq]; rfl
    · rw [upd_eq]; rfl
theorem tl_cp {ds : List rt_T} {dr to1 : Nat → Int32} (h : tl_is ds dr) (h2 : ∀ z, z < 4 * ds.length → to1 z = dr z) : tl_is ds to1 := by
  intro j hj
  obtain ⟨a, b, c, d⟩ := h j hj
  exact ⟨(h2 _ (by omega)).trans a, (h2 _ (by omega)).trans b, (h2 _ (by omega)).trans c, (h2 _ (by omega)).trans d⟩
set_option maxHeartbeats 4000000 in
set_option maxRecDepth 100000 in
theorem kX6_rules (l : Launch) (G : gx_T) (ad : Nat → Nat) (cd : Int32) (pn fn dn cn sn tn : Nat) (ex ey eg : Int64) (at0 fl : Int32) (px py pz gr ou fx fy : Nat → Int64) (od cr ty to_ dr : Nat → Int32) (t : Nat → Nat) (hsn : sn ≤ 200) (hty : ∀ i, i < sn → ty i = nI (t i)) (ht8 : ∀ i, i < sn → t i < 128) : gx_M l G yX6_rules cX6_rules 3 (some .int) ({ frames := 3, cells := 0, slots := 0, locals := 66 } : Room) [.ref (ad 0)] ([(ad 0, .inr (11, [.int cd, .int (nI pn), .ref (ad 1), .ref (ad 2), .ref (ad 3), .ref (ad 4), .ref (ad 5), .int (nI fn), .ref (ad 6), .ref (ad 7), .int (nI dn), .ref (ad 8), .long ex, .long ey, .long eg, .int (nI cn), .ref (ad 9), .ref (ad 10), .int (nI sn), .int at0, .int fl, .int (nI tn), .ref (ad 11), .ref (ad 12)])), (ad 1, .inl (G.2.1 2, 16, .inr (.inl px))), (ad 2, .inl (G.2.1 2, 16, .inr (.inl py))), (ad 3, .inl (G.2.1 2, 16, .inr (.inl pz))), (ad 4, .inl (G.2.1 2, 16, .inr (.inl gr))), (ad 5, .inl (G.2.1 2, 16, .inr (.inl ou))), (ad 6, .inl (G.2.1 2, 12, .inr (.inl fx))), (ad 7, .inl (G.2.1 2, 12, .inr (.inl fy))), (ad 8, .inl (G.2.1 1, 8, .inl od)), (ad 9, .inl (G.2.1 1, 12, .inl cr)), (ad 10, .inl (G.2.1 1, 200, .inl ty)), (ad 11, .inl (G.2.1 1, 48, .inl to_)), (ad 12, .inl (G.2.1 1, 48, .inl dr))]) (fun v9 u => (∃ (pq : Nat) (at1 : Int32) (dr1 : Nat → Int32), ra_at t sn 12 0 0 [] = .inl pq ∧ pq ≤ sn ∧ v9 = some (.int (-1 - nI pq)) ∧ u = [(ad 0, .inr (11, [.int 0, .int (nI pn), .ref (ad 1), .ref (ad 2), .ref (ad 3), .ref (ad 4), .ref (ad 5), .int (nI fn), .ref (ad 6), .ref (ad 7), .int (nI dn), .ref (ad 8), .long ex, .long ey, .long eg, .int (nI cn), .ref (ad 9), .ref (ad 10), .int 0, .int at1, .int (nI pq), .int (nI tn), .ref (ad 11), .ref (ad 12)])), (ad 1, .inl (G.2.1 2, 16, .inr (.inl px))), (ad 2, .inl (G.2.1 2, 16, .inr (.inl py))), (ad 3, .inl (G.2.1 2, 16, .inr (.inl pz))), (ad 4, .inl (G.2.1 2, 16, .inr (.inl gr))), (ad 5, .inl (G.2.1 2, 16, .inr (.inl ou))), (ad 6, .inl (G.2.1 2, 12, .inr (.inl fx))), (ad 7, .inl (G.2.1 2, 12, .inr (.inl fy))), (ad 8, .inl (G.2.1 1, 8, .inl od)), (ad 9, .inl (G.2.1 1, 12, .inl cr)), (ad 10, .inl (G.2.1 1, 200, .inl ty)), (ad 11, .inl (G.2.1 1, 48, .inl to_)), (ad 12, .inl (G.2.1 1, 48, .inl dr1))]) ∨ (∃ (ds : List rt_T) (at1 : Int32) (dr1 to1 : Nat → Int32), ra_at t sn 12 0 0 [] = .inr ds ∧ 0 < ds.length ∧ ds.length ≤ 12 ∧ tl_is ds to1 ∧ v9 = some (.int (nI ds.length)) ∧ u = [(ad 0, .inr (11, [.int 0, .int (nI pn), .ref (ad 1), .ref (ad 2), .ref (ad 3), .ref (ad 4), .ref (ad 5), .int (nI fn), .ref (ad 6), .ref (ad 7), .int (nI dn), .ref (ad 8), .long ex, .long ey, .long eg, .int (nI cn), .ref (ad 9), .ref (ad 10), .int 0, .int at1, .int (-1), .int (nI ds.length), .ref (ad 11), .ref (ad 12)])), (ad 1, .inl (G.2.1 2, 16, .inr (.inl px))), (ad 2, .inl (G.2.1 2, 16, .inr (.inl py))), (ad 3, .inl (G.2.1 2, 16, .inr (.inl pz))), (ad 4, .inl (G.2.1 2, 16, .inr (.inl gr))), (ad 5, .inl (G.2.1 2, 16, .inr (.inl ou))), (ad 6, .inl (G.2.1 2, 12, .inr (.inl fx))), (ad 7, .inl (G.2.1 2, 12, .inr (.inl fy))), (ad 8, .inl (G.2.1 1, 8, .inl od)), (ad 9, .inl (G.2.1 1, 12, .inl cr)), (ad 10, .inl (G.2.1 1, 200, .inl ty)), (ad 11, .inl (G.2.1 1, 48, .inl to1)), (ad 12, .inl (G.2.1 1, 48, .inl dr1))])) := by
  refine gx_start (by decide +kernel) (Nat.le_of_ble_eq_true rfl) ?_
  intro p e s m args below meth c A ls C hr hnm hW hl
  have gX := C.x
  have gB := C.b
  have hl : lv_has ls 3 [(0, .ref (ad 0))] := hl
  refine lv_aload_n gX gB dX6_rules_0 rfl (lv_at hl 0 rfl) ?_
  refine lv_iconst (v := 0) gX gB dX6_rules_1 (by decide) ?_
  refine gx_putE C hW clX6 fX6_47 0 rfl (Or.inl rfl) rfl rfl (Nat.le_of_ble_eq_true rfl) dX6_rules_2 (fun H locs hW => ?_)
  have hW : gx_W G A s ([(ad 0, .inr (11, [.int 0, .int (nI pn), .ref (ad 1), .ref (ad 2), .ref (ad 3), .ref (ad 4), .ref (ad 5), .int (nI fn), .ref (ad 6), .ref (ad 7), .int (nI dn), .ref (ad 8), .long ex, .long ey, .long eg, .int (nI cn), .ref (ad 9), .ref (ad 10), .int (nI sn), .int at0, .int fl, .int (nI tn), .ref (ad 11), .ref (ad 12)])), (ad 1, .inl (G.2.1 2, 16, .inr (.inl px))), (ad 2, .inl (G.2.1 2, 16, .inr (.inl py))), (ad 3, .inl (G.2.1 2, 16, .inr (.inl pz))), (ad 4, .inl (G.2.1 2, 16, .inr (.inl gr))), (ad 5, .inl (G.2.1 2, 16, .inr (.inl ou))), (ad 6, .inl (G.2.1 2, 12, .inr (.inl fx))), (ad 7, .inl (G.2.1 2, 12, .inr (.inl fy))), (ad 8, .inl (G.2.1 1, 8, .inl od)), (ad 9, .inl (G.2.1 1, 12, .inl cr)), (ad 10, .inl (G.2.1 1, 200, .inl ty)), (ad 11, .inl (G.2.1 1, 48, .inl to_)), (ad 12, .inl (G.2.1 1, 48, .inl dr))]) H locs := hW
  refine lv_aload_n gX gB dX6_rules_5 rfl (lv_at hl 0 rfl) ?_
  refine lv_iconst (v := 0) gX gB dX6_rules_6 (by decide) ?_
  refine gx_putE C hW clX6 fX6_124 0 rfl (Or.inl rfl) rfl rfl (Nat.le_of_ble_eq_true rfl) dX6_rules_7 (fun H locs hW => ?_)
  have hW : gx_W G A s ([(ad 0, .inr (11, [.int 0, .int (nI pn), .ref (ad 1), .ref (ad 2), .ref (ad 3), .ref (ad 4), .ref (ad 5), .int (nI fn), .ref (ad 6), .ref (ad 7), .int (nI dn), .ref (ad 8), .long ex, .long ey, .long eg, .int (nI cn), .ref (ad 9), .ref (ad 10), .int (nI sn), .int 0, .int fl, .int (nI tn), .ref (ad 11), .ref (ad 12)])), (ad 1, .inl (G.2.1 2, 16, .inr (.inl px))), (ad 2, .inl (G.2.1 2, 16, .inr (.inl py))), (ad 3, .inl (G.2.1 2, 16, .inr (.inl pz))), (ad 4, .inl (G.2.1 2, 16, .inr (.inl gr))), (ad 5, .inl (G.2.1 2, 16, .inr (.inl ou))), (ad 6, .inl (G.2.1 2, 12, .inr (.inl fx))), (ad 7, .inl (G.2.1 2, 12, .inr (.inl fy))), (ad 8, .inl (G.2.1 1, 8, .inl od)), (ad 9, .inl (G.2.1 1, 12, .inl cr)), (ad 10, .inl (G.2.1 1, 200, .inl ty)), (ad 11, .inl (G.2.1 1, 48, .inl to_)), (ad 12, .inl (G.2.1 1, 48, .inl dr))]) H locs := hW
  refine lv_aload_n gX gB dX6_rules_10 rfl (lv_at hl 0 rfl) ?_
  refine lv_iconst (v := (-1)) gX gB dX6_rules_11 (by decide) ?_
  refine gx_putE C hW clX6 fX6_127 0 rfl (Or.inl rfl) rfl rfl (Nat.le_of_ble_eq_true rfl) dX6_rules_12 (fun H locs hW => ?_)
  have hW : gx_W G A s ([(ad 0, .inr (11, [.int 0, .int (nI pn), .ref (ad 1), .ref (ad 2), .ref (ad 3), .ref (ad 4), .ref (ad 5), .int (nI fn), .ref (ad 6), .ref (ad 7), .int (nI dn), .ref (ad 8), .long ex, .long ey, .long eg, .int (nI cn), .ref (ad 9), .ref (ad 10), .int (nI sn), .int 0, .int (-1), .int (nI tn), .ref (ad 11), .ref (ad 12)])), (ad 1, .inl (G.2.1 2, 16, .inr (.inl px))), (ad 2, .inl (G.2.1 2, 16, .inr (.inl py))), (ad 3, .inl (G.2.1 2, 16, .inr (.inl pz))), (ad 4, .inl (G.2.1 2, 16, .inr (.inl gr))), (ad 5, .inl (G.2.1 2, 16, .inr (.inl ou))), (ad 6, .inl (G.2.1 2, 12, .inr (.inl fx))), (ad 7, .inl (G.2.1 2, 12, .inr (.inl fy))), (ad 8, .inl (G.2.1 1, 8, .inl od)), (ad 9, .inl (G.2.1 1, 12, .inl cr)), (ad 10, .inl (G.2.1 1, 200, .inl ty)), (ad 11, .inl (G.2.1 1, 48, .inl to_)), (ad 12, .inl (G.2.1 1, 48, .inl dr))]) H locs := hW
  refine lv_iconst (v := 0) gX gB dX6_rules_15 (by decide) ?_
  refine lv_istore_n (lv' := [(1, .int 0), (0, .ref (ad 0))]) gX gB dX6_rules_16 rfl hl (by decide) rfl (fun ls hl => ?_)
  refine lv_aload_n gX gB dX6_rules_17 rfl (lv_at hl 1 rfl) ?_
  refine lv_iconst (v := 0) gX gB dX6_rules_18 (by decide) ?_
  refine gx_callV (wr := []) (rest := []) C hW sX6_141 (kX6_readTest l G ad 0 pn fn dn cn sn tn ex ey eg at0 fl px py pz gr ou fx fy od cr ty to_ dr t hsn hty ht8 0 (by decide) 0 (Nat.zero_le _)) ⟨0, rfl⟩ rfl rfl ⟨(Nat.le_of_ble_eq_true rfl), (Nat.le_of_ble_eq_true rfl)⟩ hl.1 rfl (Nat.le_of_ble_eq_true rfl) dX6_rules_19 ⟨(Nat.le_of_ble_eq_true rfl), (Nat.le_of_ble_eq_true rfl)⟩ (fun v9 u9 H locs hp => ?_)
  rcases hp with ⟨rfl, pq, at1, dr2, hrt, hpq, rfl⟩ | ⟨rfl, pq, dd, hrt, hpq, rfl⟩
  · have hRF : ra_at t sn 12 0 0 [] = .inl pq := (ra_go (by decide) (Or.inl ⟨rfl, rfl⟩)).trans (by rw [hrt])
    intro hW
    have hW : gx_W G A s ([(ad 0, .inr (11, [.int 0, .int (nI pn), .ref (ad 1), .ref (ad 2), .ref (ad 3), .ref (ad 4), .ref (ad 5), .int (nI fn), .ref (ad 6), .ref (ad 7), .int (nI dn), .ref (ad 8), .long ex, .long ey, .long eg, .int (nI cn), .ref (ad 9), .ref (ad 10), .int (nI sn), .int at1, .int (nI pq), .int (nI tn), .ref (ad 11), .ref (ad 12)])), (ad 1, .inl (G.2.1 2, 16, .inr (.inl px))), (ad 2, .inl (G.2.1 2, 16, .inr (.inl py))), (ad 3, .inl (G.2.1 2, 16, .inr (.inl pz))), (ad 4, .inl (G.2.1 2, 16, .inr (.inl gr))), (ad 5, .inl (G.2.1 2, 16, .inr (.inl ou))), (ad 6, .inl (G.2.1 2, 12, .inr (.inl fx))), (ad 7, .inl (G.2.1 2, 12, .inr (.inl fy))), (ad 8, .inl (G.2.1 1, 8, .inl od)), (ad 9, .inl (G.2.1 1, 12, .inl cr)), (ad 10, .inl (G.2.1 1, 200, .inl ty)), (ad 11, .inl (G.2.1 1, 48, .inl to_)), (ad 12, .inl (G.2.1 1, 48, .inl dr2))]) H locs := hW
    refine W.eq (g2 := F0 m 22 ls []) rfl ?_
    refine W.widen (k := 0) (n := 0) (Nat.le_of_ble_eq_true rfl) (Nat.le_of_ble_eq_true rfl) ?_
    refine lv_iinc (v := 1) (lv' := [(1, .int 1), (0, .ref (ad 0))]) gX gB dX6_rules_22 hl (k := 0) rfl (by exact by decide) (by decide) rfl (fun ls hl => ?_)
    refine lv_aload_n gX gB dX6_rules_25 rfl (lv_at hl 1 rfl) ?_
    refine gx_get C hW fX6_127 ⟨0, rfl⟩ rfl dX6_rules_26 ?_
    refine lv_if_ge (tgt := 90) gX gB dX6_rules_29 (by decide) (fun _ => ?_) (fun h9 => absurd (show (0 : Int32) ≤ (nI pq) from nI_pos' (by omega)) h9)
    refine lv_aload_n gX gB dX6_rules_90 rfl (lv_at hl 1 rfl) ?_
    refine lv_iconst (v := 0) gX gB dX6_rules_91 (by decide) ?_
    refine gx_putE C hW clX6 fX6_121 0 rfl (Or.inl rfl) rfl rfl (Nat.le_of_ble_eq_true rfl) dX6_rules_92 (fun H locs hW => ?_)
    have hW : gx_W G A s ([(ad 0, .inr (11, [.int 0, .int (nI pn), .ref (ad 1), .ref (ad 2), .ref (ad 3), .ref (ad 4), .ref (ad 5), .int (nI fn), .ref (ad 6), .ref (ad 7), .int (nI dn), .ref (ad 8), .long ex, .long ey, .long eg, .int (nI cn), .ref (ad 9), .ref (ad 10), .int 0, .int at1, .int (nI pq), .int (nI tn), .ref (ad 11), .ref (ad 12)])), (ad 1, .inl (G.2.1 2, 16, .inr (.inl px))), (ad 2, .inl (G.2.1 2, 16, .inr (.inl py))), (ad 3, .inl (G.2.1 2, 16, .inr (.inl pz))), (ad 4, .inl (G.2.1 2, 16, .inr (.inl gr))), (ad 5, .inl (G.2.1 2, 16, .inr (.inl ou))), (ad 6, .inl (G.2.1 2, 12, .inr (.inl fx))), (ad 7, .inl (G.2.1 2, 12, .inr (.inl fy))), (ad 8, .inl (G.2.1 1, 8, .inl od)), (ad 9, .inl (G.2.1 1, 12, .inl cr)), (ad 10, .inl (G.2.1 1, 200, .inl ty)), (ad 11, .inl (G.2.1 1, 48, .inl to_)), (ad 12, .inl (G.2.1 1, 48, .inl dr2))]) H locs := hW
    refine lv_aload_n gX gB dX6_rules_95 rfl (lv_at hl 1 rfl) ?_
    refine gx_get C hW fX6_127 ⟨0, rfl⟩ rfl dX6_rules_96 ?_
    refine lv_if_lt (tgt := 109) gX gB dX6_rules_99 (by decide) (fun h9 => absurd (show (nI pq) < (0 : Int32) from h9) (nI_pos (by omega))) (fun _ => ?_)
    refine lv_iconst (v := (-1)) gX gB dX6_rules_102 (by decide) ?_
    refine lv_aload_n gX gB dX6_rules_103 rfl (lv_at hl 1 rfl) ?_
    refine gx_get C hW fX6_127 ⟨0, rfl⟩ rfl dX6_rules_104 ?_
    refine lv_isub gX gB dX6_rules_107 ?_
    exact gx_iret C hr hW (Or.inl ⟨pq, _, _, hRF, hpq, rfl, rfl⟩) (Nat.le_of_ble_eq_true rfl) (Nat.le_of_ble_eq_true rfl) dX6_rules_108
  · have hR2 : ra_at t sn 12 0 0 [] = (if sn ≤ pq then .inr ([] ++ [dd]) else ra_at t sn (12 - (0 + 1)) (0 + 1) pq ([] ++ [dd])) := (ra_go (by decide) (Or.inl ⟨rfl, rfl⟩)).trans (by rw [hrt])
    have htl2 := tl_add (d := dd) (i := 0) rfl (show tl_is [] dr from fun j hj => absurd hj (Nat.not_lt_zero _))
    intro hW
    have hW : gx_W G A s ([(ad 0, .inr (11, [.int 0, .int (nI pn), .ref (ad 1), .ref (ad 2), .ref (ad 3), .ref (ad 4), .ref (ad 5), .int (nI fn), .ref (ad 6), .ref (ad 7), .int (nI dn), .ref (ad 8), .long ex, .long ey, .long eg, .int (nI cn), .ref (ad 9), .ref (ad 10), .int (nI sn), .int (nI pq), .int (-1), .int (nI tn), .ref (ad 11), .ref (ad 12)])), (ad 1, .inl (G.2.1 2, 16, .inr (.inl px))), (ad 2, .inl (G.2.1 2, 16, .inr (.inl py))), (ad 3, .inl (G.2.1 2, 16, .inr (.inl pz))), (ad 4, .inl (G.2.1 2, 16, .inr (.inl gr))), (ad 5, .inl (G.2.1 2, 16, .inr (.inl ou))), (ad 6, .inl (G.2.1 2, 12, .inr (.inl fx))), (ad 7, .inl (G.2.1 2, 12, .inr (.inl fy))), (ad 8, .inl (G.2.1 1, 8, .inl od)), (ad 9, .inl (G.2.1 1, 12, .inl cr)), (ad 10, .inl (G.2.1 1, 200, .inl ty)), (ad 11, .inl (G.2.1 1, 48, .inl to_)), (ad 12, .inl (G.2.1 1, 48, .inl (upd (upd (upd (upd dr (4 * 0) dd.1) (4 * 0 + 1) dd.2.1) (4 * 0 + 2) dd.2.2.1) (4 * 0 + 3) dd.2.2.2)))]) H locs := hW
    refine W.eq (g2 := F0 m 22 ls []) rfl ?_
    refine W.widen (k := 0) (n := 0) (Nat.le_of_ble_eq_true rfl) (Nat.le_of_ble_eq_true rfl) ?_
    refine lv_iinc (v := 1) (lv' := [(1, .int 1), (0, .ref (ad 0))]) gX gB dX6_rules_22 hl (k := 0) rfl (by exact by decide) (by decide) rfl (fun ls hl => ?_)
    have hl : lv_has ls 3 [(1, .int (nI 1)), (0, .ref (ad 0))] := hl
    have loop : ∀ (fu : Nat) (i p1 : Nat) (ds : List rt_T) (dr1 : Nat → Int32), (13 - i < fu) → (0 < i) → (i ≤ 12) → (p1 ≤ sn) → (ds.length = i) → (tl_is ds dr1) → (ra_at t sn 12 0 0 [] = (if sn ≤ p1 then .inr ds else ra_at t sn (12 - i) i p1 ds)) → ∀ (H : Heap) (locs : List Loc), gx_W G A s ([(ad 0, .inr (11, [.int 0, .int (nI pn), .ref (ad 1), .ref (ad 2), .ref (ad 3), .ref (ad 4), .ref (ad 5), .int (nI fn), .ref (ad 6), .ref (ad 7), .int (nI dn), .ref (ad 8), .long ex, .long ey, .long eg, .int (nI cn), .ref (ad 9), .ref (ad 10), .int (nI sn), .int (nI p1), .int (-1), .int (nI tn), .ref (ad 11), .ref (ad 12)])), (ad 1, .inl (G.2.1 2, 16, .inr (.inl px))), (ad 2, .inl (G.2.1 2, 16, .inr (.inl py))), (ad 3, .inl (G.2.1 2, 16, .inr (.inl pz))), (ad 4, .inl (G.2.1 2, 16, .inr (.inl gr))), (ad 5, .inl (G.2.1 2, 16, .inr (.inl ou))), (ad 6, .inl (G.2.1 2, 12, .inr (.inl fx))), (ad 7, .inl (G.2.1 2, 12, .inr (.inl fy))), (ad 8, .inl (G.2.1 1, 8, .inl od)), (ad 9, .inl (G.2.1 1, 12, .inl cr)), (ad 10, .inl (G.2.1 1, 200, .inl ty)), (ad 11, .inl (G.2.1 1, 48, .inl to_)), (ad 12, .inl (G.2.1 1, 48, .inl dr1))]) H locs → ∀ ls : Array Slot, lv_has ls 3 [(1, .int (nI i)), (0, .ref (ad 0))] → W p l e ({ frames := 3, cells := 0, slots := 0, locals := 66 } : Room) s m args below meth c H locs 0 0 (MQ below (gx_Q G A (fun v9 u => (∃ (pq : Nat) (at1 : Int32) (dr1 : Nat → Int32), ra_at t sn 12 0 0 [] = .inl pq ∧ pq ≤ sn ∧ v9 = some (.int (-1 - nI pq)) ∧ u = [(ad 0, .inr (11, [.int 0, .int (nI pn), .ref (ad 1), .ref (ad 2), .ref (ad 3), .ref (ad 4), .ref (ad 5), .int (nI fn), .ref (ad 6), .ref (ad 7), .int (nI dn), .ref (ad 8), .long ex, .long ey, .long eg, .int (nI cn), .ref (ad 9), .ref (ad 10), .int 0, .int at1, .int (nI pq), .int (nI tn), .ref (ad 11), .ref (ad 12)])), (ad 1, .inl (G.2.1 2, 16, .inr (.inl px))), (ad 2, .inl (G.2.1 2, 16, .inr (.inl py))), (ad 3, .inl (G.2.1 2, 16, .inr (.inl pz))), (ad 4, .inl (G.2.1 2, 16, .inr (.inl gr))), (ad 5, .inl (G.2.1 2, 16, .inr (.inl ou))), (ad 6, .inl (G.2.1 2, 12, .inr (.inl fx))), (ad 7, .inl (G.2.1 2, 12, .inr (.inl fy))), (ad 8, .inl (G.2.1 1, 8, .inl od)), (ad 9, .inl (G.2.1 1, 12, .inl cr)), (ad 10, .inl (G.2.1 1, 200, .inl ty)), (ad 11, .inl (G.2.1 1, 48, .inl to_)), (ad 12, .inl (G.2.1 1, 48, .inl dr1))]) ∨ (∃ (ds : List rt_T) (at1 : Int32) (dr1 to1 : Nat → Int32), ra_at t sn 12 0 0 [] = .inr ds ∧ 0 < ds.length ∧ ds.length ≤ 12 ∧ tl_is ds to1 ∧ v9 = some (.int (nI ds.length)) ∧ u = [(ad 0, .inr (11, [.int 0, .int (nI pn), .ref (ad 1), .ref (ad 2), .ref (ad 3), .ref (ad 4), .ref (ad 5), .int (nI fn), .ref (ad 6), .ref (ad 7), .int (nI dn), .ref (ad 8), .long ex, .long ey, .long eg, .int (nI cn), .ref (ad 9), .ref (ad 10), .int 0, .int at1, .int (-1), .int (nI ds.length), .ref (ad 11), .ref (ad 12)])), (ad 1, .inl (G.2.1 2, 16, .inr (.inl px))), (ad 2, .inl (G.2.1 2, 16, .inr (.inl py))), (ad 3, .inl (G.2.1 2, 16, .inr (.inl pz))), (ad 4, .inl (G.2.1 2, 16, .inr (.inl gr))), (ad 5, .inl (G.2.1 2, 16, .inr (.inl ou))), (ad 6, .inl (G.2.1 2, 12, .inr (.inl fx))), (ad 7, .inl (G.2.1 2, 12, .inr (.inl fy))), (ad 8, .inl (G.2.1 1, 8, .inl od)), (ad 9, .inl (G.2.1 1, 12, .inl cr)), (ad 10, .inl (G.2.1 1, 200, .inl ty)), (ad 11, .inl (G.2.1 1, 48, .inl to1)), (ad 12, .inl (G.2.1 1, 48, .inl dr1))]))) args s (({ frames := 3, cells := 0, slots := 0, locals := 66 } : Room)).cells (({ frames := 3, cells := 0, slots := 0, locals := 66 } : Room)).slots A) (F0 m 25 ls []) := by
      intro fu
      induction fu with
      | zero => intro i p1 ds dr1 hfu hi1 hi hp1 hds htl hR H locs hW ls hl; exact absurd hfu (Nat.not_lt_zero _)
      | succ fu ih =>
        intro i p1 ds dr1 hfu hi1 hi hp1 hds htl hR H locs hW ls hl
        rcases (by omega : sn ≤ p1 ∨ p1 < sn) with hpn | hpn
        · have hRS : ra_at t sn 12 0 0 [] = .inr ds := hR.trans (if_pos hpn)
          refine lv_aload_n gX gB dX6_rules_25 rfl (lv_at hl 1 rfl) ?_
          refine gx_get C hW fX6_127 ⟨0, rfl⟩ rfl dX6_rules_26 ?_
          refine lv_if_ge (tgt := 90) gX gB dX6_rules_29 (by decide) (fun h9 => absurd (show (0 : Int32) ≤ (-1) from h9) (by decide)) (fun _ => ?_)
          refine lv_aload_n gX gB dX6_rules_32 rfl (lv_at hl 1 rfl) ?_
          refine gx_get C hW fX6_124 ⟨0, rfl⟩ rfl dX6_rules_33 ?_
          refine lv_aload_n gX gB dX6_rules_36 rfl (lv_at hl 1 rfl) ?_
          refine gx_get C hW fX6_121 ⟨0, rfl⟩ rfl dX6_rules_37 ?_
          refine lv_icmp_ge (tgt := 90) gX gB dX6_rules_40 (by decide) (fun _ => ?_) (fun h9 => absurd (show (nI sn) ≤ (nI p1) from nI_le hpn (by omega)) h9)
          refine lv_aload_n gX gB dX6_rules_90 rfl (lv_at hl 1 rfl) ?_
          refine lv_iconst (v := 0) gX gB dX6_rules_91 (by decide) ?_
          refine gx_putE C hW clX6 fX6_121 0 rfl (Or.inl rfl) rfl rfl (Nat.le_of_ble_eq_true rfl) dX6_rules_92 (fun H locs hW => ?_)
          have hW : gx_W G A s ([(ad 0, .inr (11, [.int 0, .int (nI pn), .ref (ad 1), .ref (ad 2), .ref (ad 3), .ref (ad 4), .ref (ad 5), .int (nI fn), .ref (ad 6), .ref (ad 7), .int (nI dn), .ref (ad 8), .long ex, .long ey, .long eg, .int (nI cn), .ref (ad 9), .ref (ad 10), .int 0, .int (nI p1), .int (-1), .int (nI tn), .ref (ad 11), .ref (ad 12)])), (ad 1, .inl (G.2.1 2, 16, .inr (.inl px))), (ad 2, .inl (G.2.1 2, 16, .inr (.inl py))), (ad 3, .inl (G.2.1 2, 16, .inr (.inl pz))), (ad 4, .inl (G.2.1 2, 16, .inr (.inl gr))), (ad 5, .inl (G.2.1 2, 16, .inr (.inl ou))), (ad 6, .inl (G.2.1 2, 12, .inr (.inl fx))), (ad 7, .inl (G.2.1 2, 12, .inr (.inl fy))), (ad 8, .inl (G.2.1 1, 8, .inl od)), (ad 9, .inl (G.2.1 1, 12, .inl cr)), (ad 10, .inl (G.2.1 1, 200, .inl ty)), (ad 11, .inl (G.2.1 1, 48, .inl to_)), (ad 12, .inl (G.2.1 1, 48, .inl dr1))]) H locs := hW
          refine lv_aload_n gX gB dX6_rules_95 rfl (lv_at hl 1 rfl) ?_
          refine gx_get C hW fX6_127 ⟨0, rfl⟩ rfl dX6_rules_96 ?_
          refine lv_if_lt (tgt := 109) gX gB dX6_rules_99 (by decide) (fun _ => ?_) (fun h9 => absurd (show (-1) < (0 : Int32) from by decide) h9)
          refine lv_aload_n gX gB dX6_rules_109 rfl (lv_at hl 1 rfl) ?_
          refine lv_iload_n gX gB dX6_rules_110 rfl (lv_at hl 0 rfl) ?_
          refine gx_putE C hW clX6 fX6_145 0 rfl (Or.inl rfl) rfl rfl (Nat.le_of_ble_eq_true rfl) dX6_rules_111 (fun H locs hW => ?_)
          have hW : gx_W G A s ([(ad 0, .inr (11, [.int 0, .int (nI pn), .ref (ad 1), .ref (ad 2), .ref (ad 3), .ref (ad 4), .ref (ad 5), .int (nI fn), .ref (ad 6), .ref (ad 7), .int (nI dn), .ref (ad 8), .long ex, .long ey, .long eg, .int (nI cn), .ref (ad 9), .ref (ad 10), .int 0, .int (nI p1), .int (-1), .int (nI i), .ref (ad 11), .ref (ad 12)])), (ad 1, .inl (G.2.1 2, 16, .inr (.inl px))), (ad 2, .inl (G.2.1 2, 16, .inr (.inl py))), (ad 3, .inl (G.2.1 2, 16, .inr (.inl pz))), (ad 4, .inl (G.2.1 2, 16, .inr (.inl gr))), (ad 5, .inl (G.2.1 2, 16, .inr (.inl ou))), (ad 6, .inl (G.2.1 2, 12, .inr (.inl fx))), (ad 7, .inl (G.2.1 2, 12, .inr (.inl fy))), (ad 8, .inl (G.2.1 1, 8, .inl od)), (ad 9, .inl (G.2.1 1, 12, .inl cr)), (ad 10, .inl (G.2.1 1, 200, .inl ty)), (ad 11, .inl (G.2.1 1, 48, .inl to_)), (ad 12, .inl (G.2.1 1, 48, .inl dr1))]) H locs := hW
          refine lv_iconst (v := 0) gX gB dX6_rules_114 (by decide) ?_
          refine lv_istore_n (lv' := [(2, .int 0), (1, .int (nI i)), (0, .ref (ad 0))]) gX gB dX6_rules_115 rfl hl (by decide) rfl (fun ls hl => ?_)
          have hl : lv_has ls 3 [(2, .int (nI 0)), (1, .int (nI i)), (0, .ref (ad 0))] := hl
          have loop2 : ∀ (fu : Nat) (j : Nat) (to1 : Nat → Int32), (4 * i - j < fu) → (j ≤ 4 * i) → (∀ z, z < j → to1 z = dr1 z) → ∀ (H : Heap) (locs : List Loc), gx_W G A s ([(ad 0, .inr (11, [.int 0, .int (nI pn), .ref (ad 1), .ref (ad 2), .ref (ad 3), .ref (ad 4), .ref (ad 5), .int (nI fn), .ref (ad 6), .ref (ad 7), .int (nI dn), .ref (ad 8), .long ex, .long ey, .long eg, .int (nI cn), .ref (ad 9), .ref (ad 10), .int 0, .int (nI p1), .int (-1), .int (nI i), .ref (ad 11), .ref (ad 12)])), (ad 1, .inl (G.2.1 2, 16, .inr (.inl px))), (ad 2, .inl (G.2.1 2, 16, .inr (.inl py))), (ad 3, .inl (G.2.1 2, 16, .inr (.inl pz))), (ad 4, .inl (G.2.1 2, 16, .inr (.inl gr))), (ad 5, .inl (G.2.1 2, 16, .inr (.inl ou))), (ad 6, .inl (G.2.1 2, 12, .inr (.inl fx))), (ad 7, .inl (G.2.1 2, 12, .inr (.inl fy))), (ad 8, .inl (G.2.1 1, 8, .inl od)), (ad 9, .inl (G.2.1 1, 12, .inl cr)), (ad 10, .inl (G.2.1 1, 200, .inl ty)), (ad 11, .inl (G.2.1 1, 48, .inl to1)), (ad 12, .inl (G.2.1 1, 48, .inl dr1))]) H locs → ∀ ls : Array Slot, lv_has ls 3 [(2, .int (nI j)), (1, .int (nI i)), (0, .ref (ad 0))] → W p l e ({ frames := 3, cells := 0, slots := 0, locals := 66 } : Room) s m args below meth c H locs 0 0 (MQ below (gx_Q G A (fun v9 u => (∃ (pq : Nat) (at1 : Int32) (dr1 : Nat → Int32), ra_at t sn 12 0 0 [] = .inl pq ∧ pq ≤ sn ∧ v9 = some (.int (-1 - nI pq)) ∧ u = [(ad 0, .inr (11, [.int 0, .int (nI pn), .ref (ad 1), .ref (ad 2), .ref (ad 3), .ref (ad 4), .ref (ad 5), .int (nI fn), .ref (ad 6), .ref (ad 7), .int (nI dn), .ref (ad 8), .long ex, .long ey, .long eg, .int (nI cn), .ref (ad 9), .ref (ad 10), .int 0, .int at1, .int (nI pq), .int (nI tn), .ref (ad 11), .ref (ad 12)])), (ad 1, .inl (G.2.1 2, 16, .inr (.inl px))), (ad 2, .inl (G.2.1 2, 16, .inr (.inl py))), (ad 3, .inl (G.2.1 2, 16, .inr (.inl pz))), (ad 4, .inl (G.2.1 2, 16, .inr (.inl gr))), (ad 5, .inl (G.2.1 2, 16, .inr (.inl ou))), (ad 6, .inl (G.2.1 2, 12, .inr (.inl fx))), (ad 7, .inl (G.2.1 2, 12, .inr (.inl fy))), (ad 8, .inl (G.2.1 1, 8, .inl od)), (ad 9, .inl (G.2.1 1, 12, .inl cr)), (ad 10, .inl (G.2.1 1, 200, .inl ty)), (ad 11, .inl (G.2.1 1, 48, .inl to_)), (ad 12, .inl (G.2.1 1, 48, .inl dr1))]) ∨ (∃ (ds : List rt_T) (at1 : Int32) (dr1 to1 : Nat → Int32), ra_at t sn 12 0 0 [] = .inr ds ∧ 0 < ds.length ∧ ds.length ≤ 12 ∧ tl_is ds to1 ∧ v9 = some (.int (nI ds.length)) ∧ u = [(ad 0, .inr (11, [.int 0, .int (nI pn), .ref (ad 1), .ref (ad 2), .ref (ad 3), .ref (ad 4), .ref (ad 5), .int (nI fn), .ref (ad 6), .ref (ad 7), .int (nI dn), .ref (ad 8), .long ex, .long ey, .long eg, .int (nI cn), .ref (ad 9), .ref (ad 10), .int 0, .int at1, .int (-1), .int (nI ds.length), .ref (ad 11), .ref (ad 12)])), (ad 1, .inl (G.2.1 2, 16, .inr (.inl px))), (ad 2, .inl (G.2.1 2, 16, .inr (.inl py))), (ad 3, .inl (G.2.1 2, 16, .inr (.inl pz))), (ad 4, .inl (G.2.1 2, 16, .inr (.inl gr))), (ad 5, .inl (G.2.1 2, 16, .inr (.inl ou))), (ad 6, .inl (G.2.1 2, 12, .inr (.inl fx))), (ad 7, .inl (G.2.1 2, 12, .inr (.inl fy))), (ad 8, .inl (G.2.1 1, 8, .inl od)), (ad 9, .inl (G.2.1 1, 12, .inl cr)), (ad 10, .inl (G.2.1 1, 200, .inl ty)), (ad 11, .inl (G.2.1 1, 48, .inl to1)), (ad 12, .inl (G.2.1 1, 48, .inl dr1))]))) args s (({ frames := 3, cells := 0, slots := 0, locals := 66 } : Room)).cells (({ frames := 3, cells := 0, slots := 0, locals := 66 } : Room)).slots A) (F0 m 116 ls []) := by
            intro fu
            induction fu with
            | zero => intro j to1 hfu hj hcp H locs hW ls hl; exact absurd hfu (Nat.not_lt_zero _)
            | succ fu ih =>
              intro j to1 hfu hj hcp H locs hW ls hl
              rcases Nat.lt_or_ge j (4 * i) with hj4 | hj4
              · refine lv_iload_n gX gB dX6_rules_116 rfl (lv_at hl 0 rfl) ?_
                refine lv_iconst (v := 4) gX gB dX6_rules_117 (by decide) ?_
                refine lv_iload_n gX gB dX6_rules_118 rfl (lv_at hl 1 rfl) ?_
                refine lv_imul gX gB dX6_rules_119 ?_
                refine gx_topi (show (4 * (nI i)) = nI (4 * i) from nI_4 i) ?_
                refine lv_icmp_ge (tgt := 141) gX gB dX6_rules_120 (by decide) (fun h9 => absurd (show (nI (4 * i)) ≤ (nI j) from h9) (nI_ge hj4 (by omega))) (fun _ => ?_)
                refine lv_aload_n gX gB dX6_rules_123 rfl (lv_at hl 2 rfl) ?_
                refine gx_get C hW fX6_41 ⟨0, rfl⟩ rfl dX6_rules_124 ?_
                refine lv_iload_n gX gB dX6_rules_127 rfl (lv_at hl 0 rfl) ?_
                refine lv_aload_n gX gB dX6_rules_128 rfl (lv_at hl 2 rfl) ?_
                refine gx_get C hW fX6_44 ⟨0, rfl⟩ rfl dX6_rules_129 ?_
                refine lv_iload_n gX gB dX6_rules_132 rfl (lv_at hl 0 rfl) ?_
                refine gx_iald C hW ⟨12, rfl⟩ (j := j) rfl (by omega) (by decide) dX6_rules_133 ?_
                refine gx_iastE C hW 11 (j := j) rfl rfl (by omega) (by decide) dX6_rules_134 (fun H locs hW => ?_)
                have hW : gx_W G A s ([(ad 0, .inr (11, [.int 0, .int (nI pn), .ref (ad 1), .ref (ad 2), .ref (ad 3), .ref (ad 4), .ref (ad 5), .int (nI fn), .ref (ad 6), .ref (ad 7), .int (nI dn), .ref (ad 8), .long ex, .long ey, .long eg, .int (nI cn), .ref (ad 9), .ref (ad 10), .int 0, .int (nI p1), .int (-1), .int (nI i), .ref (ad 11), .ref (ad 12)])), (ad 1, .inl (G.2.1 2, 16, .inr (.inl px))), (ad 2, .inl (G.2.1 2, 16, .inr (.inl py))), (ad 3, .inl (G.2.1 2, 16, .inr (.inl pz))), (ad 4, .inl (G.2.1 2, 16, .inr (.inl gr))), (ad 5, .inl (G.2.1 2, 16, .inr (.inl ou))), (ad 6, .inl (G.2.1 2, 12, .inr (.inl fx))), (ad 7, .inl (G.2.1 2, 12, .inr (.inl fy))), (ad 8, .inl (G.2.1 1, 8, .inl od)), (ad 9, .inl (G.2.1 1, 12, .inl cr)), (ad 10, .inl (G.2.1 1, 200, .inl ty)), (ad 11, .inl (G.2.1 1, 48, .inl (upd to1 j (dr1 j)))), (ad 12, .inl (G.2.1 1, 48, .inl dr1))]) H locs := hW
                refine lv_iinc (v := nI (j + 1)) (lv' := [(2, .int (nI (j + 1))), (1, .int (nI i)), (0, .ref (ad 0))]) gX gB dX6_rules_135 hl (k := 0) rfl (by exact nI_1 j) (by decide) rfl (fun ls hl => ?_)
                refine lv_goto (tgt := 116) gX gB dX6_rules_138 (by decide) ?_
                exact ih (j + 1) (upd to1 j (dr1 j)) (by omega) (by omega) (fun z hz => by
                  rcases Nat.lt_or_ge z j with h9 | h9
                  · rw [upd_ne (by omega)]; exact hcp z h9
                  · rw [show z = j by omega, upd_eq]) _ _ hW ls (lv_sub hl [0, 1, 2] rfl)
              · refine lv_iload_n gX gB dX6_rules_116 rfl (lv_at hl 0 rfl) ?_
                refine lv_iconst (v := 4) gX gB dX6_rules_117 (by decide) ?_
                refine lv_iload_n gX gB dX6_rules_118 rfl (lv_at hl 1 rfl) ?_
                refine lv_imul gX gB dX6_rules_119 ?_
                refine gx_topi (show (4 * (nI i)) = nI (4 * i) from nI_4 i) ?_
                refine lv_icmp_ge (tgt := 141) gX gB dX6_rules_120 (by decide) (fun _ => ?_) (fun h9 => absurd (show (nI (4 * i)) ≤ (nI j) from nI_le hj4 (by omega)) h9)
                refine lv_iload_n gX gB dX6_rules_141 rfl (lv_at hl 1 rfl) ?_
                exact gx_iret C hr hW (Or.inr ⟨ds, _, _, to1, hRS, by omega, by omega, tl_cp htl (fun z hz => hcp z (by omega)), by rw [hds], by rw [hds]⟩) (Nat.le_of_ble_eq_true rfl) (Nat.le_of_ble_eq_true rfl) dX6_rules_142
          exact loop2 (4 * i + 1) 0 to_ (by omega) (Nat.zero_le _) (fun _ h => absurd h (Nat.not_lt_zero _)) _ _ hW ls (lv_sub hl [0, 1, 2] rfl)
        · refine lv_aload_n gX gB dX6_rules_25 rfl (lv_at hl 1 rfl) ?_
          refine gx_get C hW fX6_127 ⟨0, rfl⟩ rfl dX6_rules_26 ?_
          refine lv_if_ge (tgt := 90) gX gB dX6_rules_29 (by decide) (fun h9 => absurd (show (0 : Int32) ≤ (-1) from h9) (by decide)) (fun _ => ?_)
          refine lv_aload_n gX gB dX6_rules_32 rfl (lv_at hl 1 rfl) ?_
          refine gx_get C hW fX6_124 ⟨0, rfl⟩ rfl dX6_rules_33 ?_
          refine lv_aload_n gX gB dX6_rules_36 rfl (lv_at hl 1 rfl) ?_
          refine gx_get C hW fX6_121 ⟨0, rfl⟩ rfl dX6_rules_37 ?_
          refine lv_icmp_ge (tgt := 90) gX gB dX6_rules_40 (by decide) (fun h9 => absurd (show (nI sn) ≤ (nI p1) from h9) (nI_ge hpn (by omega))) (fun _ => ?_)
          refine lv_aload_n gX gB dX6_rules_43 rfl (lv_at hl 1 rfl) ?_
          refine gx_callV (wr := []) (rest := []) C hW sX6_130 (kX6_here l G ad 0 pn fn dn cn sn tn ex ey eg at0 (-1) px py pz gr ou fx fy od cr ty to_ dr1 t hsn hty ht8 p1 (by omega)) ⟨0, rfl⟩ rfl rfl ⟨(Nat.le_of_ble_eq_true rfl), (Nat.le_of_ble_eq_true rfl)⟩ hl.1 rfl (Nat.le_of_ble_eq_true rfl) dX6_rules_44 ⟨(Nat.le_of_ble_eq_true rfl), (Nat.le_of_ble_eq_true rfl)⟩ (fun v9 u9 H locs hp hW => ?_)
          obtain ⟨rfl, hu⟩ := hp
          rw [hu] at hW
          have hW : gx_W G A s ([(ad 0, .inr (11, [.int 0, .int (nI pn), .ref (ad 1), .ref (ad 2), .ref (ad 3), .ref (ad 4), .ref (ad 5), .int (nI fn), .ref (ad 6), .ref (ad 7), .int (nI dn), .ref (ad 8), .long ex, .long ey, .long eg, .int (nI cn), .ref (ad 9), .ref (ad 10), .int (nI sn), .int (nI p1), .int (-1), .int (nI tn), .ref (ad 11), .ref (ad 12)])), (ad 1, .inl (G.2.1 2, 16, .inr (.inl px))), (ad 2, .inl (G.2.1 2, 16, .inr (.inl py))), (ad 3, .inl (G.2.1 2, 16, .inr (.inl pz))), (ad 4, .inl (G.2.1 2, 16, .inr (.inl gr))), (ad 5, .inl (G.2.1 2, 16, .inr (.inl ou))), (ad 6, .inl (G.2.1 2, 12, .inr (.inl fx))), (ad 7, .inl (G.2.1 2, 12, .inr (.inl fy))), (ad 8, .inl (G.2.1 1, 8, .inl od)), (ad 9, .inl (G.2.1 1, 12, .inl cr)), (ad 10, .inl (G.2.1 1, 200, .inl ty)), (ad 11, .inl (G.2.1 1, 48, .inl to_)), (ad 12, .inl (G.2.1 1, 48, .inl dr1))]) H locs := hW
          refine W.eq (g2 := F0 m 47 ls [.int (hr_v t sn p1)]) rfl ?_
          refine W.widen (k := 0) (n := 0) (Nat.le_of_ble_eq_true rfl) (Nat.le_of_ble_eq_true rfl) ?_
          rcases (by rcases Classical.em (t p1 = 59) with h | h; (rcases (by omega : i = 12 ∨ i < 12) with h2 | h2; exact Or.inr (Or.inl ⟨h, h2⟩); exact Or.inr (Or.inr ⟨h, h2⟩)); exact Or.inl h : ¬ t p1 = 59 ∨ (t p1 = 59 ∧ i = 12) ∨ (t p1 = 59 ∧ i < 12)) with hsc | ⟨hsc, hi12⟩ | ⟨hsc, hi12⟩
          · have hRF : ra_at t sn 12 0 0 [] = .inl p1 := hR.trans ((if_neg (by omega)).trans (by
              rcases (by omega : i = 12 ∨ i < 12) with h12 | h12
              · rw [h12]; rfl
              · exact ra_sep h12 hi1 (fun zz => hsc zz.2)))
            refine lv_bipush (v := 59) gX gB dX6_rules_47 (by decide) ?_
            refine lv_icmp_ne (tgt := 58) gX gB dX6_rules_49 (by decide) (fun _ => ?_) (fun h9 => absurd h9 (show ¬ (hr_v t sn p1) = (59 : Int32) from fun zz => hsc ((hr_eq (ch := 59) ht8 (by decide)).mp zz).2))
            refine lv_aload_n gX gB dX6_rules_58 rfl (lv_at hl 1 rfl) ?_
            refine gx_callV (wr := []) (rest := []) C hW sX6_134 (kX6_fail l G ad 0 pn fn dn cn sn tn ex ey eg (nI p1) fl px py pz gr ou fx fy od cr ty to_ dr1) ⟨0, rfl⟩ rfl rfl ⟨(Nat.le_of_ble_eq_true rfl), (Nat.le_of_ble_eq_true rfl)⟩ hl.1 rfl (Nat.le_of_ble_eq_true rfl) dX6_rules_59 ⟨(Nat.le_of_ble_eq_true rfl), (Nat.le_of_ble_eq_true rfl)⟩ (fun v9 u9 H locs hp hW => ?_)
            obtain ⟨rfl, hu⟩ := hp
            rw [hu] at hW
            have hW : gx_W G A s ([(ad 0, .inr (11, [.int 0, .int (nI pn), .ref (ad 1), .ref (ad 2), .ref (ad 3), .ref (ad 4), .ref (ad 5), .int (nI fn), .ref (ad 6), .ref (ad 7), .int (nI dn), .ref (ad 8), .long ex, .long ey, .long eg, .int (nI cn), .ref (ad 9), .ref (ad 10), .int (nI sn), .int (nI p1), .int (nI p1), .int (nI tn), .ref (ad 11), .ref (ad 12)])), (ad 1, .inl (G.2.1 2, 16, .inr (.inl px))), (ad 2, .inl (G.2.1 2, 16, .inr (.inl py))), (ad 3, .inl (G.2.1 2, 16, .inr (.inl pz))), (ad 4, .inl (G.2.1 2, 16, .inr (.inl gr))), (ad 5, .inl (G.2.1 2, 16, .inr (.inl ou))), (ad 6, .inl (G.2.1 2, 12, .inr (.inl fx))), (ad 7, .inl (G.2.1 2, 12, .inr (.inl fy))), (ad 8, .inl (G.2.1 1, 8, .inl od)), (ad 9, .inl (G.2.1 1, 12, .inl cr)), (ad 10, .inl (G.2.1 1, 200, .inl ty)), (ad 11, .inl (G.2.1 1, 48, .inl to_)), (ad 12, .inl (G.2.1 1, 48, .inl dr1))]) H locs := hW
            refine W.eq (g2 := F0 m 62 ls []) rfl ?_
            refine W.widen (k := 0) (n := 0) (Nat.le_of_ble_eq_true rfl) (Nat.le_of_ble_eq_true rfl) ?_
            refine lv_aload_n gX gB dX6_rules_62 rfl (lv_at hl 1 rfl) ?_
            refine lv_dup gX gB dX6_rules_63 rfl ?_
            refine gx_get C hW fX6_124 ⟨0, rfl⟩ rfl dX6_rules_64 ?_
            refine lv_iconst (v := 1) gX gB dX6_rules_67 (by decide) ?_
            refine lv_iadd gX gB dX6_rules_68 ?_
            refine gx_topi (show ((nI p1) + 1) = nI (p1 + 1) from nI_1 p1) ?_
            refine gx_putE C hW clX6 fX6_124 0 rfl (Or.inl rfl) rfl rfl (Nat.le_of_ble_eq_true rfl) dX6_rules_69 (fun H locs hW => ?_)
            have hW : gx_W G A s ([(ad 0, .inr (11, [.int 0, .int (nI pn), .ref (ad 1), .ref (ad 2), .ref (ad 3), .ref (ad 4), .ref (ad 5), .int (nI fn), .ref (ad 6), .ref (ad 7), .int (nI dn), .ref (ad 8), .long ex, .long ey, .long eg, .int (nI cn), .ref (ad 9), .ref (ad 10), .int (nI sn), .int (nI (p1 + 1)), .int (nI p1), .int (nI tn), .ref (ad 11), .ref (ad 12)])), (ad 1, .inl (G.2.1 2, 16, .inr (.inl px))), (ad 2, .inl (G.2.1 2, 16, .inr (.inl py))), (ad 3, .inl (G.2.1 2, 16, .inr (.inl pz))), (ad 4, .inl (G.2.1 2, 16, .inr (.inl gr))), (ad 5, .inl (G.2.1 2, 16, .inr (.inl ou))), (ad 6, .inl (G.2.1 2, 12, .inr (.inl fx))), (ad 7, .inl (G.2.1 2, 12, .inr (.inl fy))), (ad 8, .inl (G.2.1 1, 8, .inl od)), (ad 9, .inl (G.2.1 1, 12, .inl cr)), (ad 10, .inl (G.2.1 1, 200, .inl ty)), (ad 11, .inl (G.2.1 1, 48, .inl to_)), (ad 12, .inl (G.2.1 1, 48, .inl dr1))]) H locs := hW
            refine lv_aload_n gX gB dX6_rules_72 rfl (lv_at hl 1 rfl) ?_
            refine gx_get C hW fX6_127 ⟨0, rfl⟩ rfl dX6_rules_73 ?_
            refine lv_if_ge (tgt := 25) gX gB dX6_rules_76 (by decide) (fun _ => ?_) (fun h9 => absurd (show (0 : Int32) ≤ (nI p1) from nI_pos' (by omega)) h9)
            refine lv_aload_n gX gB dX6_rules_25 rfl (lv_at hl 1 rfl) ?_
            refine gx_get C hW fX6_127 ⟨0, rfl⟩ rfl dX6_rules_26 ?_
            refine lv_if_ge (tgt := 90) gX gB dX6_rules_29 (by decide) (fun _ => ?_) (fun h9 => absurd (show (0 : Int32) ≤ (nI p1) from nI_pos' (by omega)) h9)
            refine lv_aload_n gX gB dX6_rules_90 rfl (lv_at hl 1 rfl) ?_
            refine lv_iconst (v := 0) gX gB dX6_rules_91 (by decide) ?_
            refine gx_putE C hW clX6 fX6_121 0 rfl (Or.inl rfl) rfl rfl (Nat.le_of_ble_eq_true rfl) dX6_rules_92 (fun H locs hW => ?_)
            have hW : gx_W G A s ([(ad 0, .inr (11, [.int 0, .int (nI pn), .ref (ad 1), .ref (ad 2), .ref (ad 3), .ref (ad 4), .ref (ad 5), .int (nI fn), .ref (ad 6), .ref (ad 7), .int (nI dn), .ref (ad 8), .long ex, .long ey, .long eg, .int (nI cn), .ref (ad 9), .ref (ad 10), .int 0, .int (nI (p1 + 1)), .int (nI p1), .int (nI tn), .ref (ad 11), .ref (ad 12)])), (ad 1, .inl (G.2.1 2, 16, .inr (.inl px))), (ad 2, .inl (G.2.1 2, 16, .inr (.inl py))), (ad 3, .inl (G.2.1 2, 16, .inr (.inl pz))), (ad 4, .inl (G.2.1 2, 16, .inr (.inl gr))), (ad 5, .inl (G.2.1 2, 16, .inr (.inl ou))), (ad 6, .inl (G.2.1 2, 12, .inr (.inl fx))), (ad 7, .inl (G.2.1 2, 12, .inr (.inl fy))), (ad 8, .inl (G.2.1 1, 8, .inl od)), (ad 9, .inl (G.2.1 1, 12, .inl cr)), (ad 10, .inl (G.2.1 1, 200, .inl ty)), (ad 11, .inl (G.2.1 1, 48, .inl to_)), (ad 12, .inl (G.2.1 1, 48, .inl dr1))]) H locs := hW
            refine lv_aload_n gX gB dX6_rules_95 rfl (lv_at hl 1 rfl) ?_
            refine gx_get C hW fX6_127 ⟨0, rfl⟩ rfl dX6_rules_96 ?_
            refine lv_if_lt (tgt := 109) gX gB dX6_rules_99 (by decide) (fun h9 => absurd (show (nI p1) < (0 : Int32) from h9) (nI_pos (by omega))) (fun _ => ?_)
            refine lv_iconst (v := (-1)) gX gB dX6_rules_102 (by decide) ?_
            refine lv_aload_n gX gB dX6_rules_103 rfl (lv_at hl 1 rfl) ?_
            refine gx_get C hW fX6_127 ⟨0, rfl⟩ rfl dX6_rules_104 ?_
            refine lv_isub gX gB dX6_rules_107 ?_
            exact gx_iret C hr hW (Or.inl ⟨p1, _, _, hRF, by omega, rfl, rfl⟩) (Nat.le_of_ble_eq_true rfl) (Nat.le_of_ble_eq_true rfl) dX6_rules_108
          · have hRF : ra_at t sn 12 0 0 [] = .inl p1 := hR.trans ((if_neg (by omega)).trans (by rw [hi12]; rfl))
            refine lv_bipush (v := 59) gX gB dX6_rules_47 (by decide) ?_
            refine lv_icmp_ne (tgt := 58) gX gB dX6_rules_49 (by decide) (fun h9 => absurd (show ¬ (hr_v t sn p1) = (59 : Int32) from h9) (fun zz => zz ((hr_eq (ch := 59) ht8 (by decide)).mpr ⟨hpn, hsc⟩))) (fun _ => ?_)
            refine lv_iload_n gX gB dX6_rules_52 rfl (lv_at hl 0 rfl) ?_
            refine lv_bipush (v := 12) gX gB dX6_rules_53 (by decide) ?_
            refine lv_icmp_ne (tgt := 62) gX gB dX6_rules_55 (by decide) (fun h9 => absurd (show ¬ (nI i) = (12 : Int32) from h9) (fun zz => zz (congrArg nI hi12))) (fun _ => ?_)
            refine lv_aload_n gX gB dX6_rules_58 rfl (lv_at hl 1 rfl) ?_
            refine gx_callV (wr := []) (rest := []) C hW sX6_134 (kX6_fail l G ad 0 pn fn dn cn sn tn ex ey eg (nI p1) fl px py pz gr ou fx fy od cr ty to_ dr1) ⟨0, rfl⟩ rfl rfl ⟨(Nat.le_of_ble_eq_true rfl), (Nat.le_of_ble_eq_true rfl)⟩ hl.1 rfl (Nat.le_of_ble_eq_true rfl) dX6_rules_59 ⟨(Nat.le_of_ble_eq_true rfl), (Nat.le_of_ble_eq_true rfl)⟩ (fun v9 u9 H locs hp hW => ?_)
            obtain ⟨rfl, hu⟩ := hp
            rw [hu] at hW
            have hW : gx_W G A s ([(ad 0, .inr (11, [.int 0, .int (nI pn), .ref (ad 1), .ref (ad 2), .ref (ad 3), .ref (ad 4), .ref (ad 5), .int (nI fn), .ref (ad 6), .ref (ad 7), .int (nI dn), .ref (ad 8), .long ex, .long ey, .long eg, .int (nI cn), .ref (ad 9), .ref (ad 10), .int (nI sn), .int (nI p1), .int (nI p1), .int (nI tn), .ref (ad 11), .ref (ad 12)])), (ad 1, .inl (G.2.1 2, 16, .inr (.inl px))), (ad 2, .inl (G.2.1 2, 16, .inr (.inl py))), (ad 3, .inl (G.2.1 2, 16, .inr (.inl pz))), (ad 4, .inl (G.2.1 2, 16, .inr (.inl gr))), (ad 5, .inl (G.2.1 2, 16, .inr (.inl ou))), (ad 6, .inl (G.2.1 2, 12, .inr (.inl fx))), (ad 7, .inl (G.2.1 2, 12, .inr (.inl fy))), (ad 8, .inl (G.2.1 1, 8, .inl od)), (ad 9, .inl (G.2.1 1, 12, .inl cr)), (ad 10, .inl (G.2.1 1, 200, .inl ty)), (ad 11, .inl (G.2.1 1, 48, .inl to_)), (ad 12, .inl (G.2.1 1, 48, .inl dr1))]) H locs := hW
            refine W.eq (g2 := F0 m 62 ls []) rfl ?_
            refine W.widen (k := 0) (n := 0) (Nat.le_of_ble_eq_true rfl) (Nat.le_of_ble_eq_true rfl) ?_
            refine lv_aload_n gX gB dX6_rules_62 rfl (lv_at hl 1 rfl) ?_
            refine lv_dup gX gB dX6_rules_63 rfl ?_
            refine gx_get C hW fX6_124 ⟨0, rfl⟩ rfl dX6_rules_64 ?_
            refine lv_iconst (v := 1) gX gB dX6_rules_67 (by decide) ?_
            refine lv_iadd gX gB dX6_rules_68 ?_
            refine gx_topi (show ((nI p1) + 1) = nI (p1 + 1) from nI_1 p1) ?_
            refine gx_putE C hW clX6 fX6_124 0 rfl (Or.inl rfl) rfl rfl (Nat.le_of_ble_eq_true rfl) dX6_rules_69 (fun H locs hW => ?_)
            have hW : gx_W G A s ([(ad 0, .inr (11, [.int 0, .int (nI pn), .ref (ad 1), .ref (ad 2), .ref (ad 3), .ref (ad 4), .ref (ad 5), .int (nI fn), .ref (ad 6), .ref (ad 7), .int (nI dn), .ref (ad 8), .long ex, .long ey, .long eg, .int (nI cn), .ref (ad 9), .ref (ad 10), .int (nI sn), .int (nI (p1 + 1)), .int (nI p1), .int (nI tn), .ref (ad 11), .ref (ad 12)])), (ad 1, .inl (G.2.1 2, 16, .inr (.inl px))), (ad 2, .inl (G.2.1 2, 16, .inr (.inl py))), (ad 3, .inl (G.2.1 2, 16, .inr (.inl pz))), (ad 4, .inl (G.2.1 2, 16, .inr (.inl gr))), (ad 5, .inl (G.2.1 2, 16, .inr (.inl ou))), (ad 6, .inl (G.2.1 2, 12, .inr (.inl fx))), (ad 7, .inl (G.2.1 2, 12, .inr (.inl fy))), (ad 8, .inl (G.2.1 1, 8, .inl od)), (ad 9, .inl (G.2.1 1, 12, .inl cr)), (ad 10, .inl (G.2.1 1, 200, .inl ty)), (ad 11, .inl (G.2.1 1, 48, .inl to_)), (ad 12, .inl (G.2.1 1, 48, .inl dr1))]) H locs := hW
            refine lv_aload_n gX gB dX6_rules_72 rfl (lv_at hl 1 rfl) ?_
            refine gx_get C hW fX6_127 ⟨0, rfl⟩ rfl dX6_rules_73 ?_
            refine lv_if_ge (tgt := 25) gX gB dX6_rules_76 (by decide) (fun _ => ?_) (fun h9 => absurd (show (0 : Int32) ≤ (nI p1) from nI_pos' (by omega)) h9)
            refine lv_aload_n gX gB dX6_rules_25 rfl (lv_at hl 1 rfl) ?_
            refine gx_get C hW fX6_127 ⟨0, rfl⟩ rfl dX6_rules_26 ?_
            refine lv_if_ge (tgt := 90) gX gB dX6_rules_29 (by decide) (fun _ => ?_) (fun h9 => absurd (show (0 : Int32) ≤ (nI p1) from nI_pos' (by omega)) h9)
            refine lv_aload_n gX gB dX6_rules_90 rfl (lv_at hl 1 rfl) ?_
            refine lv_iconst (v := 0) gX gB dX6_rules_91 (by decide) ?_
            refine gx_putE C hW clX6 fX6_121 0 rfl (Or.inl rfl) rfl rfl (Nat.le_of_ble_eq_true rfl) dX6_rules_92 (fun H locs hW => ?_)
            have hW : gx_W G A s ([(ad 0, .inr (11, [.int 0, .int (nI pn), .ref (ad 1), .ref (ad 2), .ref (ad 3), .ref (ad 4), .ref (ad 5), .int (nI fn), .ref (ad 6), .ref (ad 7), .int (nI dn), .ref (ad 8), .long ex, .long ey, .long eg, .int (nI cn), .ref (ad 9), .ref (ad 10), .int 0, .int (nI (p1 + 1)), .int (nI p1), .int (nI tn), .ref (ad 11), .ref (ad 12)])), (ad 1, .inl (G.2.1 2, 16, .inr (.inl px))), (ad 2, .inl (G.2.1 2, 16, .inr (.inl py))), (ad 3, .inl (G.2.1 2, 16, .inr (.inl pz))), (ad 4, .inl (G.2.1 2, 16, .inr (.inl gr))), (ad 5, .inl (G.2.1 2, 16, .inr (.inl ou))), (ad 6, .inl (G.2.1 2, 12, .inr (.inl fx))), (ad 7, .inl (G.2.1 2, 12, .inr (.inl fy))), (ad 8, .inl (G.2.1 1, 8, .inl od)), (ad 9, .inl (G.2.1 1, 12, .inl cr)), (ad 10, .inl (G.2.1 1, 200, .inl ty)), (ad 11, .inl (G.2.1 1, 48, .inl to_)), (ad 12, .inl (G.2.1 1, 48, .inl dr1))]) H locs := hW
            refine lv_aload_n gX gB dX6_rules_95 rfl (lv_at hl 1 rfl) ?_
            refine gx_get C hW fX6_127 ⟨0, rfl⟩ rfl dX6_rules_96 ?_
            refine lv_if_lt (tgt := 109) gX gB dX6_rules_99 (by decide) (fun h9 => absurd (show (nI p1) < (0 : Int32) from h9) (nI_pos (by omega))) (fun _ => ?_)
            refine lv_iconst (v := (-1)) gX gB dX6_rules_102 (by decide) ?_
            refine lv_aload_n gX gB dX6_rules_103 rfl (lv_at hl 1 rfl) ?_
            refine gx_get C hW fX6_127 ⟨0, rfl⟩ rfl dX6_rules_104 ?_
            refine lv_isub gX gB dX6_rules_107 ?_
            exact gx_iret C hr hW (Or.inl ⟨p1, _, _, hRF, by omega, rfl, rfl⟩) (Nat.le_of_ble_eq_true rfl) (Nat.le_of_ble_eq_true rfl) dX6_rules_108
          · have hp2 : p1 + 1 ≤ sn := hpn
            refine lv_bipush (v := 59) gX gB dX6_rules_47 (by decide) ?_
            refine lv_icmp_ne (tgt := 58) gX gB dX6_rules_49 (by decide) (fun h9 => absurd (show ¬ (hr_v t sn p1) = (59 : Int32) from h9) (fun zz => zz ((hr_eq (ch := 59) ht8 (by decide)).mpr ⟨hpn, hsc⟩))) (fun _ => ?_)
            refine lv_iload_n gX gB dX6_rules_52 rfl (lv_at hl 0 rfl) ?_
            refine lv_bipush (v := 12) gX gB dX6_rules_53 (by decide) ?_
            refine lv_icmp_ne (tgt := 62) gX gB dX6_rules_55 (by decide) (fun _ => ?_) (fun h9 => absurd h9 (show ¬ (nI i) = (12 : Int32) from fun zz => absurd ((nI_eq (b := 12) (by omega) (by decide)).mp zz) (by omega)))
            refine lv_aload_n gX gB dX6_rules_62 rfl (lv_at hl 1 rfl) ?_
            refine lv_dup gX gB dX6_rules_63 rfl ?_
            refine gx_get C hW fX6_124 ⟨0, rfl⟩ rfl dX6_rules_64 ?_
            refine lv_iconst (v := 1) gX gB dX6_rules_67 (by decide) ?_
            refine lv_iadd gX gB dX6_rules_68 ?_
            refine gx_topi (show ((nI p1) + 1) = nI (p1 + 1) from nI_1 p1) ?_
            refine gx_putE C hW clX6 fX6_124 0 rfl (Or.inl rfl) rfl rfl (Nat.le_of_ble_eq_true rfl) dX6_rules_69 (fun H locs hW => ?_)
            have hW : gx_W G A s ([(ad 0, .inr (11, [.int 0, .int (nI pn), .ref (ad 1), .ref (ad 2), .ref (ad 3), .ref (ad 4), .ref (ad 5), .int (nI fn), .ref (ad 6), .ref (ad 7), .int (nI dn), .ref (ad 8), .long ex, .long ey, .long eg, .int (nI cn), .ref (ad 9), .ref (ad 10), .int (nI sn), .int (nI (p1 + 1)), .int (-1), .int (nI tn), .ref (ad 11), .ref (ad 12)])), (ad 1, .inl (G.2.1 2, 16, .inr (.inl px))), (ad 2, .inl (G.2.1 2, 16, .inr (.inl py))), (ad 3, .inl (G.2.1 2, 16, .inr (.inl pz))), (ad 4, .inl (G.2.1 2, 16, .inr (.inl gr))), (ad 5, .inl (G.2.1 2, 16, .inr (.inl ou))), (ad 6, .inl (G.2.1 2, 12, .inr (.inl fx))), (ad 7, .inl (G.2.1 2, 12, .inr (.inl fy))), (ad 8, .inl (G.2.1 1, 8, .inl od)), (ad 9, .inl (G.2.1 1, 12, .inl cr)), (ad 10, .inl (G.2.1 1, 200, .inl ty)), (ad 11, .inl (G.2.1 1, 48, .inl to_)), (ad 12, .inl (G.2.1 1, 48, .inl dr1))]) H locs := hW
            refine lv_aload_n gX gB dX6_rules_72 rfl (lv_at hl 1 rfl) ?_
            refine gx_get C hW fX6_127 ⟨0, rfl⟩ rfl dX6_rules_73 ?_
            refine lv_if_ge (tgt := 25) gX gB dX6_rules_76 (by decide) (fun h9 => absurd (show (0 : Int32) ≤ (-1) from h9) (by decide)) (fun _ => ?_)
            refine lv_aload_n gX gB dX6_rules_79 rfl (lv_at hl 1 rfl) ?_
            refine lv_iload_n gX gB dX6_rules_80 rfl (lv_at hl 0 rfl) ?_
            refine gx_callV (wr := []) (rest := []) C hW sX6_141 (kX6_readTest l G ad 0 pn fn dn cn sn tn ex ey eg at0 fl px py pz gr ou fx fy od cr ty to_ dr1 t hsn hty ht8 i hi12 (p1 + 1) hp2) ⟨0, rfl⟩ rfl rfl ⟨(Nat.le_of_ble_eq_true rfl), (Nat.le_of_ble_eq_true rfl)⟩ hl.1 rfl (Nat.le_of_ble_eq_true rfl) dX6_rules_81 ⟨(Nat.le_of_ble_eq_true rfl), (Nat.le_of_ble_eq_true rfl)⟩ (fun v9 u9 H locs hp => ?_)
            rcases hp with ⟨rfl, pq, at1, dr2, hrt, hpq, rfl⟩ | ⟨rfl, pq, dd, hrt, hpq, rfl⟩
            · have hRF : ra_at t sn 12 0 0 [] = .inl pq := hR.trans ((if_neg (by omega)).trans (ra_fail hi12 (Or.inr ⟨hi1, ⟨hpn, hsc⟩, rfl⟩) hrt))
              intro hW
              have hW : gx_W G A s ([(ad 0, .inr (11, [.int 0, .int (nI pn), .ref (ad 1), .ref (ad 2), .ref (ad 3), .ref (ad 4), .ref (ad 5), .int (nI fn), .ref (ad 6), .ref (ad 7), .int (nI dn), .ref (ad 8), .long ex, .long ey, .long eg, .int (nI cn), .ref (ad 9), .ref (ad 10), .int (nI sn), .int at1, .int (nI pq), .int (nI tn), .ref (ad 11), .ref (ad 12)])), (ad 1, .inl (G.2.1 2, 16, .inr (.inl px))), (ad 2, .inl (G.2.1 2, 16, .inr (.inl py))), (ad 3, .inl (G.2.1 2, 16, .inr (.inl pz))), (ad 4, .inl (G.2.1 2, 16, .inr (.inl gr))), (ad 5, .inl (G.2.1 2, 16, .inr (.inl ou))), (ad 6, .inl (G.2.1 2, 12, .inr (.inl fx))), (ad 7, .inl (G.2.1 2, 12, .inr (.inl fy))), (ad 8, .inl (G.2.1 1, 8, .inl od)), (ad 9, .inl (G.2.1 1, 12, .inl cr)), (ad 10, .inl (G.2.1 1, 200, .inl ty)), (ad 11, .inl (G.2.1 1, 48, .inl to_)), (ad 12, .inl (G.2.1 1, 48, .inl dr2))]) H locs := hW
              refine W.eq (g2 := F0 m 84 ls []) rfl ?_
              refine W.widen (k := 0) (n := 0) (Nat.le_of_ble_eq_true rfl) (Nat.le_of_ble_eq_true rfl) ?_
              refine lv_iinc (v := nI (i + 1)) (lv' := [(1, .int (nI (i + 1))), (0, .ref (ad 0))]) gX gB dX6_rules_84 hl (k := 0) rfl (by exact nI_1 i) (by decide) rfl (fun ls hl => ?_)
              refine lv_goto (tgt := 25) gX gB dX6_rules_87 (by decide) ?_
              refine lv_aload_n gX gB dX6_rules_25 rfl (lv_at hl 1 rfl) ?_
              refine gx_get C hW fX6_127 ⟨0, rfl⟩ rfl dX6_rules_26 ?_
              refine lv_if_ge (tgt := 90) gX gB dX6_rules_29 (by decide) (fun _ => ?_) (fun h9 => absurd (show (0 : Int32) ≤ (nI pq) from nI_pos' (by omega)) h9)
              refine lv_aload_n gX gB dX6_rules_90 rfl (lv_at hl 1 rfl) ?_
              refine lv_iconst (v := 0) gX gB dX6_rules_91 (by decide) ?_
              refine gx_putE C hW clX6 fX6_121 0 rfl (Or.inl rfl) rfl rfl (Nat.le_of_ble_eq_true rfl) dX6_rules_92 (fun H locs hW => ?_)
              have hW : gx_W G A s ([(ad 0, .inr (11, [.int 0, .int (nI pn), .ref (ad 1), .ref (ad 2), .ref (ad 3), .ref (ad 4), .ref (ad 5), .int (nI fn), .ref (ad 6), .ref (ad 7), .int (nI dn), .ref (ad 8), .long ex, .long ey, .long eg, .int (nI cn), .ref (ad 9), .ref (ad 10), .int 0, .int at1, .int (nI pq), .int (nI tn), .ref (ad 11), .ref (ad 12)])), (ad 1, .inl (G.2.1 2, 16, .inr (.inl px))), (ad 2, .inl (G.2.1 2, 16, .inr (.inl py))), (ad 3, .inl (G.2.1 2, 16, .inr (.inl pz))), (ad 4, .inl (G.2.1 2, 16, .inr (.inl gr))), (ad 5, .inl (G.2.1 2, 16, .inr (.inl ou))), (ad 6, .inl (G.2.1 2, 12, .inr (.inl fx))), (ad 7, .inl (G.2.1 2, 12, .inr (.inl fy))), (ad 8, .inl (G.2.1 1, 8, .inl od)), (ad 9, .inl (G.2.1 1, 12, .inl cr)), (ad 10, .inl (G.2.1 1, 200, .inl ty)), (ad 11, .inl (G.2.1 1, 48, .inl to_)), (ad 12, .inl (G.2.1 1, 48, .inl dr2))]) H locs := hW
              refine lv_aload_n gX gB dX6_rules_95 rfl (lv_at hl 1 rfl) ?_
              refine gx_get C hW fX6_127 ⟨0, rfl⟩ rfl dX6_rules_96 ?_
              refine lv_if_lt (tgt := 109) gX gB dX6_rules_99 (by decide) (fun h9 => absurd (show (nI pq) < (0 : Int32) from h9) (nI_pos (by omega))) (fun _ => ?_)
              refine lv_iconst (v := (-1)) gX gB dX6_rules_102 (by decide) ?_
              refine lv_aload_n gX gB dX6_rules_103 rfl (lv_at hl 1 rfl) ?_
              refine gx_get C hW fX6_127 ⟨0, rfl⟩ rfl dX6_rules_104 ?_
              refine lv_isub gX gB dX6_rules_107 ?_
              exact gx_iret C hr hW (Or.inl ⟨pq, _, _, hRF, hpq, rfl, rfl⟩) (Nat.le_of_ble_eq_true rfl) (Nat.le_of_ble_eq_true rfl) dX6_rules_108
            · have hR2 : ra_at t sn 12 0 0 [] = (if sn ≤ pq then .inr (ds ++ [dd]) else ra_at t sn (12 - (i + 1)) (i + 1) pq (ds ++ [dd])) := hR.trans ((if_neg (by omega)).trans ((ra_go hi12 (Or.inr ⟨hi1, ⟨hpn, hsc⟩, rfl⟩)).trans (by rw [hrt])))
              have htl2 := tl_add (d := dd) hds htl
              intro hW
              have hW : gx_W G A s ([(ad 0, .inr (11, [.int 0, .int (nI pn), .ref (ad 1), .ref (ad 2), .ref (ad 3), .ref (ad 4), .ref (ad 5), .int (nI fn), .ref (ad 6), .ref (ad 7), .int (nI dn), .ref (ad 8), .long ex, .long ey, .long eg, .int (nI cn), .ref (ad 9), .ref (ad 10), .int (nI sn), .int (nI pq), .int (-1), .int (nI tn), .ref (ad 11), .ref (ad 12)])), (ad 1, .inl (G.2.1 2, 16, .inr (.inl px))), (ad 2, .inl (G.2.1 2, 16, .inr (.inl py))), (ad 3, .inl (G.2.1 2, 16, .inr (.inl pz))), (ad 4, .inl (G.2.1 2, 16, .inr (.inl gr))), (ad 5, .inl (G.2.1 2, 16, .inr (.inl ou))), (ad 6, .inl (G.2.1 2, 12, .inr (.inl fx))), (ad 7, .inl (G.2.1 2, 12, .inr (.inl fy))), (ad 8, .inl (G.2.1 1, 8, .inl od)), (ad 9, .inl (G.2.1 1, 12, .inl cr)), (ad 10, .inl (G.2.1 1, 200, .inl ty)), (ad 11, .inl (G.2.1 1, 48, .inl to_)), (ad 12, .inl (G.2.1 1, 48, .inl (upd (upd (upd (upd dr1 (4 * i) dd.1) (4 * i + 1) dd.2.1) (4 * i + 2) dd.2.2.1) (4 * i + 3) dd.2.2.2)))]) H locs := hW
              refine W.eq (g2 := F0 m 84 ls []) rfl ?_
              refine W.widen (k := 0) (n := 0) (Nat.le_of_ble_eq_true rfl) (Nat.le_of_ble_eq_true rfl) ?_
              refine lv_iinc (v := nI (i + 1)) (lv' := [(1, .int (nI (i + 1))), (0, .ref (ad 0))]) gX gB dX6_rules_84 hl (k := 0) rfl (by exact nI_1 i) (by decide) rfl (fun ls hl => ?_)
              refine lv_goto (tgt := 25) gX gB dX6_rules_87 (by decide) ?_
              exact ih (i + 1) pq (ds ++ [dd]) _ (by omega) (by omega) (by omega) hpq (by rw [List.length_append, hds]; rfl) htl2 hR2 _ _ hW ls (lv_sub hl [0, 1] rfl)
    exact loop 14 1 pq ([] ++ [dd]) _ (by omega) (by omega) (by omega) hpq rfl htl2 hR2 _ _ hW ls (lv_sub hl [0, 1] rfl)
