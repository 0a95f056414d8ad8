/-! THE REFERENCE: common, centre. -/
theorem ab_1 {a : Int64} {x : Nat} (h : a < 0) (hs : (if 0 < a then a else -a) = lN x) : -a = lN x := by
  rw [if_neg (Int64.not_lt.mpr (Int64.le_of_lt h))] at hs
  exact hs
theorem ab_2 {a : Int64} {x : Nat} (h : ¬ a < 0) (hs : (if 0 < a then a else -a) = lN x) : a = lN x := by
  by_cases h1 : 0 < a
  · rw [if_pos h1] at hs
    exact hs
  · have e : a = 0 := Int64.le_antisymm (Int64.not_lt.mp h1) (Int64.not_lt.mp h)
    rw [if_neg h1, e] at hs
    rw [e, ← hs]
    rfl
theorem ce_1 {ax p2 : Int32} {all : Int64} (h : ax < 0 ∨ 2 < ax ∨ p2 < 0 ∨ 1 < p2) : ce_code ax p2 all = 1 := if_pos h
theorem ce_2 {ax p2 : Int32} {all : Int64} (h : ¬ (ax < 0 ∨ 2 < ax ∨ p2 < 0 ∨ 1 < p2)) (h2 : all = 0) : ce_code ax p2 all = 2 := by rw [ce_code, if_neg h, if_pos h2]
theorem ce_0 {ax p2 : Int32} {all : Int64} (h : ¬ (ax < 0 ∨ 2 < ax ∨ p2 < 0 ∨ 1 < p2)) (h2 : ¬ all = 0) : ce_code ax p2 all = 0 := by rw [ce_code, if_neg h, if_neg h2]
set_option maxHeartbeats 4000000 in
set_option maxRecDepth 100000 in
theorem kX6_common (l : Launch) (G : gx_T) (ws : va_W) (a : Int64) (x0 y0 : Nat) (hsx : (if 0 < a then a else -a) = lN x0) (hx0 : x0 < 2 ^ 62) (hy0 : y0 < 2 ^ 62) : gx_M l G yX6_common cX6_common 10 (some .long) ({ frames := 0, cells := 0, slots := 0, locals := 0 } : Room) [.long a, .long (lN y0)] (ws) (fun v u => v = some (.long (lN (Nat.gcd x0 y0))) ∧ u = ws) := by
  refine gx_start (by decide +kernel) (Nat.le_of_ble_eq_true rfl) ?_
  intro p e s m args below meth c A ls C hr hnm hW hl
  have gX := C.x
  have gB := C.b
  have hl : lv_has ls 10 [(0, .long a), (2, .long (lN y0))] := hl
  refine lv_lload_n gX gB dX6_common_0 rfl (lv_at hl 0 rfl) ?_
  refine lv_lconst (v := 0) gX gB dX6_common_1 (by decide) ?_
  refine gx_lc_ge (tgt := 11) C dX6_common_2 dX6_common_3 (by decide) (fun c2 => ?_) (fun c2 => ?_)
  · refine lv_lload_n gX gB dX6_common_11 rfl (lv_at hl 0 rfl) ?_
    refine gx_topl (show (a) = lN x0 from ab_2 (Int64.not_lt.mpr c2) hsx) ?_
    refine lv_lstore (lv' := [(4, .long (lN x0)), (0, .long a), (2, .long (lN y0))]) gX gB dX6_common_12 hl (by decide) rfl (fun ls hl => ?_)
    refine lv_lload_n gX gB dX6_common_14 rfl (lv_at hl 2 rfl) ?_
    refine lv_lstore (lv' := [(6, .long (lN y0)), (4, .long (lN x0)), (0, .long a), (2, .long (lN y0))]) gX gB dX6_common_15 hl (by decide) rfl (fun ls hl => ?_)
    have hl : lv_has ls 10 [(6, .long (lN y0)), (4, .long (lN x0)), (0, .long a), (2, .long (lN y0))] := hl
    have loop : ∀ (fu : Nat) (u w : Nat), (w < fu) → (Nat.gcd u w = Nat.gcd x0 y0) → (u < 2 ^ 62) → (w < 2 ^ 62) → ∀ (H : Heap) (locs : List Loc), gx_W G A s (ws) H locs → ∀ ls : Array Slot, lv_has ls 10 [(4, .long (lN u)), (6, .long (lN w))] → W p l e ({ frames := 0, cells := 0, slots := 0, locals := 0 } : Room) s m args below meth c H locs 0 0 (MQ below (gx_Q G A (fun v u => v = some (.long (lN (Nat.gcd x0 y0))) ∧ u = ws)) args s (({ frames := 0, cells := 0, slots := 0, locals := 0 } : Room)).cells (({ frames := 0, cells := 0, slots := 0, locals := 0 } : Room)).slots A) (F0 m 17 ls []) := by
      intro fu
      induction fu with
      | zero => intro u w hfu hg hu hv H locs hW ls hl; exact absurd hfu (Nat.not_lt_zero _)
      | succ fu ih =>
        intro u w hfu hg hu hv H locs hW ls hl
        rcases Nat.eq_zero_or_pos w with hw0 | hw0
        · refine lv_lload gX gB dX6_common_17 (lv_at hl 1 rfl) ?_
          refine lv_lconst (v := 0) gX gB dX6_common_19 (by decide) ?_
          refine gx_lc_eq (tgt := 42) C dX6_common_20 dX6_common_21 (by decide) (fun _ => ?_) (fun h9 => absurd (show (lN w) = (0 : Int64) from (pk_lEQ (a := w) (b := 0) (by omega) (by decide)).mpr hw0) h9)
          refine lv_lload gX gB dX6_common_42 (lv_at hl 0 rfl) ?_
          exact gx_lret C hr hW (⟨by rw [← hg, hw0, Nat.gcd_zero_right], rfl⟩) (Nat.le_of_ble_eq_true rfl) (Nat.le_of_ble_eq_true rfl) dX6_common_44
        · refine lv_lload gX gB dX6_common_17 (lv_at hl 1 rfl) ?_
          refine lv_lconst (v := 0) gX gB dX6_common_19 (by decide) ?_
          refine gx_lc_eq (tgt := 42) C dX6_common_20 dX6_common_21 (by decide) (fun h9 => absurd (show (lN w) = (0 : Int64) from h9) (fun zz => absurd ((pk_lEQ (a := w) (b := 0) (by omega) (by decide)).mp zz) (by omega))) (fun _ => ?_)
          refine lv_lload gX gB dX6_common_24 (lv_at hl 0 rfl) ?_
          refine lv_lload gX gB dX6_common_26 (lv_at hl 1 rfl) ?_
          refine lv_lrem gX gB dX6_common_28 (fun zz => absurd ((pk_lEQ (a := w) (b := 0) (by omega) (by decide)).mp zz) (by omega)) ?_
          refine gx_topl (show ((lN u) - (lN u) / (lN w) * (lN w)) = lN (u % w) from pk_lRem (by omega) (by omega) (by omega)) ?_
          refine lv_lstore (lv' := [(8, .long (lN (u % w))), (4, .long (lN u)), (6, .long (lN w))]) gX gB dX6_common_29 hl (by decide) rfl (fun ls hl => ?_)
          refine lv_lload gX gB dX6_common_31 (lv_at hl 2 rfl) ?_
          refine lv_lstore (lv' := [(4, .long (lN w)), (8, .long (lN (u % w))), (6, .long (lN w))]) gX gB dX6_common_33 hl (by decide) rfl (fun ls hl => ?_)
          refine lv_lload gX gB dX6_common_35 (lv_at hl 1 rfl) ?_
          refine lv_lstore (lv' := [(6, .long (lN (u % w))), (4, .long (lN w)), (8, .long (lN (u % w)))]) gX gB dX6_common_37 hl (by decide) rfl (fun ls hl => ?_)
          refine lv_goto (tgt := 17) gX gB dX6_common_39 (by decide) ?_
          exact ih w (u % w) (by have := Nat.mod_lt u (show 0 < w by omega); omega) (by rw [Nat.gcd_comm, ← Nat.gcd_rec, Nat.gcd_comm]; exact hg) (by omega) (by have := Nat.mod_lt u (show 0 < w by omega); omega) _ _ hW ls (lv_sub hl [1, 0] rfl)
    exact loop (y0 + 1) x0 y0 (Nat.lt_succ_self _) rfl hx0 hy0 _ _ hW ls (lv_sub hl [1, 0] rfl)
  · refine lv_lload_n gX gB dX6_common_6 rfl (lv_at hl 0 rfl) ?_
    refine lv_lneg gX gB dX6_common_7 ?_
    refine lv_goto (tgt := 12) gX gB dX6_common_8 (by decide) ?_
    refine gx_topl (show (-a) = lN x0 from ab_1 (Int64.not_le.mp c2) hsx) ?_
    refine lv_lstore (lv' := [(4, .long (lN x0)), (0, .long a), (2, .long (lN y0))]) gX gB dX6_common_12 hl (by decide) rfl (fun ls hl => ?_)
    refine lv_lload_n gX gB dX6_common_14 rfl (lv_at hl 2 rfl) ?_
    refine lv_lstore (lv' := [(6, .long (lN y0)), (4, .long (lN x0)), (0, .long a), (2, .long (lN y0))]) gX gB dX6_common_15 hl (by decide) rfl (fun ls hl => ?_)
    have hl : lv_has ls 10 [(6, .long (lN y0)), (4, .long (lN x0)), (0, .long a), (2, .long (lN y0))] := hl
    have loop : ∀ (fu : Nat) (u w : Nat), (w < fu) → (Nat.gcd u w = Nat.gcd x0 y0) → (u < 2 ^ 62) → (w < 2 ^ 62) → ∀ (H : Heap) (locs : List Loc), gx_W G A s (ws) H locs → ∀ ls : Array Slot, lv_has ls 10 [(4, .long (lN u)), (6, .long (lN w))] → W p l e ({ frames := 0, cells := 0, slots := 0, locals := 0 } : Room) s m args below meth c H locs 0 0 (MQ below (gx_Q G A (fun v u => v = some (.long (lN (Nat.gcd x0 y0))) ∧ u = ws)) args s (({ frames := 0, cells := 0, slots := 0, locals := 0 } : Room)).cells (({ frames := 0, cells := 0, slots := 0, locals := 0 } : Room)).slots A) (F0 m 17 ls []) := by
      intro fu
      induction fu with
      | zero => intro u w hfu hg hu hv H locs hW ls hl; exact absurd hfu (Nat.not_lt_zero _)
      | succ fu ih =>
        intro u w hfu hg hu hv H locs hW ls hl
        rcases Nat.eq_zero_or_pos w with hw0 | hw0
        · refine lv_lload gX gB dX6_common_17 (lv_at hl 1 rfl) ?_
          refine lv_lconst (v := 0) gX gB dX6_common_19 (by decide) ?_
          refine gx_lc_eq (tgt := 42) C dX6_common_20 dX6_common_21 (by decide) (fun _ => ?_) (fun h9 => absurd (show (lN w) = (0 : Int64) from (pk_lEQ (a := w) (b := 0) (by omega) (by decide)).mpr hw0) h9)
          refine lv_lload gX gB dX6_common_42 (lv_at hl 0 rfl) ?_
          exact gx_lret C hr hW (⟨by rw [← hg, hw0, Nat.gcd_zero_right], rfl⟩) (Nat.le_of_ble_eq_true rfl) (Nat.le_of_ble_eq_true rfl) dX6_common_44
        · refine lv_lload gX gB dX6_common_17 (lv_at hl 1 rfl) ?_
          refine lv_lconst (v := 0) gX gB dX6_common_19 (by decide) ?_
          refine gx_lc_eq (tgt := 42) C dX6_common_20 dX6_common_21 (by decide) (fun h9 => absurd (show (lN w) = (0 : Int64) from h9) (fun zz => absurd ((pk_lEQ (a := w) (b := 0) (by omega) (by decide)).mp zz) (by omega))) (fun _ => ?_)
          refine lv_lload gX gB dX6_common_24 (lv_at hl 0 rfl) ?_
          refine lv_lload gX gB dX6_common_26 (lv_at hl 1 rfl) ?_
          refine lv_lrem gX gB dX6_common_28 (fun zz => absurd ((pk_lEQ (a := w) (b := 0) (by omega) (by decide)).mp zz) (by omega)) ?_
          refine gx_topl (show ((lN u) - (lN u) / (lN w) * (lN w)) = lN (u % w) from pk_lRem (by omega) (by omega) (by omega)) ?_
          refine lv_lstore (lv' := [(8, .long (lN (u % w))), (4, .long (lN u)), (6, .long (lN w))]) gX gB dX6_common_29 hl (by decide) rfl (fun ls hl => ?_)
          refine lv_lload gX gB dX6_common_31 (lv_at hl 2 rfl) ?_
          refine lv_lstore (lv' := [(4, .long (lN w)), (8, .long (lN (u % w))), (6, .long (lN w))]) gX gB dX6_common_33 hl (by decide) rfl (fun ls hl => ?_)
          refine lv_lload gX gB dX6_common_35 (lv_at hl 1 rfl) ?_
          refine lv_lstore (lv' := [(6, .long (lN (u % w))), (4, .long (lN w)), (8, .long (lN (u % w)))]) gX gB dX6_common_37 hl (by decide) rfl (fun ls hl => ?_)
          refine lv_goto (tgt := 17) gX gB dX6_common_39 (by decide) ?_
          exact ih w (u % w) (by have := Nat.mod_lt u (show 0 < w by omega); omega) (by rw [Nat.gcd_comm, ← Nat.gcd_rec, Nat.gcd_comm]; exact hg) (by omega) (by have := Nat.mod_lt u (show 0 < w by omega); omega) _ _ hW ls (lv_sub hl [1, 0] rfl)
    exact loop (y0 + 1) x0 y0 (Nat.lt_succ_self _) rfl hx0 hy0 _ _ hW ls (lv_sub hl [1, 0] rfl)
abbrev rc_s0 (ex ey eg : Int64) (ax : Int32) : Int64 := (if ax = 0 then eg * ex else if ax = 1 then eg * ey else 0)
abbrev rc_mm (px py pz gr : Nat → Int64) (ax : Int32) : Nat → Int64 := (fun k => gr k * (if ax = 0 then px k else if ax = 1 then py k else pz k))
set_option maxHeartbeats 4000000 in
set_option maxRecDepth 100000 in
theorem kX6_centre (l : Launch) (G : gx_T) (ad : Nat → Nat) (cd : Int32) (pn fn dn cn sn tn : Nat) (ex ey eg : Int64) (at0 fl : Int32) (px py pz gr ou fx fy : Nat → Int64) (od cr ty to_ dr : Nat → Int32) (hpn : pn ≤ 16) (ax p2 : Int32) (gN sN : Nat) (hgN : mo_sum eg gr pn = lN gN) (hg0 : gN < 2 ^ 26) (hsN : (if 0 < mo_sum (rc_s0 ex ey eg ax) (rc_mm px py pz gr ax) pn then mo_sum (rc_s0 ex ey eg ax) (rc_mm px py pz gr ax) pn else -mo_sum (rc_s0 ex ey eg ax) (rc_mm px py pz gr ax) pn) = lN sN) (hs0 : sN < 2 ^ 44) : gx_M l G yX6_centre cX6_centre 9 (some .long) ({ frames := 1, cells := 0, slots := 0, locals := 29 } : Room) [.ref (ad 0), .int ax, .int p2] ([(ad 0, .inr (11, [.int cd, .int (nI pn), .ref (ad 1), .ref (ad 2), .ref (ad 3), .ref (ad 4), .ref (ad 5), .int (nI fn), .ref (ad 6), .ref (ad 7), .int (nI dn), .ref (ad 8), .long ex, .long ey, .long eg, .int (nI cn), .ref (ad 9), .ref (ad 10), .int (nI sn), .int at0, .int fl, .int (nI tn), .ref (ad 11), .ref (ad 12)])), (ad 1, .inl (G.2.1 2, 16, .inr (.inl px))), (ad 2, .inl (G.2.1 2, 16, .inr (.inl py))), (ad 3, .inl (G.2.1 2, 16, .inr (.inl pz))), (ad 4, .inl (G.2.1 2, 16, .inr (.inl gr))), (ad 5, .inl (G.2.1 2, 16, .inr (.inl ou))), (ad 6, .inl (G.2.1 2, 12, .inr (.inl fx))), (ad 7, .inl (G.2.1 2, 12, .inr (.inl fy))), (ad 8, .inl (G.2.1 1, 8, .inl od)), (ad 9, .inl (G.2.1 1, 12, .inl cr)), (ad 10, .inl (G.2.1 1, 200, .inl ty)), (ad 11, .inl (G.2.1 1, 48, .inl to_)), (ad 12, .inl (G.2.1 1, 48, .inl dr))]) (fun v u => (ce_code ax p2 (mo_sum eg gr pn) = 0 ∧ v = some (.long (if p2 = 0 then mo_sum (rc_s0 ex ey eg ax) (rc_mm px py pz gr ax) pn / lN (Nat.gcd sN gN) else mo_sum eg gr pn / lN (Nat.gcd sN gN))) ∧ u = [(ad 0, .inr (11, [.int 0, .int (nI pn), .ref (ad 1), .ref (ad 2), .ref (ad 3), .ref (ad 4), .ref (ad 5), .int (nI fn), .ref (ad 6), .ref (ad 7), .int (nI dn), .ref (ad 8), .long ex, .long ey, .long eg, .int (nI cn), .ref (ad 9), .ref (ad 10), .int (nI sn), .int at0, .int fl, .int (nI tn), .ref (ad 11), .ref (ad 12)])), (ad 1, .inl (G.2.1 2, 16, .inr (.inl px))), (ad 2, .inl (G.2.1 2, 16, .inr (.inl py))), (ad 3, .inl (G.2.1 2, 16, .inr (.inl pz))), (ad 4, .inl (G.2.1 2, 16, .inr (.inl gr))), (ad 5, .inl (G.2.1 2, 16, .inr (.inl ou))), (ad 6, .inl (G.2.1 2, 12, .inr (.inl fx))), (ad 7, .inl (G.2.1 2, 12, .inr (.inl fy))), (ad 8, .inl (G.2.1 1, 8, .inl od)), (ad 9, .inl (G.2.1 1, 12, .inl cr)), (ad 10, .inl (G.2.1 1, 200, .inl ty)), (ad 11, .inl (G.2.1 1, 48, .inl to_)), (ad 12, .inl (G.2.1 1, 48, .inl dr))]) ∨ (¬ ce_code ax p2 (mo_sum eg gr pn) = 0 ∧ v = some (.long 0) ∧ u = [(ad 0, .inr (11, [.int (ce_code ax p2 (mo_sum eg gr pn)), .int (nI pn), .ref (ad 1), .ref (ad 2), .ref (ad 3), .ref (ad 4), .ref (ad 5), .int (nI fn), .ref (ad 6), .ref (ad 7), .int (nI dn), .ref (ad 8), .long ex, .long ey, .long eg, .int (nI cn), .ref (ad 9), .ref (ad 10), .int (nI sn), .int at0, .int fl, .int (nI tn), .ref (ad 11), .ref (ad 12)])), (ad 1, .inl (G.2.1 2, 16, .inr (.inl px))), (ad 2, .inl (G.2.1 2, 16, .inr (.inl py))), (ad 3, .inl (G.2.1 2, 16, .inr (.inl pz))), (ad 4, .inl (G.2.1 2, 16, .inr (.inl gr))), (ad 5, .inl (G.2.1 2, 16, .inr (.inl ou))), (ad 6, .inl (G.2.1 2, 12, .inr (.inl fx))), (ad 7, .inl (G.2.1 2, 12, .inr (.inl fy))), (ad 8, .inl (G.2.1 1, 8, .inl od)), (ad 9, .inl (G.2.1 1, 12, .inl cr)), (ad 10, .inl (G.2.1 1, 200, .inl ty)), (ad 11, .inl (G.2.1 1, 48, .inl to_)), (ad 12, .inl (G.2.1 1, 48, .inl dr))])) := by
  refine gx_start (by decide +kernel) (Nat.le_of_ble_eq_true rfl) ?_
  intro p e s m args below meth c A ls C hr hnm hW hl
  have gX := C.x
  have gB := C.b
  have hl : lv_has ls 9 [(0, .ref (ad 0)), (1, .int ax), (2, .int p2)] := hl
  refine lv_aload_n gX gB dX6_centre_0 rfl (lv_at hl 0 rfl) ?_
  refine gx_get C hW fX6_84 ⟨0, rfl⟩ rfl dX6_centre_1 ?_
  refine lv_lstore_n (lv' := [(3, .long eg), (0, .ref (ad 0)), (1, .int ax), (2, .int p2)]) gX gB dX6_centre_4 rfl hl (by decide) rfl (fun ls hl => ?_)
  refine lv_iconst (v := 0) gX gB dX6_centre_5 (by decide) ?_
  refine lv_istore (lv' := [(5, .int 0), (3, .long eg), (0, .ref (ad 0)), (1, .int ax), (2, .int p2)]) gX gB dX6_centre_6 hl (by decide) rfl (fun ls hl => ?_)
  have hl : lv_has ls 9 [(5, .int (nI 0)), (3, .long (mo_sum eg gr 0)), (0, .ref (ad 0)), (1, .int ax), (2, .int p2)] := hl
  have loop : ∀ (fu : Nat) (i : Nat), (pn - i < fu) → (i ≤ pn) → ∀ (H : Heap) (locs : List Loc), gx_W G A s ([(ad 0, .inr (11, [.int cd, .int (nI pn), .ref (ad 1), .ref (ad 2), .ref (ad 3), .ref (ad 4), .ref (ad 5), .int (nI fn), .ref (ad 6), .ref (ad 7), .int (nI dn), .ref (ad 8), .long ex, .long ey, .long eg, .int (nI cn), .ref (ad 9), .ref (ad 10), .int (nI sn), .int at0, .int fl, .int (nI tn), .ref (ad 11), .ref (ad 12)])), (ad 1, .inl (G.2.1 2, 16, .inr (.inl px))), (ad 2, .inl (G.2.1 2, 16, .inr (.inl py))), (ad 3, .inl (G.2.1 2, 16, .inr (.inl pz))), (ad 4, .inl (G.2.1 2, 16, .inr (.inl gr))), (ad 5, .inl (G.2.1 2, 16, .inr (.inl ou))), (ad 6, .inl (G.2.1 2, 12, .inr (.inl fx))), (ad 7, .inl (G.2.1 2, 12, .inr (.inl fy))), (ad 8, .inl (G.2.1 1, 8, .inl od)), (ad 9, .inl (G.2.1 1, 12, .inl cr)), (ad 10, .inl (G.2.1 1, 200, .inl ty)), (ad 11, .inl (G.2.1 1, 48, .inl to_)), (ad 12, .inl (G.2.1 1, 48, .inl dr))]) H locs → ∀ ls : Array Slot, lv_has ls 9 [(5, .int (nI i)), (3, .long (mo_sum eg gr i)), (0, .ref (ad 0)), (1, .int ax), (2, .int p2)] → W p l e ({ frames := 1, cells := 0, slots := 0, locals := 29 } : Room) s m args below meth c H locs 0 0 (MQ below (gx_Q G A (fun v u => (ce_code ax p2 (mo_sum eg gr pn) = 0 ∧ v = some (.long (if p2 = 0 then mo_sum (rc_s0 ex ey eg ax) (rc_mm px py pz gr ax) pn / lN (Nat.gcd sN gN) else mo_sum eg gr pn / lN (Nat.gcd sN gN))) ∧ u = [(ad 0, .inr (11, [.int 0, .int (nI pn), .ref (ad 1), .ref (ad 2), .ref (ad 3), .ref (ad 4), .ref (ad 5), .int (nI fn), .ref (ad 6), .ref (ad 7), .int (nI dn), .ref (ad 8), .long ex, .long ey, .long eg, .int (nI cn), .ref (ad 9), .ref (ad 10), .int (nI sn), .int at0, .int fl, .int (nI tn), .ref (ad 11), .ref (ad 12)])), (ad 1, .inl (G.2.1 2, 16, .inr (.inl px))), (ad 2, .inl (G.2.1 2, 16, .inr (.inl py))), (ad 3, .inl (G.2.1 2, 16, .inr (.inl pz))), (ad 4, .inl (G.2.1 2, 16, .inr (.inl gr))), (ad 5, .inl (G.2.1 2, 16, .inr (.inl ou))), (ad 6, .inl (G.2.1 2, 12, .inr (.inl fx))), (ad 7, .inl (G.2.1 2, 12, .inr (.inl fy))), (ad 8, .inl (G.2.1 1, 8, .inl od)), (ad 9, .inl (G.2.1 1, 12, .inl cr)), (ad 10, .inl (G.2.1 1, 200, .inl ty)), (ad 11, .inl (G.2.1 1, 48, .inl to_)), (ad 12, .inl (G.2.1 1, 48, .inl dr))]) ∨ (¬ ce_code ax p2 (mo_sum eg gr pn) = 0 ∧ v = some (.long 0) ∧ u = [(ad 0, .inr (11, [.int (ce_code ax p2 (mo_sum eg gr pn)), .int (nI pn), .ref (ad 1), .ref (ad 2), .ref (ad 3), .ref (ad 4), .ref (ad 5), .int (nI fn), .ref (ad 6), .ref (ad 7), .int (nI dn), .ref (ad 8), .long ex, .long ey, .long eg, .int (nI cn), .ref (ad 9), .ref (ad 10), .int (nI sn), .int at0, .int fl, .int (nI tn), .ref (ad 11), .ref (ad 12)])), (ad 1, .inl (G.2.1 2, 16, .inr (.inl px))), (ad 2, .inl (G.2.1 2, 16, .inr (.inl py))), (ad 3, .inl (G.2.1 2, 16, .inr (.inl pz))), (ad 4, .inl (G.2.1 2, 16, .inr (.inl gr))), (ad 5, .inl (G.2.1 2, 16, .inr (.inl ou))), (ad 6, .inl (G.2.1 2, 12, .inr (.inl fx))), (ad 7, .inl (G.2.1 2, 12, .inr (.inl fy))), (ad 8, .inl (G.2.1 1, 8, .inl od)), (ad 9, .inl (G.2.1 1, 12, .inl cr)), (ad 10, .inl (G.2.1 1, 200, .inl ty)), (ad 11, .inl (G.2.1 1, 48, .inl to_)), (ad 12, .inl (G.2.1 1, 48, .inl dr))]))) args s (({ frames := 1, cells := 0, slots := 0, locals := 29 } : Room)).cells (({ frames := 1, cells := 0, slots := 0, locals := 29 } : Room)).slots A) (F0 m 8 ls []) := by
    intro fu
    induction fu with
    | zero => intro i hfu hi H locs hW ls hl; exact absurd hfu (Nat.not_lt_zero _)
    | succ fu ih =>
      intro i hfu hi H locs hW ls hl
      rcases Nat.lt_or_ge i pn with hik | hik
      · refine lv_iload gX gB dX6_centre_8 (lv_at hl 0 rfl) ?_
        refine lv_aload_n gX gB dX6_centre_10 rfl (lv_at hl 2 rfl) ?_
        refine gx_get C hW fX6_65 ⟨0, rfl⟩ rfl dX6_centre_11 ?_
        refine lv_icmp_ge (tgt := 33) gX gB dX6_centre_14 (by decide) (fun h9 => absurd (show (nI pn) ≤ (nI i) from h9) (nI_ge hik (by omega))) (fun _ => ?_)
        refine lv_lload_n gX gB dX6_centre_17 rfl (lv_at hl 1 rfl) ?_
        refine lv_aload_n gX gB dX6_centre_18 rfl (lv_at hl 2 rfl) ?_
        refine gx_get C hW fX6_19 ⟨0, rfl⟩ rfl dX6_centre_19 ?_
        refine lv_iload gX gB dX6_centre_22 (lv_at hl 0 rfl) ?_
        refine gx_lald C hW ⟨4, rfl⟩ (j := i) rfl (by omega) (by decide) dX6_centre_24 ?_
        refine lv_ladd gX gB dX6_centre_25 ?_
        refine gx_topl (show ((mo_sum eg gr i) + (gr i)) = mo_sum eg gr (i + 1) from rfl) ?_
        refine lv_lstore_n (lv' := [(3, .long (mo_sum eg gr (i + 1))), (5, .int (nI i)), (0, .ref (ad 0)), (1, .int ax), (2, .int p2)]) gX gB dX6_centre_26 rfl hl (by decide) rfl (fun ls hl => ?_)
        refine lv_iinc (v := nI (i + 1)) (lv' := [(5, .int (nI (i + 1))), (3, .long (mo_sum eg gr (i + 1))), (0, .ref (ad 0)), (1, .int ax), (2, .int p2)]) gX gB dX6_centre_27 hl (k := 1) rfl (by exact nI_1 i) (by decide) rfl (fun ls hl => ?_)
        refine lv_goto (tgt := 8) gX gB dX6_centre_30 (by decide) ?_
        exact ih (i + 1) (by omega) (by omega) _ _ hW ls (lv_sub hl [0, 1, 2, 3, 4] rfl)
      · have e9 : i = pn := by omega
        rw [e9] at hl
        refine lv_iload gX gB dX6_centre_8 (lv_at hl 0 rfl) ?_
        refine lv_aload_n gX gB dX6_centre_10 rfl (lv_at hl 2 rfl) ?_
        refine gx_get C hW fX6_65 ⟨0, rfl⟩ rfl dX6_centre_11 ?_
        refine lv_icmp_ge (tgt := 33) gX gB dX6_centre_14 (by decide) (fun _ => ?_) (fun h9 => absurd (show (nI pn) ≤ (nI pn) from Int32.le_refl _) h9)
        refine lv_aload_n gX gB dX6_centre_33 rfl (lv_at hl 2 rfl) ?_
        refine lv_iload_n gX gB dX6_centre_34 rfl (lv_at hl 3 rfl) ?_
        refine lv_if_lt (tgt := 52) gX gB dX6_centre_35 (by decide) (fun c35 => ?_) (fun c35 => ?_)
        · refine lv_iconst (v := 1) gX gB dX6_centre_52 (by decide) ?_
          refine lv_goto (tgt := 67) gX gB dX6_centre_53 (by decide) ?_
          refine gx_putE C hW clX6 fX6_47 0 rfl (Or.inl rfl) rfl rfl (Nat.le_of_ble_eq_true rfl) dX6_centre_67 (fun H locs hW => ?_)
          have hW : gx_W G A s ([(ad 0, .inr (11, [.int 1, .int (nI pn), .ref (ad 1), .ref (ad 2), .ref (ad 3), .ref (ad 4), .ref (ad 5), .int (nI fn), .ref (ad 6), .ref (ad 7), .int (nI dn), .ref (ad 8), .long ex, .long ey, .long eg, .int (nI cn), .ref (ad 9), .ref (ad 10), .int (nI sn), .int at0, .int fl, .int (nI tn), .ref (ad 11), .ref (ad 12)])), (ad 1, .inl (G.2.1 2, 16, .inr (.inl px))), (ad 2, .inl (G.2.1 2, 16, .inr (.inl py))), (ad 3, .inl (G.2.1 2, 16, .inr (.inl pz))), (ad 4, .inl (G.2.1 2, 16, .inr (.inl gr))), (ad 5, .inl (G.2.1 2, 16, .inr (.inl ou))), (ad 6, .inl (G.2.1 2, 12, .inr (.inl fx))), (ad 7, .inl (G.2.1 2, 12, .inr (.inl fy))), (ad 8, .inl (G.2.1 1, 8, .inl od)), (ad 9, .inl (G.2.1 1, 12, .inl cr)), (ad 10, .inl (G.2.1 1, 200, .inl ty)), (ad 11, .inl (G.2.1 1, 48, .inl to_)), (ad 12, .inl (G.2.1 1, 48, .inl dr))]) H locs := hW
          refine lv_aload_n gX gB dX6_centre_70 rfl (lv_at hl 2 rfl) ?_
          refine gx_get C hW fX6_47 ⟨0, rfl⟩ rfl dX6_centre_71 ?_
          refine lv_if_le (tgt := 79) gX gB dX6_centre_74 (by decide) (fun h9 => absurd (show 1 ≤ (0 : Int32) from h9) (by decide)) (fun _ => ?_)
          refine lv_lconst (v := 0) gX gB dX6_centre_77 (by decide) ?_
          exact gx_lret C hr hW (Or.inr ⟨by rw [ce_1 (Or.inl c35)]; decide, rfl, by rw [ce_1 (Or.inl c35)]⟩) (Nat.le_of_ble_eq_true rfl) (Nat.le_of_ble_eq_true rfl) dX6_centre_78
        · refine lv_iload_n gX gB dX6_centre_38 rfl (lv_at hl 3 rfl) ?_
          refine lv_iconst (v := 2) gX gB dX6_centre_39 (by decide) ?_
          refine lv_icmp_gt (tgt := 52) gX gB dX6_centre_40 (by decide) (fun c40 => ?_) (fun c40 => ?_)
          · refine lv_iconst (v := 1) gX gB dX6_centre_52 (by decide) ?_
            refine lv_goto (tgt := 67) gX gB dX6_centre_53 (by decide) ?_
            refine gx_putE C hW clX6 fX6_47 0 rfl (Or.inl rfl) rfl rfl (Nat.le_of_ble_eq_true rfl) dX6_centre_67 (fun H locs hW => ?_)
            have hW : gx_W G A s ([(ad 0, .inr (11, [.int 1, .int (nI pn), .ref (ad 1), .ref (ad 2), .ref (ad 3), .ref (ad 4), .ref (ad 5), .int (nI fn), .ref (ad 6), .ref (ad 7), .int (nI dn), .ref (ad 8), .long ex, .long ey, .long eg, .int (nI cn), .ref (ad 9), .ref (ad 10), .int (nI sn), .int at0, .int fl, .int (nI tn), .ref (ad 11), .ref (ad 12)])), (ad 1, .inl (G.2.1 2, 16, .inr (.inl px))), (ad 2, .inl (G.2.1 2, 16, .inr (.inl py))), (ad 3, .inl (G.2.1 2, 16, .inr (.inl pz))), (ad 4, .inl (G.2.1 2, 16, .inr (.inl gr))), (ad 5, .inl (G.2.1 2, 16, .inr (.inl ou))), (ad 6, .inl (G.2.1 2, 12, .inr (.inl fx))), (ad 7, .inl (G.2.1 2, 12, .inr (.inl fy))), (ad 8, .inl (G.2.1 1, 8, .inl od)), (ad 9, .inl (G.2.1 1, 12, .inl cr)), (ad 10, .inl (G.2.1 1, 200, .inl ty)), (ad 11, .inl (G.2.1 1, 48, .inl to_)), (ad 12, .inl (G.2.1 1, 48, .inl dr))]) H locs := hW
            refine lv_aload_n gX gB dX6_centre_70 rfl (lv_at hl 2 rfl) ?_
            refine gx_get C hW fX6_47 ⟨0, rfl⟩ rfl dX6_centre_71 ?_
            refine lv_if_le (tgt := 79) gX gB dX6_centre_74 (by decide) (fun h9 => absurd (show 1 ≤ (0 : Int32) from h9) (by decide)) (fun _ => ?_)
            refine lv_lconst (v := 0) gX gB dX6_centre_77 (by decide) ?_
            exact gx_lret C hr hW (Or.inr ⟨by rw [ce_1 (Or.inr (Or.inl c40))]; decide, rfl, by rw [ce_1 (Or.inr (Or.inl c40))]⟩) (Nat.le_of_ble_eq_true rfl) (Nat.le_of_ble_eq_true rfl) dX6_centre_78
          · refine lv_iload_n gX gB dX6_centre_43 rfl (lv_at hl 4 rfl) ?_
            refine lv_if_lt (tgt := 52) gX gB dX6_centre_44 (by decide) (fun c44 => ?_) (fun c44 => ?_)
            · refine lv_iconst (v := 1) gX gB dX6_centre_52 (by decide) ?_
              refine lv_goto (tgt := 67) gX gB dX6_centre_53 (by decide) ?_
              refine gx_putE C hW clX6 fX6_47 0 rfl (Or.inl rfl) rfl rfl (Nat.le_of_ble_eq_true rfl) dX6_centre_67 (fun H locs hW => ?_)
              have hW : gx_W G A s ([(ad 0, .inr (11, [.int 1, .int (nI pn), .ref (ad 1), .ref (ad 2), .ref (ad 3), .ref (ad 4), .ref (ad 5), .int (nI fn), .ref (ad 6), .ref (ad 7), .int (nI dn), .ref (ad 8), .long ex, .long ey, .long eg, .int (nI cn), .ref (ad 9), .ref (ad 10), .int (nI sn), .int at0, .int fl, .int (nI tn), .ref (ad 11), .ref (ad 12)])), (ad 1, .inl (G.2.1 2, 16, .inr (.inl px))), (ad 2, .inl (G.2.1 2, 16, .inr (.inl py))), (ad 3, .inl (G.2.1 2, 16, .inr (.inl pz))), (ad 4, .inl (G.2.1 2, 16, .inr (.inl gr))), (ad 5, .inl (G.2.1 2, 16, .inr (.inl ou))), (ad 6, .inl (G.2.1 2, 12, .inr (.inl fx))), (ad 7, .inl (G.2.1 2, 12, .inr (.inl fy))), (ad 8, .inl (G.2.1 1, 8, .inl od)), (ad 9, .inl (G.2.1 1, 12, .inl cr)), (ad 10, .inl (G.2.1 1, 200, .inl ty)), (ad 11, .inl (G.2.1 1, 48, .inl to_)), (ad 12, .inl (G.2.1 1, 48, .inl dr))]) H locs := hW
              refine lv_aload_n gX gB dX6_centre_70 rfl (lv_at hl 2 rfl) ?_
              refine gx_get C hW fX6_47 ⟨0, rfl⟩ rfl dX6_centre_71 ?_
              refine lv_if_le (tgt := 79) gX gB dX6_centre_74 (by decide) (fun h9 => absurd (show 1 ≤ (0 : Int32) from h9) (by decide)) (fun _ => ?_)
              refine lv_lconst (v := 0) gX gB dX6_centre_77 (by decide) ?_
              exact gx_lret C hr hW (Or.inr ⟨by rw [ce_1 (Or.inr (Or.inr (Or.inl c44)))]; decide, rfl, by rw [ce_1 (Or.inr (Or.inr (Or.inl c44)))]⟩) (Nat.le_of_ble_eq_true rfl) (Nat.le_of_ble_eq_true rfl) dX6_centre_78
            · refine lv_iload_n gX gB dX6_centre_47 rfl (lv_at hl 4 rfl) ?_
              refine lv_iconst (v := 1) gX gB dX6_centre_48 (by decide) ?_
              refine lv_icmp_le (tgt := 56) gX gB dX6_centre_49 (by decide) (fun c49 => ?_) (fun c49 => ?_)
              · refine lv_lload_n gX gB dX6_centre_56 rfl (lv_at hl 1 rfl) ?_
                refine lv_lconst (v := 0) gX gB dX6_centre_57 (by decide) ?_
                refine gx_lc_ne (tgt := 66) C dX6_centre_58 dX6_centre_59 (by decide) (fun c58 => ?_) (fun c58 => ?_)
                · refine lv_iconst (v := 0) gX gB dX6_centre_66 (by decide) ?_
                  refine gx_putE C hW clX6 fX6_47 0 rfl (Or.inl rfl) rfl rfl (Nat.le_of_ble_eq_true rfl) dX6_centre_67 (fun H locs hW => ?_)
                  have hW : gx_W G A s ([(ad 0, .inr (11, [.int 0, .int (nI pn), .ref (ad 1), .ref (ad 2), .ref (ad 3), .ref (ad 4), .ref (ad 5), .int (nI fn), .ref (ad 6), .ref (ad 7), .int (nI dn), .ref (ad 8), .long ex, .long ey, .long eg, .int (nI cn), .ref (ad 9), .ref (ad 10), .int (nI sn), .int at0, .int fl, .int (nI tn), .ref (ad 11), .ref (ad 12)])), (ad 1, .inl (G.2.1 2, 16, .inr (.inl px))), (ad 2, .inl (G.2.1 2, 16, .inr (.inl py))), (ad 3, .inl (G.2.1 2, 16, .inr (.inl pz))), (ad 4, .inl (G.2.1 2, 16, .inr (.inl gr))), (ad 5, .inl (G.2.1 2, 16, .inr (.inl ou))), (ad 6, .inl (G.2.1 2, 12, .inr (.inl fx))), (ad 7, .inl (G.2.1 2, 12, .inr (.inl fy))), (ad 8, .inl (G.2.1 1, 8, .inl od)), (ad 9, .inl (G.2.1 1, 12, .inl cr)), (ad 10, .inl (G.2.1 1, 200, .inl ty)), (ad 11, .inl (G.2.1 1, 48, .inl to_)), (ad 12, .inl (G.2.1 1, 48, .inl dr))]) H locs := hW
                  refine lv_aload_n gX gB dX6_centre_70 rfl (lv_at hl 2 rfl) ?_
                  refine gx_get C hW fX6_47 ⟨0, rfl⟩ rfl dX6_centre_71 ?_
                  refine lv_if_le (tgt := 79) gX gB dX6_centre_74 (by decide) (fun _ => ?_) (fun h9 => absurd (show 0 ≤ (0 : Int32) from by decide) h9)
                  refine lv_iload_n gX gB dX6_centre_79 rfl (lv_at hl 3 rfl) ?_
                  refine lv_if_ne (tgt := 95) gX gB dX6_centre_80 (by decide) (fun c80 => ?_) (fun c80 => ?_)
                  · refine lv_iload_n gX gB dX6_centre_95 rfl (lv_at hl 3 rfl) ?_
                    refine lv_iconst (v := 1) gX gB dX6_centre_96 (by decide) ?_
                    refine lv_icmp_ne (tgt := 112) gX gB dX6_centre_97 (by decide) (fun c97 => ?_) (fun c97 => ?_)
                    · refine lv_lconst (v := 0) gX gB dX6_centre_112 (by decide) ?_
                      refine gx_topl (show (0) = mo_sum (rc_s0 ex ey eg ax) (rc_mm px py pz gr ax) 0 from by rw [show mo_sum (rc_s0 ex ey eg ax) (rc_mm px py pz gr ax) 0 = rc_s0 ex ey eg ax from rfl, rc_s0, if_neg c80, if_neg c97]) ?_
                      refine lv_lstore (lv' := [(5, .long (mo_sum (rc_s0 ex ey eg ax) (rc_mm px py pz gr ax) 0)), (3, .long (mo_sum eg gr pn)), (0, .ref (ad 0)), (1, .int ax), (2, .int p2)]) gX gB dX6_centre_113 hl (by decide) rfl (fun ls hl => ?_)
                      refine lv_iconst (v := 0) gX gB dX6_centre_115 (by decide) ?_
                      refine lv_istore (lv' := [(7, .int 0), (5, .long (mo_sum (rc_s0 ex ey eg ax) (rc_mm px py pz gr ax) 0)), (3, .long (mo_sum eg gr pn)), (0, .ref (ad 0)), (1, .int ax), (2, .int p2)]) gX gB dX6_centre_116 hl (by decide) rfl (fun ls hl => ?_)
                      have hl : lv_has ls 9 [(7, .int (nI 0)), (5, .long (mo_sum (rc_s0 ex ey eg ax) (rc_mm px py pz gr ax) 0)), (3, .long (mo_sum eg gr pn)), (0, .ref (ad 0)), (1, .int ax), (2, .int p2)] := hl
                      have loop2 : ∀ (fu : Nat) (i : Nat), (pn - i < fu) → (i ≤ pn) → ∀ (H : Heap) (locs : List Loc), gx_W G A s ([(ad 0, .inr (11, [.int 0, .int (nI pn), .ref (ad 1), .ref (ad 2), .ref (ad 3), .ref (ad 4), .ref (ad 5), .int (nI fn), .ref (ad 6), .ref (ad 7), .int (nI dn), .ref (ad 8), .long ex, .long ey, .long eg, .int (nI cn), .ref (ad 9), .ref (ad 10), .int (nI sn), .int at0, .int fl, .int (nI tn), .ref (ad 11), .ref (ad 12)])), (ad 1, .inl (G.2.1 2, 16, .inr (.inl px))), (ad 2, .inl (G.2.1 2, 16, .inr (.inl py))), (ad 3, .inl (G.2.1 2, 16, .inr (.inl pz))), (ad 4, .inl (G.2.1 2, 16, .inr (.inl gr))), (ad 5, .inl (G.2.1 2, 16, .inr (.inl ou))), (ad 6, .inl (G.2.1 2, 12, .inr (.inl fx))), (ad 7, .inl (G.2.1 2, 12, .inr (.inl fy))), (ad 8, .inl (G.2.1 1, 8, .inl od)), (ad 9, .inl (G.2.1 1, 12, .inl cr)), (ad 10, .inl (G.2.1 1, 200, .inl ty)), (ad 11, .inl (G.2.1 1, 48, .inl to_)), (ad 12, .inl (G.2.1 1, 48, .inl dr))]) H locs → ∀ ls : Array Slot, lv_has ls 9 [(7, .int (nI i)), (5, .long (mo_sum (rc_s0 ex ey eg ax) (rc_mm px py pz gr ax) i)), (3, .long (mo_sum eg gr pn)), (0, .ref (ad 0)), (1, .int ax), (2, .int p2)] → W p l e ({ frames := 1, cells := 0, slots := 0, locals := 29 } : Room) s m args below meth c H locs 0 0 (MQ below (gx_Q G A (fun v u => (ce_code ax p2 (mo_sum eg gr pn) = 0 ∧ v = some (.long (if p2 = 0 then mo_sum (rc_s0 ex ey eg ax) (rc_mm px py pz gr ax) pn / lN (Nat.gcd sN gN) else mo_sum eg gr pn / lN (Nat.gcd sN gN))) ∧ u = [(ad 0, .inr (11, [.int 0, .int (nI pn), .ref (ad 1), .ref (ad 2), .ref (ad 3), .ref (ad 4), .ref (ad 5), .int (nI fn), .ref (ad 6), .ref (ad 7), .int (nI dn), .ref (ad 8), .long ex, .long ey, .long eg, .int (nI cn), .ref (ad 9), .ref (ad 10), .int (nI sn), .int at0, .int fl, .int (nI tn), .ref (ad 11), .ref (ad 12)])), (ad 1, .inl (G.2.1 2, 16, .inr (.inl px))), (ad 2, .inl (G.2.1 2, 16, .inr (.inl py))), (ad 3, .inl (G.2.1 2, 16, .inr (.inl pz))), (ad 4, .inl (G.2.1 2, 16, .inr (.inl gr))), (ad 5, .inl (G.2.1 2, 16, .inr (.inl ou))), (ad 6, .inl (G.2.1 2, 12, .inr (.inl fx))), (ad 7, .inl (G.2.1 2, 12, .inr (.inl fy))), (ad 8, .inl (G.2.1 1, 8, .inl od)), (ad 9, .inl (G.2.1 1, 12, .inl cr)), (ad 10, .inl (G.2.1 1, 200, .inl ty)), (ad 11, .inl (G.2.1 1, 48, .inl to_)), (ad 12, .inl (G.2.1 1, 48, .inl dr))]) ∨ (¬ ce_code ax p2 (mo_sum eg gr pn) = 0 ∧ v = some (.long 0) ∧ u = [(ad 0, .inr (11, [.int (ce_code ax p2 (mo_sum eg gr pn)), .int (nI pn), .ref (ad 1), .ref (ad 2), .ref (ad 3), .ref (ad 4), .ref (ad 5), .int (nI fn), .ref (ad 6), .ref (ad 7), .int (nI dn), .ref (ad 8), .long ex, .long ey, .long eg, .int (nI cn), .ref (ad 9), .ref (ad 10), .int (nI sn), .int at0, .int fl, .int (nI tn), .ref (ad 11), .ref (ad 12)])), (ad 1, .inl (G.2.1 2, 16, .inr (.inl px))), (ad 2, .inl (G.2.1 2, 16, .inr (.inl py))), (ad 3, .inl (G.2.1 2, 16, .inr (.inl pz))), (ad 4, .inl (G.2.1 2, 16, .inr (.inl gr))), (ad 5, .inl (G.2.1 2, 16, .inr (.inl ou))), (ad 6, .inl (G.2.1 2, 12, .inr (.inl fx))), (ad 7, .inl (G.2.1 2, 12, .inr (.inl fy))), (ad 8, .inl (G.2.1 1, 8, .inl od)), (ad 9, .inl (G.2.1 1, 12, .inl cr)), (ad 10, .inl (G.2.1 1, 200, .inl ty)), (ad 11, .inl (G.2.1 1, 48, .inl to_)), (ad 12, .inl (G.2.1 1, 48, .inl dr))]))) args s (({ frames := 1, cells := 0, slots := 0, locals := 29 } : Room)).cells (({ frames := 1, cells := 0, slots := 0, locals := 29 } : Room)).slots A) (F0 m 118 ls []) := by
                        intro fu
                        induction fu with
                        | zero => intro i hfu hi H locs hW ls hl; exact absurd hfu (Nat.not_lt_zero _)
                        | succ fu ih =>
                          intro i hfu hi H locs hW ls hl
                          rcases Nat.lt_or_ge i pn with hik | hik
                          · refine lv_iload gX gB dX6_centre_118 (lv_at hl 0 rfl) ?_
                            refine lv_aload_n gX gB dX6_centre_120 rfl (lv_at hl 3 rfl) ?_
                            refine gx_get C hW fX6_65 ⟨0, rfl⟩ rfl dX6_centre_121 ?_
                            refine lv_icmp_ge (tgt := 182) gX gB dX6_centre_124 (by decide) (fun h9 => absurd (show (nI pn) ≤ (nI i) from h9) (nI_ge hik (by omega))) (fun _ => ?_)
                            refine lv_lload gX gB dX6_centre_127 (lv_at hl 1 rfl) ?_
                            refine lv_aload_n gX gB dX6_centre_129 rfl (lv_at hl 3 rfl) ?_
                            refine gx_get C hW fX6_19 ⟨0, rfl⟩ rfl dX6_centre_130 ?_
                            refine lv_iload gX gB dX6_centre_133 (lv_at hl 0 rfl) ?_
                            refine gx_lald C hW ⟨4, rfl⟩ (j := i) rfl (by omega) (by decide) dX6_centre_135 ?_
                            refine lv_iload_n gX gB dX6_centre_136 rfl (lv_at hl 4 rfl) ?_
                            refine lv_if_ne (tgt := 150) gX gB dX6_centre_137 (by decide) (fun c137 => ?_) (fun c137 => ?_)
                            · refine lv_iload_n gX gB dX6_centre_150 rfl (lv_at hl 4 rfl) ?_
                              refine lv_iconst (v := 1) gX gB dX6_centre_151 (by decide) ?_
                              refine lv_icmp_ne (tgt := 165) gX gB dX6_centre_152 (by decide) (fun c152 => ?_) (fun c152 => ?_)
                              · refine lv_aload_n gX gB dX6_centre_165 rfl (lv_at hl 3 rfl) ?_
                                refine gx_get C hW fX6_16 ⟨0, rfl⟩ rfl dX6_centre_166 ?_
                                refine lv_iload gX gB dX6_centre_169 (lv_at hl 0 rfl) ?_
                                refine gx_lald C hW ⟨3, rfl⟩ (j := i) rfl (by omega) (by decide) dX6_centre_171 ?_
                                refine lv_lmul gX gB dX6_centre_172 ?_
                                refine lv_ladd gX gB dX6_centre_173 ?_
                                refine gx_topl (show ((mo_sum (rc_s0 ex ey eg ax) (rc_mm px py pz gr ax) i) + ((gr i) * (pz i))) = mo_sum (rc_s0 ex ey eg ax) (rc_mm px py pz gr ax) (i + 1) from congrArg (fun zz => mo_sum (rc_s0 ex ey eg ax) (rc_mm px py pz gr ax) i + gr i * zz) ((if_neg c137).trans (if_neg c152)).symm) ?_
                                refine lv_lstore (lv' := [(5, .long (mo_sum (rc_s0 ex ey eg ax) (rc_mm px py pz gr ax) (i + 1))), (7, .int (nI i)), (3, .long (mo_sum eg gr pn)), (0, .ref (ad 0)), (1, .int ax), (2, .int p2)]) gX gB dX6_centre_174 hl (by decide) rfl (fun ls hl => ?_)
                                refine lv_iinc (v := nI (i + 1)) (lv' := [(7, .int (nI (i + 1))), (5, .long (mo_sum (rc_s0 ex ey eg ax) (rc_mm px py pz gr ax) (i + 1))), (3, .long (mo_sum eg gr pn)), (0, .ref (ad 0)), (1, .int ax), (2, .int p2)]) gX gB dX6_centre_176 hl (k := 1) rfl (by exact nI_1 i) (by decide) rfl (fun ls hl => ?_)
                                refine lv_goto (tgt := 118) gX gB dX6_centre_179 (by decide) ?_
                                exact ih (i + 1) (by omega) (by omega) _ _ hW ls (lv_sub hl [0, 1, 2, 3, 4, 5] rfl)
                              · refine lv_aload_n gX gB dX6_centre_155 rfl (lv_at hl 3 rfl) ?_
                                refine gx_get C hW fX6_13 ⟨0, rfl⟩ rfl dX6_centre_156 ?_
                                refine lv_iload gX gB dX6_centre_159 (lv_at hl 0 rfl) ?_
                                refine gx_lald C hW ⟨2, rfl⟩ (j := i) rfl (by omega) (by decide) dX6_centre_161 ?_
                                refine lv_goto (tgt := 172) gX gB dX6_centre_162 (by decide) ?_
                                refine lv_lmul gX gB dX6_centre_172 ?_
                                refine lv_ladd gX gB dX6_centre_173 ?_
                                refine gx_topl (show ((mo_sum (rc_s0 ex ey eg ax) (rc_mm px py pz gr ax) i) + ((gr i) * (py i))) = mo_sum (rc_s0 ex ey eg ax) (rc_mm px py pz gr ax) (i + 1) from congrArg (fun zz => mo_sum (rc_s0 ex ey eg ax) (rc_mm px py pz gr ax) i + gr i * zz) ((if_neg c137).trans (if_pos c152)).symm) ?_
                                refine lv_lstore (lv' := [(5, .long (mo_sum (rc_s0 ex ey eg ax) (rc_mm px py pz gr ax) (i + 1))), (7, .int (nI i)), (3, .long (mo_sum eg gr pn)), (0, .ref (ad 0)), (1, .int ax), (2, .int p2)]) gX gB dX6_centre_174 hl (by decide) rfl (fun ls hl => ?_)
                                refine lv_iinc (v := nI (i + 1)) (lv' := [(7, .int (nI (i + 1))), (5, .long (mo_sum (rc_s0 ex ey eg ax) (rc_mm px py pz gr ax) (i + 1))), (3, .long (mo_sum eg gr pn)), (0, .ref (ad 0)), (1, .int ax), (2, .int p2)]) gX gB dX6_centre_176 hl (k := 1) rfl (by exact nI_1 i) (by decide) rfl (fun ls hl => ?_)
                                refine lv_goto (tgt := 118) gX gB dX6_centre_179 (by decide) ?_
                                exact ih (i + 1) (by omega) (by omega) _ _ hW ls (lv_sub hl [0, 1, 2, 3, 4, 5] rfl)
                            · refine lv_aload_n gX gB dX6_centre_140 rfl (lv_at hl 3 rfl) ?_
                              refine gx_get C hW fX6_7 ⟨0, rfl⟩ rfl dX6_centre_141 ?_
                              refine lv_iload gX gB dX6_centre_144 (lv_at hl 0 rfl) ?_
                              refine gx_lald C hW ⟨1, rfl⟩ (j := i) rfl (by omega) (by decide) dX6_centre_146 ?_
                              refine lv_goto (tgt := 172) gX gB dX6_centre_147 (by decide) ?_
                              refine lv_lmul gX gB dX6_centre_172 ?_
                              refine lv_ladd gX gB dX6_centre_173 ?_
                              refine gx_topl (show ((mo_sum (rc_s0 ex ey eg ax) (rc_mm px py pz gr ax) i) + ((gr i) * (px i))) = mo_sum (rc_s0 ex ey eg ax) (rc_mm px py pz gr ax) (i + 1) from congrArg (fun zz => mo_sum (rc_s0 ex ey eg ax) (rc_mm px py pz gr ax) i + gr i * zz) (if_pos c137).symm) ?_
                              refine lv_lstore (lv' := [(5, .long (mo_sum (rc_s0 ex ey eg ax) (rc_mm px py pz gr ax) (i + 1))), (7, .int (nI i)), (3, .long (mo_sum eg gr pn)), (0, .ref (ad 0)), (1, .int ax), (2, .int p2)]) gX gB dX6_centre_174 hl (by decide) rfl (fun ls hl => ?_)
                              refine lv_iinc (v := nI (i + 1)) (lv' := [(7, .int (nI (i + 1))), (5, .long (mo_sum (rc_s0 ex ey eg ax) (rc_mm px py pz gr ax) (i + 1))), (3, .long (mo_sum eg gr pn)), (0, .ref (ad 0)), (1, .int ax), (2, .int p2)]) gX gB dX6_centre_176 hl (k := 1) rfl (by exact nI_1 i) (by decide) rfl (fun ls hl => ?_)
                              refine lv_goto (tgt := 118) gX gB dX6_centre_179 (by decide) ?_
                              exact ih (i + 1) (by omega) (by omega) _ _ hW ls (lv_sub hl [0, 1, 2, 3, 4, 5] rfl)
                          · have e9 : i = pn := by omega
                            rw [e9] at hl
                            refine lv_iload gX gB dX6_centre_118 (lv_at hl 0 rfl) ?_
                            refine lv_aload_n gX gB dX6_centre_120 rfl (lv_at hl 3 rfl) ?_
                            refine gx_get C hW fX6_65 ⟨0, rfl⟩ rfl dX6_centre_121 ?_
                            refine lv_icmp_ge (tgt := 182) gX gB dX6_centre_124 (by decide) (fun _ => ?_) (fun h9 => absurd (show (nI pn) ≤ (nI pn) from Int32.le_refl _) h9)
                            refine lv_lload gX gB dX6_centre_182 (lv_at hl 1 rfl) ?_
                            refine lv_lload_n gX gB dX6_centre_184 rfl (lv_at hl 2 rfl) ?_
                            refine W.eq (g2 := F0 m 185 ls [.long (lN gN), .long (mo_sum (rc_s0 ex ey eg ax) (rc_mm px py pz gr ax) pn)]) (by rw [hgN]) ?_
                            have hg1 : ¬ gN = 0 := fun zz => absurd (show mo_sum eg gr pn = 0 by rw [hgN, zz]; rfl) c58
                            have hg2 : 1 ≤ Nat.gcd sN gN := Nat.gcd_pos_of_pos_right _ (by omega)
                            refine gx_callS (wr := []) (rest := []) C hW sX6_102 (kX6_common l G ([(ad 0, .inr (11, [.int 0, .int (nI pn), .ref (ad 1), .ref (ad 2), .ref (ad 3), .ref (ad 4), .ref (ad 5), .int (nI fn), .ref (ad 6), .ref (ad 7), .int (nI dn), .ref (ad 8), .long ex, .long ey, .long eg, .int (nI cn), .ref (ad 9), .ref (ad 10), .int (nI sn), .int at0, .int fl, .int (nI tn), .ref (ad 11), .ref (ad 12)])), (ad 1, .inl (G.2.1 2, 16, .inr (.inl px))), (ad 2, .inl (G.2.1 2, 16, .inr (.inl py))), (ad 3, .inl (G.2.1 2, 16, .inr (.inl pz))), (ad 4, .inl (G.2.1 2, 16, .inr (.inl gr))), (ad 5, .inl (G.2.1 2, 16, .inr (.inl ou))), (ad 6, .inl (G.2.1 2, 12, .inr (.inl fx))), (ad 7, .inl (G.2.1 2, 12, .inr (.inl fy))), (ad 8, .inl (G.2.1 1, 8, .inl od)), (ad 9, .inl (G.2.1 1, 12, .inl cr)), (ad 10, .inl (G.2.1 1, 200, .inl ty)), (ad 11, .inl (G.2.1 1, 48, .inl to_)), (ad 12, .inl (G.2.1 1, 48, .inl dr))]) (mo_sum (rc_s0 ex ey eg ax) (rc_mm px py pz gr ax) pn) sN gN hsN (by omega) (by omega)) rfl ⟨(Nat.le_of_ble_eq_true rfl), (Nat.le_of_ble_eq_true rfl)⟩ hl.1 rfl (Nat.le_of_ble_eq_true rfl) dX6_centre_185 ⟨(Nat.le_of_ble_eq_true rfl), (Nat.le_of_ble_eq_true rfl)⟩ (fun v9 u9 H locs hp hW => ?_)
                            obtain ⟨rfl, hu⟩ := hp
                            rw [hu] at hW
                            have hW : gx_W G A s ([(ad 0, .inr (11, [.int 0, .int (nI pn), .ref (ad 1), .ref (ad 2), .ref (ad 3), .ref (ad 4), .ref (ad 5), .int (nI fn), .ref (ad 6), .ref (ad 7), .int (nI dn), .ref (ad 8), .long ex, .long ey, .long eg, .int (nI cn), .ref (ad 9), .ref (ad 10), .int (nI sn), .int at0, .int fl, .int (nI tn), .ref (ad 11), .ref (ad 12)])), (ad 1, .inl (G.2.1 2, 16, .inr (.inl px))), (ad 2, .inl (G.2.1 2, 16, .inr (.inl py))), (ad 3, .inl (G.2.1 2, 16, .inr (.inl pz))), (ad 4, .inl (G.2.1 2, 16, .inr (.inl gr))), (ad 5, .inl (G.2.1 2, 16, .inr (.inl ou))), (ad 6, .inl (G.2.1 2, 12, .inr (.inl fx))), (ad 7, .inl (G.2.1 2, 12, .inr (.inl fy))), (ad 8, .inl (G.2.1 1, 8, .inl od)), (ad 9, .inl (G.2.1 1, 12, .inl cr)), (ad 10, .inl (G.2.1 1, 200, .inl ty)), (ad 11, .inl (G.2.1 1, 48, .inl to_)), (ad 12, .inl (G.2.1 1, 48, .inl dr))]) H locs := hW
                            refine W.eq (g2 := F0 m 188 ls [.long (lN (Nat.gcd sN gN))]) rfl ?_
                            refine W.widen (k := 0) (n := 0) (Nat.le_of_ble_eq_true rfl) (Nat.le_of_ble_eq_true rfl) ?_
                            refine lv_lstore (lv' := [(7, .long (lN (Nat.gcd sN gN))), (5, .long (mo_sum (rc_s0 ex ey eg ax) (rc_mm px py pz gr ax) pn)), (3, .long (mo_sum eg gr pn)), (0, .ref (ad 0)), (1, .int ax), (2, .int p2)]) gX gB dX6_centre_188 hl (by decide) rfl (fun ls hl => ?_)
                            refine lv_iload_n gX gB dX6_centre_190 rfl (lv_at hl 5 rfl) ?_
                            refine lv_if_ne (tgt := 202) gX gB dX6_centre_191 (by decide) (fun c191 => ?_) (fun c191 => ?_)
                            · refine lv_lload_n gX gB dX6_centre_202 rfl (lv_at hl 2 rfl) ?_
                              refine lv_lload gX gB dX6_centre_203 (lv_at hl 0 rfl) ?_
                              refine lv_ldiv gX gB dX6_centre_205 (fun zz => absurd ((pk_lEQ (a := Nat.gcd sN gN) (b := 0) (by have := Nat.gcd_le_right sN (show 0 < gN by omega); omega) (by decide)).mp zz) (by omega)) ?_
                              exact gx_lret C hr hW (Or.inl ⟨ce_0 (fun zz => zz.elim c35 (fun z2 => z2.elim c40 (fun z3 => z3.elim c44 (Int32.not_lt.mpr c49)))) c58, by rw [if_neg c191], rfl⟩) (Nat.le_of_ble_eq_true rfl) (Nat.le_of_ble_eq_true rfl) dX6_centre_206
                            · refine lv_lload gX gB dX6_centre_194 (lv_at hl 1 rfl) ?_
                              refine lv_lload gX gB dX6_centre_196 (lv_at hl 0 rfl) ?_
                              refine lv_ldiv gX gB dX6_centre_198 (fun zz => absurd ((pk_lEQ (a := Nat.gcd sN gN) (b := 0) (by have := Nat.gcd_le_right sN (show 0 < gN by omega); omega) (by decide)).mp zz) (by omega)) ?_
                              refine lv_goto (tgt := 206) gX gB dX6_centre_199 (by decide) ?_
                              exact gx_lret C hr hW (Or.inl ⟨ce_0 (fun zz => zz.elim c35 (fun z2 => z2.elim c40 (fun z3 => z3.elim c44 (Int32.not_lt.mpr c49)))) c58, by rw [if_pos c191], rfl⟩) (Nat.le_of_ble_eq_true rfl) (Nat.le_of_ble_eq_true rfl) dX6_centre_206
                      exact loop2 (pn + 1) 0 (by omega) (Nat.zero_le _) _ _ hW ls (lv_sub hl [0, 1, 2, 3, 4, 5] rfl)
                    · refine lv_aload_n gX gB dX6_centre_100 rfl (lv_at hl 2 rfl) ?_
                      refine gx_get C hW fX6_84 ⟨0, rfl⟩ rfl dX6_centre_101 ?_
                      refine lv_aload_n gX gB dX6_centre_104 rfl (lv_at hl 2 rfl) ?_
                      refine gx_get C hW fX6_81 ⟨0, rfl⟩ rfl dX6_centre_105 ?_
                      refine lv_lmul gX gB dX6_centre_108 ?_
                      refine lv_goto (tgt := 113) gX gB dX6_centre_109 (by decide) ?_
                      refine gx_topl (show (eg * ey) = mo_sum (rc_s0 ex ey eg ax) (rc_mm px py pz gr ax) 0 from by rw [show mo_sum (rc_s0 ex ey eg ax) (rc_mm px py pz gr ax) 0 = rc_s0 ex ey eg ax from rfl, rc_s0, if_neg c80, if_pos c97]) ?_
                      refine lv_lstore (lv' := [(5, .long (mo_sum (rc_s0 ex ey eg ax) (rc_mm px py pz gr ax) 0)), (3, .long (mo_sum eg gr pn)), (0, .ref (ad 0)), (1, .int ax), (2, .int p2)]) gX gB dX6_centre_113 hl (by decide) rfl (fun ls hl => ?_)
                      refine lv_iconst (v := 0) gX gB dX6_centre_115 (by decide) ?_
                      refine lv_istore (lv' := [(7, .int 0), (5, .long (mo_sum (rc_s0 ex ey eg ax) (rc_mm px py pz gr ax) 0)), (3, .long (mo_sum eg gr pn)), (0, .ref (ad 0)), (1, .int ax), (2, .int p2)]) gX gB dX6_centre_116 hl (by decide) rfl (fun ls hl => ?_)
                      have hl : lv_has ls 9 [(7, .int (nI 0)), (5, .long (mo_sum (rc_s0 ex ey eg ax) (rc_mm px py pz gr ax) 0)), (3, .long (mo_sum eg gr pn)), (0, .ref (ad 0)), (1, .int ax), (2, .int p2)] := hl
                      have loop2 : ∀ (fu : Nat) (i : Nat), (pn - i < fu) → (i ≤ pn) → ∀ (H : Heap) (locs : List Loc), gx_W G A s ([(ad 0, .inr (11, [.int 0, .int (nI pn), .ref (ad 1), .ref (ad 2), .ref (ad 3), .ref (ad 4), .ref (ad 5), .int (nI fn), .ref (ad 6), .ref (ad 7), .int (nI dn), .ref (ad 8), .long ex, .long ey, .long eg, .int (nI cn), .ref (ad 9), .ref (ad 10), .int (nI sn), .int at0, .int fl, .int (nI tn), .ref (ad 11), .ref (ad 12)])), (ad 1, .inl (G.2.1 2, 16, .inr (.inl px))), (ad 2, .inl (G.2.1 2, 16, .inr (.inl py))), (ad 3, .inl (G.2.1 2, 16, .inr (.inl pz))), (ad 4, .inl (G.2.1 2, 16, .inr (.inl gr))), (ad 5, .inl (G.2.1 2, 16, .inr (.inl ou))), (ad 6, .inl (G.2.1 2, 12, .inr (.inl fx))), (ad 7, .inl (G.2.1 2, 12, .inr (.inl fy))), (ad 8, .inl (G.2.1 1, 8, .inl od)), (ad 9, .inl (G.2.1 1, 12, .inl cr)), (ad 10, .inl (G.2.1 1, 200, .inl ty)), (ad 11, .inl (G.2.1 1, 48, .inl to_)), (ad 12, .inl (G.2.1 1, 48, .inl dr))]) H locs → ∀ ls : Array Slot, lv_has ls 9 [(7, .int (nI i)), (5, .long (mo_sum (rc_s0 ex ey eg ax) (rc_mm px py pz gr ax) i)), (3, .long (mo_sum eg gr pn)), (0, .ref (ad 0)), (1, .int ax), (2, .int p2)] → W p l e ({ frames := 1, cells := 0, slots := 0, locals := 29 } : Room) s m args below meth c H locs 0 0 (MQ below (gx_Q G A (fun v u => (ce_code ax p2 (mo_sum eg gr pn) = 0 ∧ v = some (.long (if p2 = 0 then mo_sum (rc_s0 ex ey eg ax) (rc_mm px py pz gr ax) pn / lN (Nat.gcd sN gN) else mo_sum eg gr pn / lN (Nat.gcd sN gN))) ∧ u = [(ad 0, .inr (11, [.int 0, .int (nI pn), .ref (ad 1), .ref (ad 2), .ref (ad 3), .ref (ad 4), .ref (ad 5), .int (nI fn), .ref (ad 6), .ref (ad 7), .int (nI dn), .ref (ad 8), .long ex, .long ey, .long eg, .int (nI cn), .ref (ad 9), .ref (ad 10), .int (nI sn), .int at0, .int fl, .int (nI tn), .ref (ad 11), .ref (ad 12)])), (ad 1, .inl (G.2.1 2, 16, .inr (.inl px))), (ad 2, .inl (G.2.1 2, 16, .inr (.inl py))), (ad 3, .inl (G.2.1 2, 16, .inr (.inl pz))), (ad 4, .inl (G.2.1 2, 16, .inr (.inl gr))), (ad 5, .inl (G.2.1 2, 16, .inr (.inl ou))), (ad 6, .inl (G.2.1 2, 12, .inr (.inl fx))), (ad 7, .inl (G.2.1 2, 12, .inr (.inl fy))), (ad 8, .inl (G.2.1 1, 8, .inl od)), (ad 9, .inl (G.2.1 1, 12, .inl cr)), (ad 10, .inl (G.2.1 1, 200, .inl ty)), (ad 11, .inl (G.2.1 1, 48, .inl to_)), (ad 12, .inl (G.2.1 1, 48, .inl dr))]) ∨ (¬ ce_code ax p2 (mo_sum eg gr pn) = 0 ∧ v = some (.long 0) ∧ u = [(ad 0, .inr (11, [.int (ce_code ax p2 (mo_sum eg gr pn)), .int (nI pn), .ref (ad 1), .ref (ad 2), .ref (ad 3), .ref (ad 4), .ref (ad 5), .int (nI fn), .ref (ad 6), .ref (ad 7), .int (nI dn), .ref (ad 8), .long ex, .long ey, .long eg, .int (nI cn), .ref (ad 9), .ref (ad 10), .int (nI sn), .int at0, .int fl, .int (nI tn), .ref (ad 11), .ref (ad 12)])), (ad 1, .inl (G.2.1 2, 16, .inr (.inl px))), (ad 2, .inl (G.2.1 2, 16, .inr (.inl py))), (ad 3, .inl (G.2.1 2, 16, .inr (.inl pz))), (ad 4, .inl (G.2.1 2, 16, .inr (.inl gr))), (ad 5, .inl (G.2.1 2, 16, .inr (.inl ou))), (ad 6, .inl (G.2.1 2, 12, .inr (.inl fx))), (ad 7, .inl (G.2.1 2, 12, .inr (.inl fy))), (ad 8, .inl (G.2.1 1, 8, .inl od)), (ad 9, .inl (G.2.1 1, 12, .inl cr)), (ad 10, .inl (G.2.1 1, 200, .inl ty)), (ad 11, .inl (G.2.1 1, 48, .inl to_)), (ad 12, .inl (G.2.1 1, 48, .inl dr))]))) args s (({ frames := 1, cells := 0, slots := 0, locals := 29 } : Room)).cells (({ frames := 1, cells := 0, slots := 0, locals := 29 } : Room)).slots A) (F0 m 118 ls []) := by
                        intro fu
                        induction fu with
                        | zero => intro i hfu hi H locs hW ls hl; exact absurd hfu (Nat.not_lt_zero _)
                        | succ fu ih =>
                          intro i hfu hi H locs hW ls hl
                          rcases Nat.lt_or_ge i pn with hik | hik
                          · refine lv_iload gX gB dX6_centre_118 (lv_at hl 0 rfl) ?_
                            refine lv_aload_n gX gB dX6_centre_120 rfl (lv_at hl 3 rfl) ?_
                            refine gx_get C hW fX6_65 ⟨0, rfl⟩ rfl dX6_centre_121 ?_
                            refine lv_icmp_ge (tgt := 182) gX gB dX6_centre_124 (by decide) (fun h9 => absurd (show (nI pn) ≤ (nI i) from h9) (nI_ge hik (by omega))) (fun _ => ?_)
                            refine lv_lload gX gB dX6_centre_127 (lv_at hl 1 rfl) ?_
                            refine lv_aload_n gX gB dX6_centre_129 rfl (lv_at hl 3 rfl) ?_
                            refine gx_get C hW fX6_19 ⟨0, rfl⟩ rfl dX6_centre_130 ?_
                            refine lv_iload gX gB dX6_centre_133 (lv_at hl 0 rfl) ?_
                            refine gx_lald C hW ⟨4, rfl⟩ (j := i) rfl (by omega) (by decide) dX6_centre_135 ?_
                            refine lv_iload_n gX gB dX6_centre_136 rfl (lv_at hl 4 rfl) ?_
                            refine lv_if_ne (tgt := 150) gX gB dX6_centre_137 (by decide) (fun c137 => ?_) (fun c137 => ?_)
                            · refine lv_iload_n gX gB dX6_centre_150 rfl (lv_at hl 4 rfl) ?_
                              refine lv_iconst (v := 1) gX gB dX6_centre_151 (by decide) ?_
                              refine lv_icmp_ne (tgt := 165) gX gB dX6_centre_152 (by decide) (fun c152 => ?_) (fun c152 => ?_)
                              · refine lv_aload_n gX gB dX6_centre_165 rfl (lv_at hl 3 rfl) ?_
                                refine gx_get C hW fX6_16 ⟨0, rfl⟩ rfl dX6_centre_166 ?_
                                refine lv_iload gX gB dX6_centre_169 (lv_at hl 0 rfl) ?_
                                refine gx_lald C hW ⟨3, rfl⟩ (j := i) rfl (by omega) (by decide) dX6_centre_171 ?_
                                refine lv_lmul gX gB dX6_centre_172 ?_
                                refine lv_ladd gX gB dX6_centre_173 ?_
                                refine gx_topl (show ((mo_sum (rc_s0 ex ey eg ax) (rc_mm px py pz gr ax) i) + ((gr i) * (pz i))) = mo_sum (rc_s0 ex ey eg ax) (rc_mm px py pz gr ax) (i + 1) from congrArg (fun zz => mo_sum (rc_s0 ex ey eg ax) (rc_mm px py pz gr ax) i + gr i * zz) ((if_neg c137).trans (if_neg c152)).symm) ?_
                                refine lv_lstore (lv' := [(5, .long (mo_sum (rc_s0 ex ey eg ax) (rc_mm px py pz gr ax) (i + 1))), (7, .int (nI i)), (3, .long (mo_sum eg gr pn)), (0, .ref (ad 0)), (1, .int ax), (2, .int p2)]) gX gB dX6_centre_174 hl (by decide) rfl (fun ls hl => ?_)
                                refine lv_iinc (v := nI (i + 1)) (lv' := [(7, .int (nI (i + 1))), (5, .long (mo_sum (rc_s0 ex ey eg ax) (rc_mm px py pz gr ax) (i + 1))), (3, .long (mo_sum eg gr pn)), (0, .ref (ad 0)), (1, .int ax), (2, .int p2)]) gX gB dX6_centre_176 hl (k := 1) rfl (by exact nI_1 i) (by decide) rfl (fun ls hl => ?_)
                                refine lv_goto (tgt := 118) gX gB dX6_centre_179 (by decide) ?_
                                exact ih (i + 1) (by omega) (by omega) _ _ hW ls (lv_sub hl [0, 1, 2, 3, 4, 5] rfl)
                              · refine lv_aload_n gX gB dX6_centre_155 rfl (lv_at hl 3 rfl) ?_
                                refine gx_get C hW fX6_13 ⟨0, rfl⟩ rfl dX6_centre_156 ?_
                                refine lv_iload gX gB dX6_centre_159 (lv_at hl 0 rfl) ?_
                                refine gx_lald C hW ⟨2, rfl⟩ (j := i) rfl (by omega) (by decide) dX6_centre_161 ?_
                                refine lv_goto (tgt := 172) gX gB dX6_centre_162 (by decide) ?_
                                refine lv_lmul gX gB dX6_centre_172 ?_
                                refine lv_ladd gX gB dX6_centre_173 ?_
                                refine gx_topl (show ((mo_sum (rc_s0 ex ey eg ax) (rc_mm px py pz gr ax) i) + ((gr i) * (py i))) = mo_sum (rc_s0 ex ey eg ax) (rc_mm px py pz gr ax) (i + 1) from congrArg (fun zz => mo_sum (rc_s0 ex ey eg ax) (rc_mm px py pz gr ax) i + gr i * zz) ((if_neg c137).trans (if_pos c152)).symm) ?_
                                refine lv_lstore (lv' := [(5, .long (mo_sum (rc_s0 ex ey eg ax) (rc_mm px py pz gr ax) (i + 1))), (7, .int (nI i)), (3, .long (mo_sum eg gr pn)), (0, .ref (ad 0)), (1, .int ax), (2, .int p2)]) gX gB dX6_centre_174 hl (by decide) rfl (fun ls hl => ?_)
                                refine lv_iinc (v := nI (i + 1)) (lv' := [(7, .int (nI (i + 1))), (5, .long (mo_sum (rc_s0 ex ey eg ax) (rc_mm px py pz gr ax) (i + 1))), (3, .long (mo_sum eg gr pn)), (0, .ref (ad 0)), (1, .int ax), (2, .int p2)]) gX gB dX6_centre_176 hl (k := 1) rfl (by exact nI_1 i) (by decide) rfl (fun ls hl => ?_)
                                refine lv_goto (tgt := 118) gX gB dX6_centre_179 (by decide) ?_
                                exact ih (i + 1) (by omega) (by omega) _ _ hW ls (lv_sub hl [0, 1, 2, 3, 4, 5] rfl)
                            · refine lv_aload_n gX gB dX6_centre_140 rfl (lv_at hl 3 rfl) ?_
                              refine gx_get C hW fX6_7 ⟨0, rfl⟩ rfl dX6_centre_141 ?_
                              refine lv_iload gX gB dX6_centre_144 (lv_at hl 0 rfl) ?_
                              refine gx_lald C hW ⟨1, rfl⟩ (j := i) rfl (by omega) (by decide) dX6_centre_146 ?_
                              refine lv_goto (tgt := 172) gX gB dX6_centre_147 (by decide) ?_
                              refine lv_lmul gX gB dX6_centre_172 ?_
                              refine lv_ladd gX gB dX6_centre_173 ?_
                              refine gx_topl (show ((mo_sum (rc_s0 ex ey eg ax) (rc_mm px py pz gr ax) i) + ((gr i) * (px i))) = mo_sum (rc_s0 ex ey eg ax) (rc_mm px py pz gr ax) (i + 1) from congrArg (fun zz => mo_sum (rc_s0 ex ey eg ax) (rc_mm px py pz gr ax) i + gr i * zz) (if_pos c137).symm) ?_
                              refine lv_lstore (lv' := [(5, .long (mo_sum (rc_s0 ex ey eg ax) (rc_mm px py pz gr ax) (i + 1))), (7, .int (nI i)), (3, .long (mo_sum eg gr pn)), (0, .ref (ad 0)), (1, .int ax), (2, .int p2)]) gX gB dX6_centre_174 hl (by decide) rfl (fun ls hl => ?_)
                              refine lv_iinc (v := nI (i + 1)) (lv' := [(7, .int (nI (i + 1))), (5, .long (mo_sum (rc_s0 ex ey eg ax) (rc_mm px py pz gr ax) (i + 1))), (3, .long (mo_sum eg gr pn)), (0, .ref (ad 0)), (1, .int ax), (2, .int p2)]) gX gB dX6_centre_176 hl (k := 1) rfl (by exact nI_1 i) (by decide) rfl (fun ls hl => ?_)
                              refine lv_goto (tgt := 118) gX gB dX6_centre_179 (by decide) ?_
                              exact ih (i + 1) (by omega) (by omega) _ _ hW ls (lv_sub hl [0, 1, 2, 3, 4, 5] rfl)
                          · have e9 : i = pn := by omega
                            rw [e9] at hl
                            refine lv_iload gX gB dX6_centre_118 (lv_at hl 0 rfl) ?_
                            refine lv_aload_n gX gB dX6_centre_120 rfl (lv_at hl 3 rfl) ?_
                            refine gx_get C hW fX6_65 ⟨0, rfl⟩ rfl dX6_centre_121 ?_
                            refine lv_icmp_ge (tgt := 182) gX gB dX6_centre_124 (by decide) (fun _ => ?_) (fun h9 => absurd (show (nI pn) ≤ (nI pn) from Int32.le_refl _) h9)
                            refine lv_lload gX gB dX6_centre_182 (lv_at hl 1 rfl) ?_
                            refine lv_lload_n gX gB dX6_centre_184 rfl (lv_at hl 2 rfl) ?_
                            refine W.eq (g2 := F0 m 185 ls [.long (lN gN), .long (mo_sum (rc_s0 ex ey eg ax) (rc_mm px py pz gr ax) pn)]) (by rw [hgN]) ?_
                            have hg1 : ¬ gN = 0 := fun zz => absurd (show mo_sum eg gr pn = 0 by rw [hgN, zz]; rfl) c58
                            have hg2 : 1 ≤ Nat.gcd sN gN := Nat.gcd_pos_of_pos_right _ (by omega)
                            refine gx_callS (wr := []) (rest := []) C hW sX6_102 (kX6_common l G ([(ad 0, .inr (11, [.int 0, .int (nI pn), .ref (ad 1), .ref (ad 2), .ref (ad 3), .ref (ad 4), .ref (ad 5), .int (nI fn), .ref (ad 6), .ref (ad 7), .int (nI dn), .ref (ad 8), .long ex, .long ey, .long eg, .int (nI cn), .ref (ad 9), .ref (ad 10), .int (nI sn), .int at0, .int fl, .int (nI tn), .ref (ad 11), .ref (ad 12)])), (ad 1, .inl (G.2.1 2, 16, .inr (.inl px))), (ad 2, .inl (G.2.1 2, 16, .inr (.inl py))), (ad 3, .inl (G.2.1 2, 16, .inr (.inl pz))), (ad 4, .inl (G.2.1 2, 16, .inr (.inl gr))), (ad 5, .inl (G.2.1 2, 16, .inr (.inl ou))), (ad 6, .inl (G.2.1 2, 12, .inr (.inl fx))), (ad 7, .inl (G.2.1 2, 12, .inr (.inl fy))), (ad 8, .inl (G.2.1 1, 8, .inl od)), (ad 9, .inl (G.2.1 1, 12, .inl cr)), (ad 10, .inl (G.2.1 1, 200, .inl ty)), (ad 11, .inl (G.2.1 1, 48, .inl to_)), (ad 12, .inl (G.2.1 1, 48, .inl dr))]) (mo_sum (rc_s0 ex ey eg ax) (rc_mm px py pz gr ax) pn) sN gN hsN (by omega) (by omega)) rfl ⟨(Nat.le_of_ble_eq_true rfl), (Nat.le_of_ble_eq_true rfl)⟩ hl.1 rfl (Nat.le_of_ble_eq_true rfl) dX6_centre_185 ⟨(Nat.le_of_ble_eq_true rfl), (Nat.le_of_ble_eq_true rfl)⟩ (fun v9 u9 H locs hp hW => ?_)
                            obtain ⟨rfl, hu⟩ := hp
                            rw [hu] at hW
                            have hW : gx_W G A s ([(ad 0, .inr (11, [.int 0, .int (nI pn), .ref (ad 1), .ref (ad 2), .ref (ad 3), .ref (ad 4), .ref (ad 5), .int (nI fn), .ref (ad 6), .ref (ad 7), .int (nI dn), .ref (ad 8), .long ex, .long ey, .long eg, .int (nI cn), .ref (ad 9), .ref (ad 10), .int (nI sn), .int at0, .int fl, .int (nI tn), .ref (ad 11), .ref (ad 12)])), (ad 1, .inl (G.2.1 2, 16, .inr (.inl px))), (ad 2, .inl (G.2.1 2, 16, .inr (.inl py))), (ad 3, .inl (G.2.1 2, 16, .inr (.inl pz))), (ad 4, .inl (G.2.1 2, 16, .inr (.inl gr))), (ad 5, .inl (G.2.1 2, 16, .inr (.inl ou))), (ad 6, .inl (G.2.1 2, 12, .inr (.inl fx))), (ad 7, .inl (G.2.1 2, 12, .inr (.inl fy))), (ad 8, .inl (G.2.1 1, 8, .inl od)), (ad 9, .inl (G.2.1 1, 12, .inl cr)), (ad 10, .inl (G.2.1 1, 200, .inl ty)), (ad 11, .inl (G.2.1 1, 48, .inl to_)), (ad 12, .inl (G.2.1 1, 48, .inl dr))]) H locs := hW
                            refine W.eq (g2 := F0 m 188 ls [.long (lN (Nat.gcd sN gN))]) rfl ?_
                            refine W.widen (k := 0) (n := 0) (Nat.le_of_ble_eq_true rfl) (Nat.le_of_ble_eq_true rfl) ?_
                            refine lv_lstore (lv' := [(7, .long (lN (Nat.gcd sN gN))), (5, .long (mo_sum (rc_s0 ex ey eg ax) (rc_mm px py pz gr ax) pn)), (3, .long (mo_sum eg gr pn)), (0, .ref (ad 0)), (1, .int ax), (2, .int p2)]) gX gB dX6_centre_188 hl (by decide) rfl (fun ls hl => ?_)
                            refine lv_iload_n gX gB dX6_centre_190 rfl (lv_at hl 5 rfl) ?_
                            refine lv_if_ne (tgt := 202) gX gB dX6_centre_191 (by decide) (fun c191 => ?_) (fun c191 => ?_)
                            · refine lv_lload_n gX gB dX6_centre_202 rfl (lv_at hl 2 rfl) ?_
                              refine lv_lload gX gB dX6_centre_203 (lv_at hl 0 rfl) ?_
                              refine lv_ldiv gX gB dX6_centre_205 (fun zz => absurd ((pk_lEQ (a := Nat.gcd sN gN) (b := 0) (by have := Nat.gcd_le_right sN (show 0 < gN by omega); omega) (by decide)).mp zz) (by omega)) ?_
                              exact gx_lret C hr hW (Or.inl ⟨ce_0 (fun zz => zz.elim c35 (fun z2 => z2.elim c40 (fun z3 => z3.elim c44 (Int32.not_lt.mpr c49)))) c58, by rw [if_neg c191], rfl⟩) (Nat.le_of_ble_eq_true rfl) (Nat.le_of_ble_eq_true rfl) dX6_centre_206
                            · refine lv_lload gX gB dX6_centre_194 (lv_at hl 1 rfl) ?_
                              refine lv_lload gX gB dX6_centre_196 (lv_at hl 0 rfl) ?_
                              refine lv_ldiv gX gB dX6_centre_198 (fun zz => absurd ((pk_lEQ (a := Nat.gcd sN gN) (b := 0) (by have := Nat.gcd_le_right sN (show 0 < gN by omega); omega) (by decide)).mp zz) (by omega)) ?_
                              refine lv_goto (tgt := 206) gX gB dX6_centre_199 (by decide) ?_
                              exact gx_lret C hr hW (Or.inl ⟨ce_0 (fun zz => zz.elim c35 (fun z2 => z2.elim c40 (fun z3 => z3.elim c44 (Int32.not_lt.mpr c49)))) c58, by rw [if_pos c191], rfl⟩) (Nat.le_of_ble_eq_true rfl) (Nat.le_of_ble_eq_true rfl) dX6_centre_206
                      exact loop2 (pn + 1) 0 (by omega) (Nat.zero_le _) _ _ hW ls (lv_sub hl [0, 1, 2, 3, 4, 5] rfl)
                  · refine lv_aload_n gX gB dX6_centre_83 rfl (lv_at hl 2 rfl) ?_
                    refine gx_get C hW fX6_84 ⟨0, rfl⟩ rfl dX6_centre_84 ?_
                    refine lv_aload_n gX gB dX6_centre_87 rfl (lv_at hl 2 rfl) ?_
                    refine gx_get C hW fX6_77 ⟨0, rfl⟩ rfl dX6_centre_88 ?_
                    refine lv_lmul gX gB dX6_centre_91 ?_
                    refine lv_goto (tgt := 113) gX gB dX6_centre_92 (by decide) ?_
                    refine gx_topl (show (eg * ex) = mo_sum (rc_s0 ex ey eg ax) (rc_mm px py pz gr ax) 0 from (if_pos c80).symm) ?_
                    refine lv_lstore (lv' := [(5, .long (mo_sum (rc_s0 ex ey eg ax) (rc_mm px py pz gr ax) 0)), (3, .long (mo_sum eg gr pn)), (0, .ref (ad 0)), (1, .int ax), (2, .int p2)]) gX gB dX6_centre_113 hl (by decide) rfl (fun ls hl => ?_)
                    refine lv_iconst (v := 0) gX gB dX6_centre_115 (by decide) ?_
                    refine lv_istore (lv' := [(7, .int 0), (5, .long (mo_sum (rc_s0 ex ey eg ax) (rc_mm px py pz gr ax) 0)), (3, .long (mo_sum eg gr pn)), (0, .ref (ad 0)), (1, .int ax), (2, .int p2)]) gX gB dX6_centre_116 hl (by decide) rfl (fun ls hl => ?_)
                    have hl : lv_has ls 9 [(7, .int (nI 0)), (5, .long (mo_sum (rc_s0 ex ey eg ax) (rc_mm px py pz gr ax) 0)), (3, .long (mo_sum eg gr pn)), (0, .ref (ad 0)), (1, .int ax), (2, .int p2)] := hl
                    have loop2 : ∀ (fu : Nat) (i : Nat), (pn - i < fu) → (i ≤ pn) → ∀ (H : Heap) (locs : List Loc), gx_W G A s ([(ad 0, .inr (11, [.int 0, .int (nI pn), .ref (ad 1), .ref (ad 2), .ref (ad 3), .ref (ad 4), .ref (ad 5), .int (nI fn), .ref (ad 6), .ref (ad 7), .int (nI dn), .ref (ad 8), .long ex, .long ey, .long eg, .int (nI cn), .ref (ad 9), .ref (ad 10), .int (nI sn), .int at0, .int fl, .int (nI tn), .ref (ad 11), .ref (ad 12)])), (ad 1, .inl (G.2.1 2, 16, .inr (.inl px))), (ad 2, .inl (G.2.1 2, 16, .inr (.inl py))), (ad 3, .inl (G.2.1 2, 16, .inr (.inl pz))), (ad 4, .inl (G.2.1 2, 16, .inr (.inl gr))), (ad 5, .inl (G.2.1 2, 16, .inr (.inl ou))), (ad 6, .inl (G.2.1 2, 12, .inr (.inl fx))), (ad 7, .inl (G.2.1 2, 12, .inr (.inl fy))), (ad 8, .inl (G.2.1 1, 8, .inl od)), (ad 9, .inl (G.2.1 1, 12, .inl cr)), (ad 10, .inl (G.2.1 1, 200, .inl ty)), (ad 11, .inl (G.2.1 1, 48, .inl to_)), (ad 12, .inl (G.2.1 1, 48, .inl dr))]) H locs → ∀ ls : Array Slot, lv_has ls 9 [(7, .int (nI i)), (5, .long (mo_sum (rc_s0 ex ey eg ax) (rc_mm px py pz gr ax) i)), (3, .long (mo_sum eg gr pn)), (0, .ref (ad 0)), (1, .int ax), (2, .int p2)] → W p l e ({ frames := 1, cells := 0, slots := 0, locals := 29 } : Room) s m args below meth c H locs 0 0 (MQ below (gx_Q G A (fun v u => (ce_code ax p2 (mo_sum eg gr pn) = 0 ∧ v = some (.long (if p2 = 0 then mo_sum (rc_s0 ex ey eg ax) (rc_mm px py pz gr ax) pn / lN (Nat.gcd sN gN) else mo_sum eg gr pn / lN (Nat.gcd sN gN))) ∧ u = [(ad 0, .inr (11, [.int 0, .int (nI pn), .ref (ad 1), .ref (ad 2), .ref (ad 3), .ref (ad 4), .ref (ad 5), .int (nI fn), .ref (ad 6), .ref (ad 7), .int (nI dn), .ref (ad 8), .long ex, .long ey, .long eg, .int (nI cn), .ref (ad 9), .ref (ad 10), .int (nI sn), .int at0, .int fl, .int (nI tn), .ref (ad 11), .ref (ad 12)])), (ad 1, .inl (G.2.1 2, 16, .inr (.inl px))), (ad 2, .inl (G.2.1 2, 16, .inr (.inl py))), (ad 3, .inl (G.2.1 2, 16, .inr (.inl pz))), (ad 4, .inl (G.2.1 2, 16, .inr (.inl gr))), (ad 5, .inl (G.2.1 2, 16, .inr (.inl ou))), (ad 6, .inl (G.2.1 2, 12, .inr (.inl fx))), (ad 7, .inl (G.2.1 2, 12, .inr (.inl fy))), (ad 8, .inl (G.2.1 1, 8, .inl od)), (ad 9, .inl (G.2.1 1, 12, .inl cr)), (ad 10, .inl (G.2.1 1, 200, .inl ty)), (ad 11, .inl (G.2.1 1, 48, .inl to_)), (ad 12, .inl (G.2.1 1, 48, .inl dr))]) ∨ (¬ ce_code ax p2 (mo_sum eg gr pn) = 0 ∧ v = some (.long 0) ∧ u = [(ad 0, .inr (11, [.int (ce_code ax p2 (mo_sum eg gr pn)), .int (nI pn), .ref (ad 1), .ref (ad 2), .ref (ad 3), .ref (ad 4), .ref (ad 5), .int (nI fn), .ref (ad 6), .ref (ad 7), .int (nI dn), .ref (ad 8), .long ex, .long ey, .long eg, .int (nI cn), .ref (ad 9), .ref (ad 10), .int (nI sn), .int at0, .int fl, .int (nI tn), .ref (ad 11), .ref (ad 12)])), (ad 1, .inl (G.2.1 2, 16, .inr (.inl px))), (ad 2, .inl (G.2.1 2, 16, .inr (.inl py))), (ad 3, .inl (G.2.1 2, 16, .inr (.inl pz))), (ad 4, .inl (G.2.1 2, 16, .inr (.inl gr))), (ad 5, .inl (G.2.1 2, 16, .inr (.inl ou))), (ad 6, .inl (G.2.1 2, 12, .inr (.inl fx))), (ad 7, .inl (G.2.1 2, 12, .inr (.inl fy))), (ad 8, .inl (G.2.1 1, 8, .inl od)), (ad 9, .inl (G.2.1 1, 12, .inl cr)), (ad 10, .inl (G.2.1 1, 200, .inl ty)), (ad 11, .inl (G.2.1 1, 48, .inl to_)), (ad 12, .inl (G.2.1 1, 48, .inl dr))]))) args s (({ frames := 1, cells := 0, slots := 0, locals := 29 } : Room)).cells (({ frames := 1, cells := 0, slots := 0, locals := 29 } : Room)).slots A) (F0 m 118 ls []) := by
                      intro fu
                      induction fu with
                      | zero => intro i hfu hi H locs hW ls hl; exact absurd hfu (Nat.not_lt_zero _)
                      | succ fu ih =>
                        intro i hfu hi H locs hW ls hl
                        rcases Nat.lt_or_ge i pn with hik | hik
                        · refine lv_iload gX gB dX6_centre_118 (lv_at hl 0 rfl) ?_
                          refine lv_aload_n gX gB dX6_centre_120 rfl (lv_at hl 3 rfl) ?_
                          refine gx_get C hW fX6_65 ⟨0, rfl⟩ rfl dX6_centre_121 ?_
                          refine lv_icmp_ge (tgt := 182) gX gB dX6_centre_124 (by decide) (fun h9 => absurd (show (nI pn) ≤ (nI i) from h9) (nI_ge hik (by omega))) (fun _ => ?_)
                          refine lv_lload gX gB dX6_centre_127 (lv_at hl 1 rfl) ?_
                          refine lv_aload_n gX gB dX6_centre_129 rfl (lv_at hl 3 rfl) ?_
                          refine gx_get C hW fX6_19 ⟨0, rfl⟩ rfl dX6_centre_130 ?_
                          refine lv_iload gX gB dX6_centre_133 (lv_at hl 0 rfl) ?_
                          refine gx_lald C hW ⟨4, rfl⟩ (j := i) rfl (by omega) (by decide) dX6_centre_135 ?_
                          refine lv_iload_n gX gB dX6_centre_136 rfl (lv_at hl 4 rfl) ?_
                          refine lv_if_ne (tgt := 150) gX gB dX6_centre_137 (by decide) (fun c137 => ?_) (fun c137 => ?_)
                          · refine lv_iload_n gX gB dX6_centre_150 rfl (lv_at hl 4 rfl) ?_
                            refine lv_iconst (v := 1) gX gB dX6_centre_151 (by decide) ?_
                            refine lv_icmp_ne (tgt := 165) gX gB dX6_centre_152 (by decide) (fun c152 => ?_) (fun c152 => ?_)
                            · refine lv_aload_n gX gB dX6_centre_165 rfl (lv_at hl 3 rfl) ?_
                              refine gx_get C hW fX6_16 ⟨0, rfl⟩ rfl dX6_centre_166 ?_
                              refine lv_iload gX gB dX6_centre_169 (lv_at hl 0 rfl) ?_
                              refine gx_lald C hW ⟨3, rfl⟩ (j := i) rfl (by omega) (by decide) dX6_centre_171 ?_
                              refine lv_lmul gX gB dX6_centre_172 ?_
                              refine lv_ladd gX gB dX6_centre_173 ?_
                              refine gx_topl (show ((mo_sum (rc_s0 ex ey eg ax) (rc_mm px py pz gr ax) i) + ((gr i) * (pz i))) = mo_sum (rc_s0 ex ey eg ax) (rc_mm px py pz gr ax) (i + 1) from congrArg (fun zz => mo_sum (rc_s0 ex ey eg ax) (rc_mm px py pz gr ax) i + gr i * zz) ((if_neg c137).trans (if_neg c152)).symm) ?_
                              refine lv_lstore (lv' := [(5, .long (mo_sum (rc_s0 ex ey eg ax) (rc_mm px py pz gr ax) (i + 1))), (7, .int (nI i)), (3, .long (mo_sum eg gr pn)), (0, .ref (ad 0)), (1, .int ax), (2, .int p2)]) gX gB dX6_centre_174 hl (by decide) rfl (fun ls hl => ?_)
                              refine lv_iinc (v := nI (i + 1)) (lv' := [(7, .int (nI (i + 1))), (5, .long (mo_sum (rc_s0 ex ey eg ax) (rc_mm px py pz gr ax) (i + 1))), (3, .long (mo_sum eg gr pn)), (0, .ref (ad 0)), (1, .int ax), (2, .int p2)]) gX gB dX6_centre_176 hl (k := 1) rfl (by exact nI_1 i) (by decide) rfl (fun ls hl => ?_)
                              refine lv_goto (tgt := 118) gX gB dX6_centre_179 (by decide) ?_
                              exact ih (i + 1) (by omega) (by omega) _ _ hW ls (lv_sub hl [0, 1, 2, 3, 4, 5] rfl)
                            · refine lv_aload_n gX gB dX6_centre_155 rfl (lv_at hl 3 rfl) ?_
                              refine gx_get C hW fX6_13 ⟨0, rfl⟩ rfl dX6_centre_156 ?_
                              refine lv_iload gX gB dX6_centre_159 (lv_at hl 0 rfl) ?_
                              refine gx_lald C hW ⟨2, rfl⟩ (j := i) rfl (by omega) (by decide) dX6_centre_161 ?_
                              refine lv_goto (tgt := 172) gX gB dX6_centre_162 (by decide) ?_
                              refine lv_lmul gX gB dX6_centre_172 ?_
                              refine lv_ladd gX gB dX6_centre_173 ?_
                              refine gx_topl (show ((mo_sum (rc_s0 ex ey eg ax) (rc_mm px py pz gr ax) i) + ((gr i) * (py i))) = mo_sum (rc_s0 ex ey eg ax) (rc_mm px py pz gr ax) (i + 1) from congrArg (fun zz => mo_sum (rc_s0 ex ey eg ax) (rc_mm px py pz gr ax) i + gr i * zz) ((if_neg c137).trans (if_pos c152)).symm) ?_
                              refine lv_lstore (lv' := [(5, .long (mo_sum (rc_s0 ex ey eg ax) (rc_mm px py pz gr ax) (i + 1))), (7, .int (nI i)), (3, .long (mo_sum eg gr pn)), (0, .ref (ad 0)), (1, .int ax), (2, .int p2)]) gX gB dX6_centre_174 hl (by decide) rfl (fun ls hl => ?_)
                              refine lv_iinc (v := nI (i + 1)) (lv' := [(7, .int (nI (i + 1))), (5, .long (mo_sum (rc_s0 ex ey eg ax) (rc_mm px py pz gr ax) (i + 1))), (3, .long (mo_sum eg gr pn)), (0, .ref (ad 0)), (1, .int ax), (2, .int p2)]) gX gB dX6_centre_176 hl (k := 1) rfl (by exact nI_1 i) (by decide) rfl (fun ls hl => ?_)
                              refine lv_goto (tgt := 118) gX gB dX6_centre_179 (by decide) ?_
                              exact ih (i + 1) (by omega) (by omega) _ _ hW ls (lv_sub hl [0, 1, 2, 3, 4, 5] rfl)
                          · refine lv_aload_n gX gB dX6_centre_140 rfl (lv_at hl 3 rfl) ?_
                            refine gx_get C hW fX6_7 ⟨0, rfl⟩ rfl dX6_centre_141 ?_
                            refine lv_iload gX gB dX6_centre_144 (lv_at hl 0 rfl) ?_
                            refine gx_lald C hW ⟨1, rfl⟩ (j := i) rfl (by omega) (by decide) dX6_centre_146 ?_
                            refine lv_goto (tgt := 172) gX gB dX6_centre_147 (by decide) ?_
                            refine lv_lmul gX gB dX6_centre_172 ?_
                            refine lv_ladd gX gB dX6_centre_173 ?_
                            refine gx_topl (show ((mo_sum (rc_s0 ex ey eg ax) (rc_mm px py pz gr ax) i) + ((gr i) * (px i))) = mo_sum (rc_s0 ex ey eg ax) (rc_mm px py pz gr ax) (i + 1) from congrArg (fun zz => mo_sum (rc_s0 ex ey eg ax) (rc_mm px py pz gr ax) i + gr i * zz) (if_pos c137).symm) ?_
                            refine lv_lstore (lv' := [(5, .long (mo_sum (rc_s0 ex ey eg ax) (rc_mm px py pz gr ax) (i + 1))), (7, .int (nI i)), (3, .long (mo_sum eg gr pn)), (0, .ref (ad 0)), (1, .int ax), (2, .int p2)]) gX gB dX6_centre_174 hl (by decide) rfl (fun ls hl => ?_)
                            refine lv_iinc (v := nI (i + 1)) (lv' := [(7, .int (nI (i + 1))), (5, .long (mo_sum (rc_s0 ex ey eg ax) (rc_mm px py pz gr ax) (i + 1))), (3, .long (mo_sum eg gr pn)), (0, .ref (ad 0)), (1, .int ax), (2, .int p2)]) gX gB dX6_centre_176 hl (k := 1) rfl (by exact nI_1 i) (by decide) rfl (fun ls hl => ?_)
                            refine lv_goto (tgt := 118) gX gB dX6_centre_179 (by decide) ?_
                            exact ih (i + 1) (by omega) (by omega) _ _ hW ls (lv_sub hl [0, 1, 2, 3, 4, 5] rfl)
                        · have e9 : i = pn := by omega
                          rw [e9] at hl
                          refine lv_iload gX gB dX6_centre_118 (lv_at hl 0 rfl) ?_
                          refine lv_aload_n gX gB dX6_centre_120 rfl (lv_at hl 3 rfl) ?_
                          refine gx_get C hW fX6_65 ⟨0, rfl⟩ rfl dX6_centre_121 ?_
                          refine lv_icmp_ge (tgt := 182) gX gB dX6_centre_124 (by decide) (fun _ => ?_) (fun h9 => absurd (show (nI pn) ≤ (nI pn) from Int32.le_refl _) h9)
                          refine lv_lload gX gB dX6_centre_182 (lv_at hl 1 rfl) ?_
                          refine lv_lload_n gX gB dX6_centre_184 rfl (lv_at hl 2 rfl) ?_
                          refine W.eq (g2 := F0 m 185 ls [.long (lN gN), .long (mo_sum (rc_s0 ex ey eg ax) (rc_mm px py pz gr ax) pn)]) (by rw [hgN]) ?_
                          have hg1 : ¬ gN = 0 := fun zz => absurd (show mo_sum eg gr pn = 0 by rw [hgN, zz]; rfl) c58
                          have hg2 : 1 ≤ Nat.gcd sN gN := Nat.gcd_pos_of_pos_right _ (by omega)
                          refine gx_callS (wr := []) (rest := []) C hW sX6_102 (kX6_common l G ([(ad 0, .inr (11, [.int 0, .int (nI pn), .ref (ad 1), .ref (ad 2), .ref (ad 3), .ref (ad 4), .ref (ad 5), .int (nI fn), .ref (ad 6), .ref (ad 7), .int (nI dn), .ref (ad 8), .long ex, .long ey, .long eg, .int (nI cn), .ref (ad 9), .ref (ad 10), .int (nI sn), .int at0, .int fl, .int (nI tn), .ref (ad 11), .ref (ad 12)])), (ad 1, .inl (G.2.1 2, 16, .inr (.inl px))), (ad 2, .inl (G.2.1 2, 16, .inr (.inl py))), (ad 3, .inl (G.2.1 2, 16, .inr (.inl pz))), (ad 4, .inl (G.2.1 2, 16, .inr (.inl gr))), (ad 5, .inl (G.2.1 2, 16, .inr (.inl ou))), (ad 6, .inl (G.2.1 2, 12, .inr (.inl fx))), (ad 7, .inl (G.2.1 2, 12, .inr (.inl fy))), (ad 8, .inl (G.2.1 1, 8, .inl od)), (ad 9, .inl (G.2.1 1, 12, .inl cr)), (ad 10, .inl (G.2.1 1, 200, .inl ty)), (ad 11, .inl (G.2.1 1, 48, .inl to_)), (ad 12, .inl (G.2.1 1, 48, .inl dr))]) (mo_sum (rc_s0 ex ey eg ax) (rc_mm px py pz gr ax) pn) sN gN hsN (by omega) (by omega)) rfl ⟨(Nat.le_of_ble_eq_true rfl), (Nat.le_of_ble_eq_true rfl)⟩ hl.1 rfl (Nat.le_of_ble_eq_true rfl) dX6_centre_185 ⟨(Nat.le_of_ble_eq_true rfl), (Nat.le_of_ble_eq_true rfl)⟩ (fun v9 u9 H locs hp hW => ?_)
                          obtain ⟨rfl, hu⟩ := hp
                          rw [hu] at hW
                          have hW : gx_W G A s ([(ad 0, .inr (11, [.int 0, .int (nI pn), .ref (ad 1), .ref (ad 2), .ref (ad 3), .ref (ad 4), .ref (ad 5), .int (nI fn), .ref (ad 6), .ref (ad 7), .int (nI dn), .ref (ad 8), .long ex, .long ey, .long eg, .int (nI cn), .ref (ad 9), .ref (ad 10), .int (nI sn), .int at0, .int fl, .int (nI tn), .ref (ad 11), .ref (ad 12)])), (ad 1, .inl (G.2.1 2, 16, .inr (.inl px))), (ad 2, .inl (G.2.1 2, 16, .inr (.inl py))), (ad 3, .inl (G.2.1 2, 16, .inr (.inl pz))), (ad 4, .inl (G.2.1 2, 16, .inr (.inl gr))), (ad 5, .inl (G.2.1 2, 16, .inr (.inl ou))), (ad 6, .inl (G.2.1 2, 12, .inr (.inl fx))), (ad 7, .inl (G.2.1 2, 12, .inr (.inl fy))), (ad 8, .inl (G.2.1 1, 8, .inl od)), (ad 9, .inl (G.2.1 1, 12, .inl cr)), (ad 10, .inl (G.2.1 1, 200, .inl ty)), (ad 11, .inl (G.2.1 1, 48, .inl to_)), (ad 12, .inl (G.2.1 1, 48, .inl dr))]) H locs := hW
                          refine W.eq (g2 := F0 m 188 ls [.long (lN (Nat.gcd sN gN))]) rfl ?_
                          refine W.widen (k := 0) (n := 0) (Nat.le_of_ble_eq_true rfl) (Nat.le_of_ble_eq_true rfl) ?_
                          refine lv_lstore (lv' := [(7, .long (lN (Nat.gcd sN gN))), (5, .long (mo_sum (rc_s0 ex ey eg ax) (rc_mm px py pz gr ax) pn)), (3, .long (mo_sum eg gr pn)), (0, .ref (ad 0)), (1, .int ax), (2, .int p2)]) gX gB dX6_centre_188 hl (by decide) rfl (fun ls hl => ?_)
                          refine lv_iload_n gX gB dX6_centre_190 rfl (lv_at hl 5 rfl) ?_
                          refine lv_if_ne (tgt := 202) gX gB dX6_centre_191 (by decide) (fun c191 => ?_) (fun c191 => ?_)
                          · refine lv_lload_n gX gB dX6_centre_202 rfl (lv_at hl 2 rfl) ?_
                            refine lv_lload gX gB dX6_centre_203 (lv_at hl 0 rfl) ?_
                            refine lv_ldiv gX gB dX6_centre_205 (fun zz => absurd ((pk_lEQ (a := Nat.gcd sN gN) (b := 0) (by have := Nat.gcd_le_right sN (show 0 < gN by omega); omega) (by decide)).mp zz) (by omega)) ?_
                            exact gx_lret C hr hW (Or.inl ⟨ce_0 (fun zz => zz.elim c35 (fun z2 => z2.elim c40 (fun z3 => z3.elim c44 (Int32.not_lt.mpr c49)))) c58, by rw [if_neg c191], rfl⟩) (Nat.le_of_ble_eq_true rfl) (Nat.le_of_ble_eq_true rfl) dX6_centre_206
                          · refine lv_lload gX gB dX6_centre_194 (lv_at hl 1 rfl) ?_
                            refine lv_lload gX gB dX6_centre_196 (lv_at hl 0 rfl) ?_
                            refine lv_ldiv gX gB dX6_centre_198 (fun zz => absurd ((pk_lEQ (a := Nat.gcd sN gN) (b := 0) (by have := Nat.gcd_le_right sN (show 0 < gN by omega); omega) (by decide)).mp zz) (by omega)) ?_
                            refine lv_goto (tgt := 206) gX gB dX6_centre_199 (by decide) ?_
                            exact gx_lret C hr hW (Or.inl ⟨ce_0 (fun zz => zz.elim c35 (fun z2 => z2.elim c40 (fun z3 => z3.elim c44 (Int32.not_lt.mpr c49)))) c58, by rw [if_pos c191], rfl⟩) (Nat.le_of_ble_eq_true rfl) (Nat.le_of_ble_eq_true rfl) dX6_centre_206
                    exact loop2 (pn + 1) 0 (by omega) (Nat.zero_le _) _ _ hW ls (lv_sub hl [0, 1, 2, 3, 4, 5] rfl)
                · refine lv_iconst (v := 2) gX gB dX6_centre_62 (by decide) ?_
                  refine lv_goto (tgt := 67) gX gB dX6_centre_63 (by decide) ?_
                  refine gx_putE C hW clX6 fX6_47 0 rfl (Or.inl rfl) rfl rfl (Nat.le_of_ble_eq_true rfl) dX6_centre_67 (fun H locs hW => ?_)
                  have hW : gx_W G A s ([(ad 0, .inr (11, [.int 2, .int (nI pn), .ref (ad 1), .ref (ad 2), .ref (ad 3), .ref (ad 4), .ref (ad 5), .int (nI fn), .ref (ad 6), .ref (ad 7), .int (nI dn), .ref (ad 8), .long ex, .long ey, .long eg, .int (nI cn), .ref (ad 9), .ref (ad 10), .int (nI sn), .int at0, .int fl, .int (nI tn), .ref (ad 11), .ref (ad 12)])), (ad 1, .inl (G.2.1 2, 16, .inr (.inl px))), (ad 2, .inl (G.2.1 2, 16, .inr (.inl py))), (ad 3, .inl (G.2.1 2, 16, .inr (.inl pz))), (ad 4, .inl (G.2.1 2, 16, .inr (.inl gr))), (ad 5, .inl (G.2.1 2, 16, .inr (.inl ou))), (ad 6, .inl (G.2.1 2, 12, .inr (.inl fx))), (ad 7, .inl (G.2.1 2, 12, .inr (.inl fy))), (ad 8, .inl (G.2.1 1, 8, .inl od)), (ad 9, .inl (G.2.1 1, 12, .inl cr)), (ad 10, .inl (G.2.1 1, 200, .inl ty)), (ad 11, .inl (G.2.1 1, 48, .inl to_)), (ad 12, .inl (G.2.1 1, 48, .inl dr))]) H locs := hW
                  refine lv_aload_n gX gB dX6_centre_70 rfl (lv_at hl 2 rfl) ?_
                  refine gx_get C hW fX6_47 ⟨0, rfl⟩ rfl dX6_centre_71 ?_
                  refine lv_if_le (tgt := 79) gX gB dX6_centre_74 (by decide) (fun h9 => absurd (show 2 ≤ (0 : Int32) from h9) (by decide)) (fun _ => ?_)
                  refine lv_lconst (v := 0) gX gB dX6_centre_77 (by decide) ?_
                  exact gx_lret C hr hW (Or.inr ⟨by rw [ce_2 (fun zz => zz.elim c35 (fun z2 => z2.elim c40 (fun z3 => z3.elim c44 (Int32.not_lt.mpr c49)))) c58]; decide, rfl, by rw [ce_2 (fun zz => zz.elim c35 (fun z2 => z2.elim c40 (fun z3 => z3.elim c44 (Int32.not_lt.mpr c49)))) c58]⟩) (Nat.le_of_ble_eq_true rfl) (Nat.le_of_ble_eq_true rfl) dX6_centre_78
              · refine lv_iconst (v := 1) gX gB dX6_centre_52 (by decide) ?_
                refine lv_goto (tgt := 67) gX gB dX6_centre_53 (by decide) ?_
                refine gx_putE C hW clX6 fX6_47 0 rfl (Or.inl rfl) rfl rfl (Nat.le_of_ble_eq_true rfl) dX6_centre_67 (fun H locs hW => ?_)
                have hW : gx_W G A s ([(ad 0, .inr (11, [.int 1, .int (nI pn), .ref (ad 1), .ref (ad 2), .ref (ad 3), .ref (ad 4), .ref (ad 5), .int (nI fn), .ref (ad 6), .ref (ad 7), .int (nI dn), .ref (ad 8), .long ex, .long ey, .long eg, .int (nI cn), .ref (ad 9), .ref (ad 10), .int (nI sn), .int at0, .int fl, .int (nI tn), .ref (ad 11), .ref (ad 12)])), (ad 1, .inl (G.2.1 2, 16, .inr (.inl px))), (ad 2, .inl (G.2.1 2, 16, .inr (.inl py))), (ad 3, .inl (G.2.1 2, 16, .inr (.inl pz))), (ad 4, .inl (G.2.1 2, 16, .inr (.inl gr))), (ad 5, .inl (G.2.1 2, 16, .inr (.inl ou))), (ad 6, .inl (G.2.1 2, 12, .inr (.inl fx))), (ad 7, .inl (G.2.1 2, 12, .inr (.inl fy))), (ad 8, .inl (G.2.1 1, 8, .inl od)), (ad 9, .inl (G.2.1 1, 12, .inl cr)), (ad 10, .inl (G.2.1 1, 200, .inl ty)), (ad 11, .inl (G.2.1 1, 48, .inl to_)), (ad 12, .inl (G.2.1 1, 48, .inl dr))]) H locs := hW
                refine lv_aload_n gX gB dX6_centre_70 rfl (lv_at hl 2 rfl) ?_
                refine gx_get C hW fX6_47 ⟨0, rfl⟩ rfl dX6_centre_71 ?_
                refine lv_if_le (tgt := 79) gX gB dX6_centre_74 (by decide) (fun h9 => absurd (show 1 ≤ (0 : Int32) from h9) (by decide)) (fun _ => ?_)
                refine lv_lconst (v := 0) gX gB dX6_centre_77 (by decide) ?_
                exact gx_lret C hr hW (Or.inr ⟨by rw [ce_1 (Or.inr (Or.inr (Or.inr (Int32.not_le.mp c49))))]; decide, rfl, by rw [ce_1 (Or.inr (Or.inr (Or.inr (Int32.not_le.mp c49))))]⟩) (Nat.le_of_ble_eq_true rfl) (Nat.le_of_ble_eq_true rfl) dX6_centre_78
  exact loop (pn + 1) 0 (by omega) (Nat.zero_le _) _ _ hW ls (lv_sub hl [0, 1, 2, 3, 4] rfl)
