/-! THE REFERENCE: drawer, noPolygon, turn, isSide, next. -/
def np_code (cn : Nat) : Int32 := if cn < 3 then 1 else 0
def wi_turn (fx fy : Nat → Int64) (a b : Nat) (x y : Int64) : Int64 := (fx b - fx a) * (y - fy a) - (fy b - fy a) * (x - fx a)
abbrev sd_t (fx fy : Nat → Int64) (a b k : Nat) : Int64 := wi_turn fx fy a b (fx k) (fy k)
abbrev sd_b (fx fy : Nat → Int64) (a b k : Nat) : Int64 := (fx k - fx a) * (fx b - fx a) + (fy k - fy a) * (fy b - fy a)
/-- foot k lies left of the line from a to b, or on it between them -/
def sd_ok (fx fy : Nat → Int64) (a b k : Nat) : Prop := 0 < sd_t fx fy a b k ∨ (sd_t fx fy a b k = 0 ∧ ¬ sd_b fx fy a b k < 0 ∧ ¬ sd_b fx fy b a k < 0)
def sd_up (fx fy : Nat → Int64) (a b i : Nat) : Prop := (¬ fx a = fx b ∨ ¬ fy a = fy b) ∧ ∀ k, k < i → sd_ok fx fy a b k
theorem sd_up1 {fx fy : Nat → Int64} {a b i : Nat} (h : sd_up fx fy a b i) (h2 : sd_ok fx fy a b i) : sd_up fx fy a b (i + 1) := ⟨h.1, fun k hk => (Nat.lt_succ_iff_lt_or_eq.mp hk).elim (h.2 k) (fun e => by rw [e]; exact h2)⟩
theorem sd_up0 {fx fy : Nat → Int64} {a b i j : Nat} (h : ¬ sd_up fx fy a b i) (hij : i ≤ j) : ¬ sd_up fx fy a b j := fun z => h ⟨z.1, fun k hk => z.2 k (Nat.lt_of_lt_of_le hk hij)⟩
/-- 1 where it holds, 0 where not -/
def bv_is (v : Int32) (P : Prop) : Prop := (v = 1 ∧ P) ∨ (v = 0 ∧ ¬ P)
set_option maxHeartbeats 4000000 in
set_option maxRecDepth 100000 in
theorem kX6_noPolygon (l : Launch) (G : gx_T) (ad : Nat → Nat) (cd : Int32) (pn fn dn cn sn tn : Nat) (ex ey eg : Int64) (at0 fl : Int32) (px py pz gr ou fx fy : Nat → Int64) (od cr ty to_ dr : Nat → Int32) (hcn : cn ≤ 12) : gx_M l G yX6_noPolygon cX6_noPolygon 1 (some .boolean) ({ frames := 0, cells := 0, slots := 0, locals := 0 } : Room) [.ref (ad 0)] ([(ad 0, .inr (11, [.int cd, .int (nI pn), .ref (ad 1), .ref (ad 2), .ref (ad 3), .ref (ad 4), .ref (ad 5), .int (nI fn), .ref (ad 6), .ref (ad 7), .int (nI dn), .ref (ad 8), .long ex, .long ey, .long eg, .int (nI cn), .ref (ad 9), .ref (ad 10), .int (nI sn), .int at0, .int fl, .int (nI tn), .ref (ad 11), .ref (ad 12)])), (ad 1, .inl (G.2.1 2, 16, .inr (.inl px))), (ad 2, .inl (G.2.1 2, 16, .inr (.inl py))), (ad 3, .inl (G.2.1 2, 16, .inr (.inl pz))), (ad 4, .inl (G.2.1 2, 16, .inr (.inl gr))), (ad 5, .inl (G.2.1 2, 16, .inr (.inl ou))), (ad 6, .inl (G.2.1 2, 12, .inr (.inl fx))), (ad 7, .inl (G.2.1 2, 12, .inr (.inl fy))), (ad 8, .inl (G.2.1 1, 8, .inl od)), (ad 9, .inl (G.2.1 1, 12, .inl cr)), (ad 10, .inl (G.2.1 1, 200, .inl ty)), (ad 11, .inl (G.2.1 1, 48, .inl to_)), (ad 12, .inl (G.2.1 1, 48, .inl dr))]) (fun v u => v = some (.int (np_code cn)) ∧ u = [(ad 0, .inr (11, [.int (np_code cn), .int (nI pn), .ref (ad 1), .ref (ad 2), .ref (ad 3), .ref (ad 4), .ref (ad 5), .int (nI fn), .ref (ad 6), .ref (ad 7), .int (nI dn), .ref (ad 8), .long ex, .long ey, .long eg, .int (nI cn), .ref (ad 9), .ref (ad 10), .int (nI sn), .int at0, .int fl, .int (nI tn), .ref (ad 11), .ref (ad 12)])), (ad 1, .inl (G.2.1 2, 16, .inr (.inl px))), (ad 2, .inl (G.2.1 2, 16, .inr (.inl py))), (ad 3, .inl (G.2.1 2, 16, .inr (.inl pz))), (ad 4, .inl (G.2.1 2, 16, .inr (.inl gr))), (ad 5, .inl (G.2.1 2, 16, .inr (.inl ou))), (ad 6, .inl (G.2.1 2, 12, .inr (.inl fx))), (ad 7, .inl (G.2.1 2, 12, .inr (.inl fy))), (ad 8, .inl (G.2.1 1, 8, .inl od)), (ad 9, .inl (G.2.1 1, 12, .inl cr)), (ad 10, .inl (G.2.1 1, 200, .inl ty)), (ad 11, .inl (G.2.1 1, 48, .inl to_)), (ad 12, .inl (G.2.1 1, 48, .inl dr))]) := by
  refine gx_start (by decide +kernel) (Nat.le_of_ble_eq_true rfl) ?_
  intro p e s m args below meth c A ls C hr hnm hW hl
  have gX := C.x
  have gB := C.b
  have hl : lv_has ls 1 [(0, .ref (ad 0))] := hl
  refine lv_aload_n gX gB dX6_noPolygon_0 rfl (lv_at hl 0 rfl) ?_
  rcases Classical.em (cn < 3) with hcn3 | hcn3
  · refine lv_aload_n gX gB dX6_noPolygon_1 rfl (lv_at hl 0 rfl) ?_
    refine gx_get C hW fX6_95 ⟨0, rfl⟩ rfl dX6_noPolygon_2 ?_
    refine lv_iconst (v := 3) gX gB dX6_noPolygon_5 (by decide) ?_
    refine lv_icmp_ge (tgt := 13) gX gB dX6_noPolygon_6 (by decide) (fun h9 => absurd (show (3 : Int32) ≤ (nI cn) from h9) (fun zz => absurd ((nI_leI (a := 3) (b := cn) (by decide) (by omega)).mp zz) (by omega))) (fun _ => ?_)
    refine lv_iconst (v := 1) gX gB dX6_noPolygon_9 (by decide) ?_
    refine lv_goto (tgt := 14) gX gB dX6_noPolygon_10 (by decide) ?_
    refine gx_putE C hW clX6 fX6_47 0 rfl (Or.inl rfl) rfl rfl (Nat.le_of_ble_eq_true rfl) dX6_noPolygon_14 (fun H locs hW => ?_)
    have hW : gx_W G A s ([(ad 0, .inr (11, [.int 1, .int (nI pn), .ref (ad 1), .ref (ad 2), .ref (ad 3), .ref (ad 4), .ref (ad 5), .int (nI fn), .ref (ad 6), .ref (ad 7), .int (nI dn), .ref (ad 8), .long ex, .long ey, .long eg, .int (nI cn), .ref (ad 9), .ref (ad 10), .int (nI sn), .int at0, .int fl, .int (nI tn), .ref (ad 11), .ref (ad 12)])), (ad 1, .inl (G.2.1 2, 16, .inr (.inl px))), (ad 2, .inl (G.2.1 2, 16, .inr (.inl py))), (ad 3, .inl (G.2.1 2, 16, .inr (.inl pz))), (ad 4, .inl (G.2.1 2, 16, .inr (.inl gr))), (ad 5, .inl (G.2.1 2, 16, .inr (.inl ou))), (ad 6, .inl (G.2.1 2, 12, .inr (.inl fx))), (ad 7, .inl (G.2.1 2, 12, .inr (.inl fy))), (ad 8, .inl (G.2.1 1, 8, .inl od)), (ad 9, .inl (G.2.1 1, 12, .inl cr)), (ad 10, .inl (G.2.1 1, 200, .inl ty)), (ad 11, .inl (G.2.1 1, 48, .inl to_)), (ad 12, .inl (G.2.1 1, 48, .inl dr))]) H locs := hW
    refine lv_aload_n gX gB dX6_noPolygon_17 rfl (lv_at hl 0 rfl) ?_
    refine gx_get C hW fX6_47 ⟨0, rfl⟩ rfl dX6_noPolygon_18 ?_
    refine lv_if_le (tgt := 28) gX gB dX6_noPolygon_21 (by decide) (fun h9 => absurd (show 1 ≤ (0 : Int32) from h9) (by decide)) (fun _ => ?_)
    refine lv_iconst (v := 1) gX gB dX6_noPolygon_24 (by decide) ?_
    refine lv_goto (tgt := 29) gX gB dX6_noPolygon_25 (by decide) ?_
    exact gx_zret C hr (by decide) hW (⟨by rw [np_code, if_pos hcn3], by rw [np_code, if_pos hcn3]⟩) (Nat.le_of_ble_eq_true rfl) (Nat.le_of_ble_eq_true rfl) dX6_noPolygon_29
  · refine lv_aload_n gX gB dX6_noPolygon_1 rfl (lv_at hl 0 rfl) ?_
    refine gx_get C hW fX6_95 ⟨0, rfl⟩ rfl dX6_noPolygon_2 ?_
    refine lv_iconst (v := 3) gX gB dX6_noPolygon_5 (by decide) ?_
    refine lv_icmp_ge (tgt := 13) gX gB dX6_noPolygon_6 (by decide) (fun _ => ?_) (fun h9 => absurd (show (3 : Int32) ≤ (nI cn) from (nI_leI (a := 3) (b := cn) (by decide) (by omega)).mpr (by omega)) h9)
    refine lv_iconst (v := 0) gX gB dX6_noPolygon_13 (by decide) ?_
    refine gx_putE C hW clX6 fX6_47 0 rfl (Or.inl rfl) rfl rfl (Nat.le_of_ble_eq_true rfl) dX6_noPolygon_14 (fun H locs hW => ?_)
    have hW : gx_W G A s ([(ad 0, .inr (11, [.int 0, .int (nI pn), .ref (ad 1), .ref (ad 2), .ref (ad 3), .ref (ad 4), .ref (ad 5), .int (nI fn), .ref (ad 6), .ref (ad 7), .int (nI dn), .ref (ad 8), .long ex, .long ey, .long eg, .int (nI cn), .ref (ad 9), .ref (ad 10), .int (nI sn), .int at0, .int fl, .int (nI tn), .ref (ad 11), .ref (ad 12)])), (ad 1, .inl (G.2.1 2, 16, .inr (.inl px))), (ad 2, .inl (G.2.1 2, 16, .inr (.inl py))), (ad 3, .inl (G.2.1 2, 16, .inr (.inl pz))), (ad 4, .inl (G.2.1 2, 16, .inr (.inl gr))), (ad 5, .inl (G.2.1 2, 16, .inr (.inl ou))), (ad 6, .inl (G.2.1 2, 12, .inr (.inl fx))), (ad 7, .inl (G.2.1 2, 12, .inr (.inl fy))), (ad 8, .inl (G.2.1 1, 8, .inl od)), (ad 9, .inl (G.2.1 1, 12, .inl cr)), (ad 10, .inl (G.2.1 1, 200, .inl ty)), (ad 11, .inl (G.2.1 1, 48, .inl to_)), (ad 12, .inl (G.2.1 1, 48, .inl dr))]) H locs := hW
    refine lv_aload_n gX gB dX6_noPolygon_17 rfl (lv_at hl 0 rfl) ?_
    refine gx_get C hW fX6_47 ⟨0, rfl⟩ rfl dX6_noPolygon_18 ?_
    refine lv_if_le (tgt := 28) gX gB dX6_noPolygon_21 (by decide) (fun _ => ?_) (fun h9 => absurd (show 0 ≤ (0 : Int32) from by decide) h9)
    refine lv_iconst (v := 0) gX gB dX6_noPolygon_28 (by decide) ?_
    exact gx_zret C hr (by decide) hW (⟨by rw [np_code, if_neg hcn3], by rw [np_code, if_neg hcn3]⟩) (Nat.le_of_ble_eq_true rfl) (Nat.le_of_ble_eq_true rfl) dX6_noPolygon_29
theorem dq_1 {np : Nat} {k : Int32} {o : Int64} (h : k < 0 ∨ ¬ k < nI np) : dr_code np k o = 1 := if_pos h
theorem dq_2 {np : Nat} {k : Int32} {o : Int64} (h : ¬ (k < 0 ∨ ¬ k < nI np)) (h2 : ¬ in_rng 1 100000 o) : dr_code np k o = 2 := by rw [dr_code, if_neg h, if_neg h2]
theorem dq_0 {np : Nat} {k : Int32} {o : Int64} (h : ¬ (k < 0 ∨ ¬ k < nI np)) (h2 : in_rng 1 100000 o) : dr_code np k o = 0 := by rw [dr_code, if_neg h, if_pos h2]
set_option maxHeartbeats 4000000 in
set_option maxRecDepth 100000 in
theorem kX6_drawer (l : Launch) (G : gx_T) (ad : Nat → Nat) (cd : Int32) (pn fn dn cn sn tn : Nat) (ex ey eg : Int64) (at0 fl : Int32) (px py pz gr ou fx fy : Nat → Int64) (od cr ty to_ dr : Nat → Int32) (hpn : pn ≤ 16) (hdn8 : dn ≤ 8) (k0 : Int32) (w : Int64) : gx_M l G yX6_drawer cX6_drawer 4 (some .boolean) ({ frames := 1, cells := 0, slots := 0, locals := 25 } : Room) [.ref (ad 0), .int k0, .long w] ([(ad 0, .inr (11, [.int cd, .int (nI pn), .ref (ad 1), .ref (ad 2), .ref (ad 3), .ref (ad 4), .ref (ad 5), .int (nI fn), .ref (ad 6), .ref (ad 7), .int (nI dn), .ref (ad 8), .long ex, .long ey, .long eg, .int (nI cn), .ref (ad 9), .ref (ad 10), .int (nI sn), .int at0, .int fl, .int (nI tn), .ref (ad 11), .ref (ad 12)])), (ad 1, .inl (G.2.1 2, 16, .inr (.inl px))), (ad 2, .inl (G.2.1 2, 16, .inr (.inl py))), (ad 3, .inl (G.2.1 2, 16, .inr (.inl pz))), (ad 4, .inl (G.2.1 2, 16, .inr (.inl gr))), (ad 5, .inl (G.2.1 2, 16, .inr (.inl ou))), (ad 6, .inl (G.2.1 2, 12, .inr (.inl fx))), (ad 7, .inl (G.2.1 2, 12, .inr (.inl fy))), (ad 8, .inl (G.2.1 1, 8, .inl od)), (ad 9, .inl (G.2.1 1, 12, .inl cr)), (ad 10, .inl (G.2.1 1, 200, .inl ty)), (ad 11, .inl (G.2.1 1, 48, .inl to_)), (ad 12, .inl (G.2.1 1, 48, .inl dr))]) (fun v u => (dr_code pn k0 w = 0 ∧ ∃ k : Nat, k0 = nI k ∧ k < pn ∧ (((dn = 8 ∨ 0 < ou k) ∧ v = some (.int 0) ∧ u = [(ad 0, .inr (11, [.int 0, .int (nI pn), .ref (ad 1), .ref (ad 2), .ref (ad 3), .ref (ad 4), .ref (ad 5), .int (nI fn), .ref (ad 6), .ref (ad 7), .int (nI dn), .ref (ad 8), .long ex, .long ey, .long eg, .int (nI cn), .ref (ad 9), .ref (ad 10), .int (nI sn), .int at0, .int fl, .int (nI tn), .ref (ad 11), .ref (ad 12)])), (ad 1, .inl (G.2.1 2, 16, .inr (.inl px))), (ad 2, .inl (G.2.1 2, 16, .inr (.inl py))), (ad 3, .inl (G.2.1 2, 16, .inr (.inl pz))), (ad 4, .inl (G.2.1 2, 16, .inr (.inl gr))), (ad 5, .inl (G.2.1 2, 16, .inr (.inl ou))), (ad 6, .inl (G.2.1 2, 12, .inr (.inl fx))), (ad 7, .inl (G.2.1 2, 12, .inr (.inl fy))), (ad 8, .inl (G.2.1 1, 8, .inl od)), (ad 9, .inl (G.2.1 1, 12, .inl cr)), (ad 10, .inl (G.2.1 1, 200, .inl ty)), (ad 11, .inl (G.2.1 1, 48, .inl to_)), (ad 12, .inl (G.2.1 1, 48, .inl dr))]) ∨ (dn < 8 ∧ ¬ 0 < ou k ∧ v = some (.int 1) ∧ u = [(ad 0, .inr (11, [.int 0, .int (nI pn), .ref (ad 1), .ref (ad 2), .ref (ad 3), .ref (ad 4), .ref (ad 5), .int (nI fn), .ref (ad 6), .ref (ad 7), .int (nI (dn + 1)), .ref (ad 8), .long ex, .long ey, .long eg, .int (nI cn), .ref (ad 9), .ref (ad 10), .int (nI sn), .int at0, .int fl, .int (nI tn), .ref (ad 11), .ref (ad 12)])), (ad 1, .inl (G.2.1 2, 16, .inr (.inl px))), (ad 2, .inl (G.2.1 2, 16, .inr (.inl py))), (ad 3, .inl (G.2.1 2, 16, .inr (.inl pz))), (ad 4, .inl (G.2.1 2, 16, .inr (.inl gr))), (ad 5, .inl (G.2.1 2, 16, .inr (.inl (vp_updL ou k w)))), (ad 6, .inl (G.2.1 2, 12, .inr (.inl fx))), (ad 7, .inl (G.2.1 2, 12, .inr (.inl fy))), (ad 8, .inl (G.2.1 1, 8, .inl (upd od dn (nI k)))), (ad 9, .inl (G.2.1 1, 12, .inl cr)), (ad 10, .inl (G.2.1 1, 200, .inl ty)), (ad 11, .inl (G.2.1 1, 48, .inl to_)), (ad 12, .inl (G.2.1 1, 48, .inl dr))]))) ∨ (¬ dr_code pn k0 w = 0 ∧ v = some (.int 0) ∧ u = [(ad 0, .inr (11, [.int (dr_code pn k0 w), .int (nI pn), .ref (ad 1), .ref (ad 2), .ref (ad 3), .ref (ad 4), .ref (ad 5), .int (nI fn), .ref (ad 6), .ref (ad 7), .int (nI dn), .ref (ad 8), .long ex, .long ey, .long eg, .int (nI cn), .ref (ad 9), .ref (ad 10), .int (nI sn), .int at0, .int fl, .int (nI tn), .ref (ad 11), .ref (ad 12)])), (ad 1, .inl (G.2.1 2, 16, .inr (.inl px))), (ad 2, .inl (G.2.1 2, 16, .inr (.inl py))), (ad 3, .inl (G.2.1 2, 16, .inr (.inl pz))), (ad 4, .inl (G.2.1 2, 16, .inr (.inl gr))), (ad 5, .inl (G.2.1 2, 16, .inr (.inl ou))), (ad 6, .inl (G.2.1 2, 12, .inr (.inl fx))), (ad 7, .inl (G.2.1 2, 12, .inr (.inl fy))), (ad 8, .inl (G.2.1 1, 8, .inl od)), (ad 9, .inl (G.2.1 1, 12, .inl cr)), (ad 10, .inl (G.2.1 1, 200, .inl ty)), (ad 11, .inl (G.2.1 1, 48, .inl to_)), (ad 12, .inl (G.2.1 1, 48, .inl dr))])) := by
  refine gx_start (by decide +kernel) (Nat.le_of_ble_eq_true rfl) ?_
  intro p e s m args below meth c A ls C hr hnm hW hl
  have gX := C.x
  have gB := C.b
  have hl : lv_has ls 4 [(0, .ref (ad 0)), (1, .int k0), (2, .long w)] := hl
  refine lv_aload_n gX gB dX6_drawer_0 rfl (lv_at hl 0 rfl) ?_
  rcases (by rcases Classical.em (k0 < 0) with h | h; exact Or.inl h; rcases Classical.em (k0 < nI pn) with h2 | h2; exact Or.inr (Or.inr ⟨h, h2⟩); exact Or.inr (Or.inl ⟨h, h2⟩) : k0 < 0 ∨ (¬ k0 < 0 ∧ ¬ k0 < nI pn) ∨ (¬ k0 < 0 ∧ k0 < nI pn)) with hk0 | ⟨hk0, hk1⟩ | ⟨hk0, hk1⟩
  · have hd1 : dr_code pn k0 w = 1 := dq_1 (Or.inl hk0)
    refine lv_iload_n gX gB dX6_drawer_1 rfl (lv_at hl 1 rfl) ?_
    refine lv_if_lt (tgt := 13) gX gB dX6_drawer_2 (by decide) (fun _ => ?_) (fun h9 => absurd (show k0 < (0 : Int32) from hk0) h9)
    refine lv_iconst (v := 1) gX gB dX6_drawer_13 (by decide) ?_
    refine lv_goto (tgt := 33) gX gB dX6_drawer_14 (by decide) ?_
    refine gx_putE C hW clX6 fX6_47 0 rfl (Or.inl rfl) rfl rfl (Nat.le_of_ble_eq_true rfl) dX6_drawer_33 (fun H locs hW => ?_)
    have hW : gx_W G A s ([(ad 0, .inr (11, [.int 1, .int (nI pn), .ref (ad 1), .ref (ad 2), .ref (ad 3), .ref (ad 4), .ref (ad 5), .int (nI fn), .ref (ad 6), .ref (ad 7), .int (nI dn), .ref (ad 8), .long ex, .long ey, .long eg, .int (nI cn), .ref (ad 9), .ref (ad 10), .int (nI sn), .int at0, .int fl, .int (nI tn), .ref (ad 11), .ref (ad 12)])), (ad 1, .inl (G.2.1 2, 16, .inr (.inl px))), (ad 2, .inl (G.2.1 2, 16, .inr (.inl py))), (ad 3, .inl (G.2.1 2, 16, .inr (.inl pz))), (ad 4, .inl (G.2.1 2, 16, .inr (.inl gr))), (ad 5, .inl (G.2.1 2, 16, .inr (.inl ou))), (ad 6, .inl (G.2.1 2, 12, .inr (.inl fx))), (ad 7, .inl (G.2.1 2, 12, .inr (.inl fy))), (ad 8, .inl (G.2.1 1, 8, .inl od)), (ad 9, .inl (G.2.1 1, 12, .inl cr)), (ad 10, .inl (G.2.1 1, 200, .inl ty)), (ad 11, .inl (G.2.1 1, 48, .inl to_)), (ad 12, .inl (G.2.1 1, 48, .inl dr))]) H locs := hW
    refine lv_aload_n gX gB dX6_drawer_36 rfl (lv_at hl 0 rfl) ?_
    refine gx_get C hW fX6_47 ⟨0, rfl⟩ rfl dX6_drawer_37 ?_
    refine lv_if_gt (tgt := 63) gX gB dX6_drawer_40 (by decide) (fun _ => ?_) (fun h9 => absurd (show (0 : Int32) < 1 from by decide) h9)
    refine lv_iconst (v := 0) gX gB dX6_drawer_63 (by decide) ?_
    exact gx_zret C hr (by decide) hW (Or.inr ⟨by rw [hd1]; decide, rfl, by rw [hd1]⟩) (Nat.le_of_ble_eq_true rfl) (Nat.le_of_ble_eq_true rfl) dX6_drawer_64
  · have hd1 : dr_code pn k0 w = 1 := dq_1 (Or.inr hk1)
    refine lv_iload_n gX gB dX6_drawer_1 rfl (lv_at hl 1 rfl) ?_
    refine lv_if_lt (tgt := 13) gX gB dX6_drawer_2 (by decide) (fun h9 => absurd (show k0 < (0 : Int32) from h9) (hk0)) (fun _ => ?_)
    refine lv_iload_n gX gB dX6_drawer_5 rfl (lv_at hl 1 rfl) ?_
    refine lv_aload_n gX gB dX6_drawer_6 rfl (lv_at hl 0 rfl) ?_
    refine gx_get C hW fX6_65 ⟨0, rfl⟩ rfl dX6_drawer_7 ?_
    refine lv_icmp_lt (tgt := 17) gX gB dX6_drawer_10 (by decide) (fun h9 => absurd (show k0 < (nI pn) from h9) (hk1)) (fun _ => ?_)
    refine lv_iconst (v := 1) gX gB dX6_drawer_13 (by decide) ?_
    refine lv_goto (tgt := 33) gX gB dX6_drawer_14 (by decide) ?_
    refine gx_putE C hW clX6 fX6_47 0 rfl (Or.inl rfl) rfl rfl (Nat.le_of_ble_eq_true rfl) dX6_drawer_33 (fun H locs hW => ?_)
    have hW : gx_W G A s ([(ad 0, .inr (11, [.int 1, .int (nI pn), .ref (ad 1), .ref (ad 2), .ref (ad 3), .ref (ad 4), .ref (ad 5), .int (nI fn), .ref (ad 6), .ref (ad 7), .int (nI dn), .ref (ad 8), .long ex, .long ey, .long eg, .int (nI cn), .ref (ad 9), .ref (ad 10), .int (nI sn), .int at0, .int fl, .int (nI tn), .ref (ad 11), .ref (ad 12)])), (ad 1, .inl (G.2.1 2, 16, .inr (.inl px))), (ad 2, .inl (G.2.1 2, 16, .inr (.inl py))), (ad 3, .inl (G.2.1 2, 16, .inr (.inl pz))), (ad 4, .inl (G.2.1 2, 16, .inr (.inl gr))), (ad 5, .inl (G.2.1 2, 16, .inr (.inl ou))), (ad 6, .inl (G.2.1 2, 12, .inr (.inl fx))), (ad 7, .inl (G.2.1 2, 12, .inr (.inl fy))), (ad 8, .inl (G.2.1 1, 8, .inl od)), (ad 9, .inl (G.2.1 1, 12, .inl cr)), (ad 10, .inl (G.2.1 1, 200, .inl ty)), (ad 11, .inl (G.2.1 1, 48, .inl to_)), (ad 12, .inl (G.2.1 1, 48, .inl dr))]) H locs := hW
    refine lv_aload_n gX gB dX6_drawer_36 rfl (lv_at hl 0 rfl) ?_
    refine gx_get C hW fX6_47 ⟨0, rfl⟩ rfl dX6_drawer_37 ?_
    refine lv_if_gt (tgt := 63) gX gB dX6_drawer_40 (by decide) (fun _ => ?_) (fun h9 => absurd (show (0 : Int32) < 1 from by decide) h9)
    refine lv_iconst (v := 0) gX gB dX6_drawer_63 (by decide) ?_
    exact gx_zret C hr (by decide) hW (Or.inr ⟨by rw [hd1]; decide, rfl, by rw [hd1]⟩) (Nat.le_of_ble_eq_true rfl) (Nat.le_of_ble_eq_true rfl) dX6_drawer_64
  · have hdn : ¬ (k0 < 0 ∨ ¬ k0 < nI pn) := fun zz => zz.elim hk0 (fun z2 => z2 hk1)
    obtain ⟨k, hk31, rfl⟩ := nI_of hk0
    have hkp : k < pn := (nI_ltI hk31 (by omega)).mp hk1
    have hl : lv_has ls 4 [(0, .ref (ad 0)), (1, .int (nI k)), (2, .long w)] := hl
    refine lv_iload_n gX gB dX6_drawer_1 rfl (lv_at hl 1 rfl) ?_
    refine lv_if_lt (tgt := 13) gX gB dX6_drawer_2 (by decide) (fun h9 => absurd (show (nI k) < (0 : Int32) from h9) (hk0)) (fun _ => ?_)
    refine lv_iload_n gX gB dX6_drawer_5 rfl (lv_at hl 1 rfl) ?_
    refine lv_aload_n gX gB dX6_drawer_6 rfl (lv_at hl 0 rfl) ?_
    refine gx_get C hW fX6_65 ⟨0, rfl⟩ rfl dX6_drawer_7 ?_
    refine lv_icmp_lt (tgt := 17) gX gB dX6_drawer_10 (by decide) (fun _ => ?_) (fun h9 => absurd (show (nI k) < (nI pn) from hk1) h9)
    refine lv_lload_n gX gB dX6_drawer_17 rfl (lv_at hl 2 rfl) ?_
    refine lv_lconst (v := 1) gX gB dX6_drawer_18 (by decide) ?_
    refine gx_ldc2 (v := 100000) C (tq_5 96 (by decide +kernel) rfl) dX6_drawer_19 ?_
    refine gx_callS (wr := []) (rest := [.ref (ad 0)]) C hW sX6_61 (kX6_isIn l G ([(ad 0, .inr (11, [.int cd, .int (nI pn), .ref (ad 1), .ref (ad 2), .ref (ad 3), .ref (ad 4), .ref (ad 5), .int (nI fn), .ref (ad 6), .ref (ad 7), .int (nI dn), .ref (ad 8), .long ex, .long ey, .long eg, .int (nI cn), .ref (ad 9), .ref (ad 10), .int (nI sn), .int at0, .int fl, .int (nI tn), .ref (ad 11), .ref (ad 12)])), (ad 1, .inl (G.2.1 2, 16, .inr (.inl px))), (ad 2, .inl (G.2.1 2, 16, .inr (.inl py))), (ad 3, .inl (G.2.1 2, 16, .inr (.inl pz))), (ad 4, .inl (G.2.1 2, 16, .inr (.inl gr))), (ad 5, .inl (G.2.1 2, 16, .inr (.inl ou))), (ad 6, .inl (G.2.1 2, 12, .inr (.inl fx))), (ad 7, .inl (G.2.1 2, 12, .inr (.inl fy))), (ad 8, .inl (G.2.1 1, 8, .inl od)), (ad 9, .inl (G.2.1 1, 12, .inl cr)), (ad 10, .inl (G.2.1 1, 200, .inl ty)), (ad 11, .inl (G.2.1 1, 48, .inl to_)), (ad 12, .inl (G.2.1 1, 48, .inl dr))]) w 1 100000) rfl ⟨(Nat.le_of_ble_eq_true rfl), (Nat.le_of_ble_eq_true rfl)⟩ hl.1 rfl (Nat.le_of_ble_eq_true rfl) dX6_drawer_22 ⟨(Nat.le_of_ble_eq_true rfl), (Nat.le_of_ble_eq_true rfl)⟩ (fun v9 u9 H locs hp hW => ?_)
    obtain ⟨rfl, hu⟩ := hp
    rw [hu] at hW
    have hW : gx_W G A s ([(ad 0, .inr (11, [.int cd, .int (nI pn), .ref (ad 1), .ref (ad 2), .ref (ad 3), .ref (ad 4), .ref (ad 5), .int (nI fn), .ref (ad 6), .ref (ad 7), .int (nI dn), .ref (ad 8), .long ex, .long ey, .long eg, .int (nI cn), .ref (ad 9), .ref (ad 10), .int (nI sn), .int at0, .int fl, .int (nI tn), .ref (ad 11), .ref (ad 12)])), (ad 1, .inl (G.2.1 2, 16, .inr (.inl px))), (ad 2, .inl (G.2.1 2, 16, .inr (.inl py))), (ad 3, .inl (G.2.1 2, 16, .inr (.inl pz))), (ad 4, .inl (G.2.1 2, 16, .inr (.inl gr))), (ad 5, .inl (G.2.1 2, 16, .inr (.inl ou))), (ad 6, .inl (G.2.1 2, 12, .inr (.inl fx))), (ad 7, .inl (G.2.1 2, 12, .inr (.inl fy))), (ad 8, .inl (G.2.1 1, 8, .inl od)), (ad 9, .inl (G.2.1 1, 12, .inl cr)), (ad 10, .inl (G.2.1 1, 200, .inl ty)), (ad 11, .inl (G.2.1 1, 48, .inl to_)), (ad 12, .inl (G.2.1 1, 48, .inl dr))]) H locs := hW
    refine W.eq (g2 := F0 m 25 ls [.int (gx_b (in_rng 1 100000 w)), .ref (ad 0)]) rfl ?_
    refine W.widen (k := 0) (n := 0) (Nat.le_of_ble_eq_true rfl) (Nat.le_of_ble_eq_true rfl) ?_
    refine lv_if_eq (tgt := 32) gX gB dX6_drawer_25 (by decide) (fun c25 => ?_) (fun c25 => ?_)
    · refine lv_iconst (v := 2) gX gB dX6_drawer_32 (by decide) ?_
      refine gx_putE C hW clX6 fX6_47 0 rfl (Or.inl rfl) rfl rfl (Nat.le_of_ble_eq_true rfl) dX6_drawer_33 (fun H locs hW => ?_)
      have hW : gx_W G A s ([(ad 0, .inr (11, [.int 2, .int (nI pn), .ref (ad 1), .ref (ad 2), .ref (ad 3), .ref (ad 4), .ref (ad 5), .int (nI fn), .ref (ad 6), .ref (ad 7), .int (nI dn), .ref (ad 8), .long ex, .long ey, .long eg, .int (nI cn), .ref (ad 9), .ref (ad 10), .int (nI sn), .int at0, .int fl, .int (nI tn), .ref (ad 11), .ref (ad 12)])), (ad 1, .inl (G.2.1 2, 16, .inr (.inl px))), (ad 2, .inl (G.2.1 2, 16, .inr (.inl py))), (ad 3, .inl (G.2.1 2, 16, .inr (.inl pz))), (ad 4, .inl (G.2.1 2, 16, .inr (.inl gr))), (ad 5, .inl (G.2.1 2, 16, .inr (.inl ou))), (ad 6, .inl (G.2.1 2, 12, .inr (.inl fx))), (ad 7, .inl (G.2.1 2, 12, .inr (.inl fy))), (ad 8, .inl (G.2.1 1, 8, .inl od)), (ad 9, .inl (G.2.1 1, 12, .inl cr)), (ad 10, .inl (G.2.1 1, 200, .inl ty)), (ad 11, .inl (G.2.1 1, 48, .inl to_)), (ad 12, .inl (G.2.1 1, 48, .inl dr))]) H locs := hW
      refine lv_aload_n gX gB dX6_drawer_36 rfl (lv_at hl 0 rfl) ?_
      refine gx_get C hW fX6_47 ⟨0, rfl⟩ rfl dX6_drawer_37 ?_
      refine lv_if_gt (tgt := 63) gX gB dX6_drawer_40 (by decide) (fun _ => ?_) (fun h9 => absurd (show (0 : Int32) < 2 from by decide) h9)
      refine lv_iconst (v := 0) gX gB dX6_drawer_63 (by decide) ?_
      exact gx_zret C hr (by decide) hW (Or.inr ⟨by rw [dq_2 hdn (gx_b0.mp c25)]; decide, rfl, by rw [dq_2 hdn (gx_b0.mp c25)]⟩) (Nat.le_of_ble_eq_true rfl) (Nat.le_of_ble_eq_true rfl) dX6_drawer_64
    · refine lv_iconst (v := 0) gX gB dX6_drawer_28 (by decide) ?_
      refine lv_goto (tgt := 33) gX gB dX6_drawer_29 (by decide) ?_
      refine gx_putE C hW clX6 fX6_47 0 rfl (Or.inl rfl) rfl rfl (Nat.le_of_ble_eq_true rfl) dX6_drawer_33 (fun H locs hW => ?_)
      have hW : gx_W G A s ([(ad 0, .inr (11, [.int 0, .int (nI pn), .ref (ad 1), .ref (ad 2), .ref (ad 3), .ref (ad 4), .ref (ad 5), .int (nI fn), .ref (ad 6), .ref (ad 7), .int (nI dn), .ref (ad 8), .long ex, .long ey, .long eg, .int (nI cn), .ref (ad 9), .ref (ad 10), .int (nI sn), .int at0, .int fl, .int (nI tn), .ref (ad 11), .ref (ad 12)])), (ad 1, .inl (G.2.1 2, 16, .inr (.inl px))), (ad 2, .inl (G.2.1 2, 16, .inr (.inl py))), (ad 3, .inl (G.2.1 2, 16, .inr (.inl pz))), (ad 4, .inl (G.2.1 2, 16, .inr (.inl gr))), (ad 5, .inl (G.2.1 2, 16, .inr (.inl ou))), (ad 6, .inl (G.2.1 2, 12, .inr (.inl fx))), (ad 7, .inl (G.2.1 2, 12, .inr (.inl fy))), (ad 8, .inl (G.2.1 1, 8, .inl od)), (ad 9, .inl (G.2.1 1, 12, .inl cr)), (ad 10, .inl (G.2.1 1, 200, .inl ty)), (ad 11, .inl (G.2.1 1, 48, .inl to_)), (ad 12, .inl (G.2.1 1, 48, .inl dr))]) H locs := hW
      refine lv_aload_n gX gB dX6_drawer_36 rfl (lv_at hl 0 rfl) ?_
      refine gx_get C hW fX6_47 ⟨0, rfl⟩ rfl dX6_drawer_37 ?_
      refine lv_if_gt (tgt := 63) gX gB dX6_drawer_40 (by decide) (fun h9 => absurd (show (0 : Int32) < 0 from h9) (by decide)) (fun _ => ?_)
      refine lv_aload_n gX gB dX6_drawer_43 rfl (lv_at hl 0 rfl) ?_
      refine gx_get C hW fX6_74 ⟨0, rfl⟩ rfl dX6_drawer_44 ?_
      refine lv_bipush (v := 8) gX gB dX6_drawer_47 (by decide) ?_
      rcases (by omega : dn = 8 ∨ dn < 8) with hd8 | hd8
      · refine lv_icmp_eq (tgt := 63) gX gB dX6_drawer_49 (by decide) (fun _ => ?_) (fun h9 => absurd (show (nI dn) = (8 : Int32) from congrArg nI hd8) h9)
        refine lv_iconst (v := 0) gX gB dX6_drawer_63 (by decide) ?_
        exact gx_zret C hr (by decide) hW (Or.inl ⟨dq_0 hdn (gx_b1.mp c25), k, rfl, hkp, Or.inl ⟨Or.inl hd8, rfl, rfl⟩⟩) (Nat.le_of_ble_eq_true rfl) (Nat.le_of_ble_eq_true rfl) dX6_drawer_64
      · refine lv_icmp_eq (tgt := 63) gX gB dX6_drawer_49 (by decide) (fun h9 => absurd (show (nI dn) = (8 : Int32) from h9) (fun zz => absurd ((nI_eq (b := 8) (by omega) (by decide)).mp zz) (by omega))) (fun _ => ?_)
        refine lv_aload_n gX gB dX6_drawer_52 rfl (lv_at hl 0 rfl) ?_
        refine gx_get C hW fX6_22 ⟨0, rfl⟩ rfl dX6_drawer_53 ?_
        refine lv_iload_n gX gB dX6_drawer_56 rfl (lv_at hl 1 rfl) ?_
        refine gx_lald C hW ⟨5, rfl⟩ (j := k) rfl (by omega) (by decide) dX6_drawer_57 ?_
        refine lv_lconst (v := 0) gX gB dX6_drawer_58 (by decide) ?_
        refine gx_lc_le (tgt := 65) C dX6_drawer_59 dX6_drawer_60 (by decide) (fun c59 => ?_) (fun c59 => ?_)
        · refine lv_aload_n gX gB dX6_drawer_65 rfl (lv_at hl 0 rfl) ?_
          refine gx_get C hW fX6_22 ⟨0, rfl⟩ rfl dX6_drawer_66 ?_
          refine lv_iload_n gX gB dX6_drawer_69 rfl (lv_at hl 1 rfl) ?_
          refine lv_lload_n gX gB dX6_drawer_70 rfl (lv_at hl 2 rfl) ?_
          refine gx_lastE C hW 5 (j := k) rfl rfl (by omega) (by decide) dX6_drawer_71 (fun H locs hW => ?_)
          have hW : gx_W G A s ([(ad 0, .inr (11, [.int 0, .int (nI pn), .ref (ad 1), .ref (ad 2), .ref (ad 3), .ref (ad 4), .ref (ad 5), .int (nI fn), .ref (ad 6), .ref (ad 7), .int (nI dn), .ref (ad 8), .long ex, .long ey, .long eg, .int (nI cn), .ref (ad 9), .ref (ad 10), .int (nI sn), .int at0, .int fl, .int (nI tn), .ref (ad 11), .ref (ad 12)])), (ad 1, .inl (G.2.1 2, 16, .inr (.inl px))), (ad 2, .inl (G.2.1 2, 16, .inr (.inl py))), (ad 3, .inl (G.2.1 2, 16, .inr (.inl pz))), (ad 4, .inl (G.2.1 2, 16, .inr (.inl gr))), (ad 5, .inl (G.2.1 2, 16, .inr (.inl (vp_updL ou k w)))), (ad 6, .inl (G.2.1 2, 12, .inr (.inl fx))), (ad 7, .inl (G.2.1 2, 12, .inr (.inl fy))), (ad 8, .inl (G.2.1 1, 8, .inl od)), (ad 9, .inl (G.2.1 1, 12, .inl cr)), (ad 10, .inl (G.2.1 1, 200, .inl ty)), (ad 11, .inl (G.2.1 1, 48, .inl to_)), (ad 12, .inl (G.2.1 1, 48, .inl dr))]) H locs := hW
          refine lv_aload_n gX gB dX6_drawer_72 rfl (lv_at hl 0 rfl) ?_
          refine gx_get C hW fX6_31 ⟨0, rfl⟩ rfl dX6_drawer_73 ?_
          refine lv_aload_n gX gB dX6_drawer_76 rfl (lv_at hl 0 rfl) ?_
          refine gx_get C hW fX6_74 ⟨0, rfl⟩ rfl dX6_drawer_77 ?_
          refine lv_iload_n gX gB dX6_drawer_80 rfl (lv_at hl 1 rfl) ?_
          refine gx_iastE C hW 8 (j := dn) rfl rfl (by omega) (by decide) dX6_drawer_81 (fun H locs hW => ?_)
          have hW : gx_W G A s ([(ad 0, .inr (11, [.int 0, .int (nI pn), .ref (ad 1), .ref (ad 2), .ref (ad 3), .ref (ad 4), .ref (ad 5), .int (nI fn), .ref (ad 6), .ref (ad 7), .int (nI dn), .ref (ad 8), .long ex, .long ey, .long eg, .int (nI cn), .ref (ad 9), .ref (ad 10), .int (nI sn), .int at0, .int fl, .int (nI tn), .ref (ad 11), .ref (ad 12)])), (ad 1, .inl (G.2.1 2, 16, .inr (.inl px))), (ad 2, .inl (G.2.1 2, 16, .inr (.inl py))), (ad 3, .inl (G.2.1 2, 16, .inr (.inl pz))), (ad 4, .inl (G.2.1 2, 16, .inr (.inl gr))), (ad 5, .inl (G.2.1 2, 16, .inr (.inl (vp_updL ou k w)))), (ad 6, .inl (G.2.1 2, 12, .inr (.inl fx))), (ad 7, .inl (G.2.1 2, 12, .inr (.inl fy))), (ad 8, .inl (G.2.1 1, 8, .inl (upd od dn (nI k)))), (ad 9, .inl (G.2.1 1, 12, .inl cr)), (ad 10, .inl (G.2.1 1, 200, .inl ty)), (ad 11, .inl (G.2.1 1, 48, .inl to_)), (ad 12, .inl (G.2.1 1, 48, .inl dr))]) H locs := hW
          refine lv_aload_n gX gB dX6_drawer_82 rfl (lv_at hl 0 rfl) ?_
          refine lv_dup gX gB dX6_drawer_83 rfl ?_
          refine gx_get C hW fX6_74 ⟨0, rfl⟩ rfl dX6_drawer_84 ?_
          refine lv_iconst (v := 1) gX gB dX6_drawer_87 (by decide) ?_
          refine lv_iadd gX gB dX6_drawer_88 ?_
          refine gx_topi (show ((nI dn) + 1) = nI (dn + 1) from nI_1 dn) ?_
          refine gx_putE C hW clX6 fX6_74 0 rfl (Or.inl rfl) rfl rfl (Nat.le_of_ble_eq_true rfl) dX6_drawer_89 (fun H locs hW => ?_)
          have hW : gx_W G A s ([(ad 0, .inr (11, [.int 0, .int (nI pn), .ref (ad 1), .ref (ad 2), .ref (ad 3), .ref (ad 4), .ref (ad 5), .int (nI fn), .ref (ad 6), .ref (ad 7), .int (nI (dn + 1)), .ref (ad 8), .long ex, .long ey, .long eg, .int (nI cn), .ref (ad 9), .ref (ad 10), .int (nI sn), .int at0, .int fl, .int (nI tn), .ref (ad 11), .ref (ad 12)])), (ad 1, .inl (G.2.1 2, 16, .inr (.inl px))), (ad 2, .inl (G.2.1 2, 16, .inr (.inl py))), (ad 3, .inl (G.2.1 2, 16, .inr (.inl pz))), (ad 4, .inl (G.2.1 2, 16, .inr (.inl gr))), (ad 5, .inl (G.2.1 2, 16, .inr (.inl (vp_updL ou k w)))), (ad 6, .inl (G.2.1 2, 12, .inr (.inl fx))), (ad 7, .inl (G.2.1 2, 12, .inr (.inl fy))), (ad 8, .inl (G.2.1 1, 8, .inl (upd od dn (nI k)))), (ad 9, .inl (G.2.1 1, 12, .inl cr)), (ad 10, .inl (G.2.1 1, 200, .inl ty)), (ad 11, .inl (G.2.1 1, 48, .inl to_)), (ad 12, .inl (G.2.1 1, 48, .inl dr))]) H locs := hW
          refine lv_iconst (v := 1) gX gB dX6_drawer_92 (by decide) ?_
          exact gx_zret C hr (by decide) hW (Or.inl ⟨dq_0 hdn (gx_b1.mp c25), k, rfl, hkp, Or.inr ⟨hd8, Int64.not_lt.mpr c59, rfl, rfl⟩⟩) (Nat.le_of_ble_eq_true rfl) (Nat.le_of_ble_eq_true rfl) dX6_drawer_93
        · refine lv_iconst (v := 0) gX gB dX6_drawer_63 (by decide) ?_
          exact gx_zret C hr (by decide) hW (Or.inl ⟨dq_0 hdn (gx_b1.mp c25), k, rfl, hkp, Or.inl ⟨Or.inr (Int64.not_le.mp c59), rfl, rfl⟩⟩) (Nat.le_of_ble_eq_true rfl) (Nat.le_of_ble_eq_true rfl) dX6_drawer_64
set_option maxHeartbeats 4000000 in
set_option maxRecDepth 100000 in
theorem kX6_turn (l : Launch) (G : gx_T) (ad : Nat → Nat) (cd : Int32) (pn fn dn cn sn tn : Nat) (ex ey eg : Int64) (at0 fl : Int32) (px py pz gr ou fx fy : Nat → Int64) (od cr ty to_ dr : Nat → Int32) (a b : Nat) (x y : Int64) (ha : a < 12) (hb : b < 12) : gx_M l G yX6_turn cX6_turn 7 (some .long) ({ frames := 0, cells := 0, slots := 0, locals := 0 } : Room) [.ref (ad 0), .int (nI a), .int (nI b), .long x, .long y] ([(ad 0, .inr (11, [.int cd, .int (nI pn), .ref (ad 1), .ref (ad 2), .ref (ad 3), .ref (ad 4), .ref (ad 5), .int (nI fn), .ref (ad 6), .ref (ad 7), .int (nI dn), .ref (ad 8), .long ex, .long ey, .long eg, .int (nI cn), .ref (ad 9), .ref (ad 10), .int (nI sn), .int at0, .int fl, .int (nI tn), .ref (ad 11), .ref (ad 12)])), (ad 1, .inl (G.2.1 2, 16, .inr (.inl px))), (ad 2, .inl (G.2.1 2, 16, .inr (.inl py))), (ad 3, .inl (G.2.1 2, 16, .inr (.inl pz))), (ad 4, .inl (G.2.1 2, 16, .inr (.inl gr))), (ad 5, .inl (G.2.1 2, 16, .inr (.inl ou))), (ad 6, .inl (G.2.1 2, 12, .inr (.inl fx))), (ad 7, .inl (G.2.1 2, 12, .inr (.inl fy))), (ad 8, .inl (G.2.1 1, 8, .inl od)), (ad 9, .inl (G.2.1 1, 12, .inl cr)), (ad 10, .inl (G.2.1 1, 200, .inl ty)), (ad 11, .inl (G.2.1 1, 48, .inl to_)), (ad 12, .inl (G.2.1 1, 48, .inl dr))]) (fun v u => v = some (.long (wi_turn fx fy a b x y)) ∧ u = [(ad 0, .inr (11, [.int cd, .int (nI pn), .ref (ad 1), .ref (ad 2), .ref (ad 3), .ref (ad 4), .ref (ad 5), .int (nI fn), .ref (ad 6), .ref (ad 7), .int (nI dn), .ref (ad 8), .long ex, .long ey, .long eg, .int (nI cn), .ref (ad 9), .ref (ad 10), .int (nI sn), .int at0, .int fl, .int (nI tn), .ref (ad 11), .ref (ad 12)])), (ad 1, .inl (G.2.1 2, 16, .inr (.inl px))), (ad 2, .inl (G.2.1 2, 16, .inr (.inl py))), (ad 3, .inl (G.2.1 2, 16, .inr (.inl pz))), (ad 4, .inl (G.2.1 2, 16, .inr (.inl gr))), (ad 5, .inl (G.2.1 2, 16, .inr (.inl ou))), (ad 6, .inl (G.2.1 2, 12, .inr (.inl fx))), (ad 7, .inl (G.2.1 2, 12, .inr (.inl fy))), (ad 8, .inl (G.2.1 1, 8, .inl od)), (ad 9, .inl (G.2.1 1, 12, .inl cr)), (ad 10, .inl (G.2.1 1, 200, .inl ty)), (ad 11, .inl (G.2.1 1, 48, .inl to_)), (ad 12, .inl (G.2.1 1, 48, .inl dr))]) := by
  refine gx_start (by decide +kernel) (Nat.le_of_ble_eq_true rfl) ?_
  intro p e s m args below meth c A ls C hr hnm hW hl
  have gX := C.x
  have gB := C.b
  have hl : lv_has ls 7 [(0, .ref (ad 0)), (1, .int (nI a)), (2, .int (nI b)), (3, .long x), (5, .long y)] := hl
  refine lv_aload_n gX gB dX6_turn_0 rfl (lv_at hl 0 rfl) ?_
  refine gx_get C hW fX6_25 ⟨0, rfl⟩ rfl dX6_turn_1 ?_
  refine lv_iload_n gX gB dX6_turn_4 rfl (lv_at hl 2 rfl) ?_
  refine gx_lald C hW ⟨6, rfl⟩ (j := b) rfl (by omega) (by decide) dX6_turn_5 ?_
  refine lv_aload_n gX gB dX6_turn_6 rfl (lv_at hl 0 rfl) ?_
  refine gx_get C hW fX6_25 ⟨0, rfl⟩ rfl dX6_turn_7 ?_
  refine lv_iload_n gX gB dX6_turn_10 rfl (lv_at hl 1 rfl) ?_
  refine gx_lald C hW ⟨6, rfl⟩ (j := a) rfl (by omega) (by decide) dX6_turn_11 ?_
  refine lv_lsub gX gB dX6_turn_12 ?_
  refine lv_lload gX gB dX6_turn_13 (lv_at hl 4 rfl) ?_
  refine lv_aload_n gX gB dX6_turn_15 rfl (lv_at hl 0 rfl) ?_
  refine gx_get C hW fX6_28 ⟨0, rfl⟩ rfl dX6_turn_16 ?_
  refine lv_iload_n gX gB dX6_turn_19 rfl (lv_at hl 1 rfl) ?_
  refine gx_lald C hW ⟨7, rfl⟩ (j := a) rfl (by omega) (by decide) dX6_turn_20 ?_
  refine lv_lsub gX gB dX6_turn_21 ?_
  refine lv_lmul gX gB dX6_turn_22 ?_
  refine lv_aload_n gX gB dX6_turn_23 rfl (lv_at hl 0 rfl) ?_
  refine gx_get C hW fX6_28 ⟨0, rfl⟩ rfl dX6_turn_24 ?_
  refine lv_iload_n gX gB dX6_turn_27 rfl (lv_at hl 2 rfl) ?_
  refine gx_lald C hW ⟨7, rfl⟩ (j := b) rfl (by omega) (by decide) dX6_turn_28 ?_
  refine lv_aload_n gX gB dX6_turn_29 rfl (lv_at hl 0 rfl) ?_
  refine gx_get C hW fX6_28 ⟨0, rfl⟩ rfl dX6_turn_30 ?_
  refine lv_iload_n gX gB dX6_turn_33 rfl (lv_at hl 1 rfl) ?_
  refine gx_lald C hW ⟨7, rfl⟩ (j := a) rfl (by omega) (by decide) dX6_turn_34 ?_
  refine lv_lsub gX gB dX6_turn_35 ?_
  refine lv_lload_n gX gB dX6_turn_36 rfl (lv_at hl 3 rfl) ?_
  refine lv_aload_n gX gB dX6_turn_37 rfl (lv_at hl 0 rfl) ?_
  refine gx_get C hW fX6_25 ⟨0, rfl⟩ rfl dX6_turn_38 ?_
  refine lv_iload_n gX gB dX6_turn_41 rfl (lv_at hl 1 rfl) ?_
  refine gx_lald C hW ⟨6, rfl⟩ (j := a) rfl (by omega) (by decide) dX6_turn_42 ?_
  refine lv_lsub gX gB dX6_turn_43 ?_
  refine lv_lmul gX gB dX6_turn_44 ?_
  refine lv_lsub gX gB dX6_turn_45 ?_
  exact gx_lret C hr hW (⟨rfl, rfl⟩) (Nat.le_of_ble_eq_true rfl) (Nat.le_of_ble_eq_true rfl) dX6_turn_46
set_option maxHeartbeats 4000000 in
set_option maxRecDepth 100000 in
theorem kX6_isSide (l : Launch) (G : gx_T) (ad : Nat → Nat) (cd : Int32) (pn fn dn cn sn tn : Nat) (ex ey eg : Int64) (at0 fl : Int32) (px py pz gr ou fx fy : Nat → Int64) (od cr ty to_ dr : Nat → Int32) (hfn : fn ≤ 12) (a b : Nat) (ha : a < 12) (hb : b < 12) : gx_M l G yX6_isSide cX6_isSide 11 (some .boolean) ({ frames := 1, cells := 0, slots := 0, locals := 26 } : Room) [.ref (ad 0), .int (nI a), .int (nI b)] ([(ad 0, .inr (11, [.int cd, .int (nI pn), .ref (ad 1), .ref (ad 2), .ref (ad 3), .ref (ad 4), .ref (ad 5), .int (nI fn), .ref (ad 6), .ref (ad 7), .int (nI dn), .ref (ad 8), .long ex, .long ey, .long eg, .int (nI cn), .ref (ad 9), .ref (ad 10), .int (nI sn), .int at0, .int fl, .int (nI tn), .ref (ad 11), .ref (ad 12)])), (ad 1, .inl (G.2.1 2, 16, .inr (.inl px))), (ad 2, .inl (G.2.1 2, 16, .inr (.inl py))), (ad 3, .inl (G.2.1 2, 16, .inr (.inl pz))), (ad 4, .inl (G.2.1 2, 16, .inr (.inl gr))), (ad 5, .inl (G.2.1 2, 16, .inr (.inl ou))), (ad 6, .inl (G.2.1 2, 12, .inr (.inl fx))), (ad 7, .inl (G.2.1 2, 12, .inr (.inl fy))), (ad 8, .inl (G.2.1 1, 8, .inl od)), (ad 9, .inl (G.2.1 1, 12, .inl cr)), (ad 10, .inl (G.2.1 1, 200, .inl ty)), (ad 11, .inl (G.2.1 1, 48, .inl to_)), (ad 12, .inl (G.2.1 1, 48, .inl dr))]) (fun v u => ∃ b9 : Int32, bv_is b9 (sd_up fx fy a b fn) ∧ v = some (.int b9) ∧ u = [(ad 0, .inr (11, [.int cd, .int (nI pn), .ref (ad 1), .ref (ad 2), .ref (ad 3), .ref (ad 4), .ref (ad 5), .int (nI fn), .ref (ad 6), .ref (ad 7), .int (nI dn), .ref (ad 8), .long ex, .long ey, .long eg, .int (nI cn), .ref (ad 9), .ref (ad 10), .int (nI sn), .int at0, .int fl, .int (nI tn), .ref (ad 11), .ref (ad 12)])), (ad 1, .inl (G.2.1 2, 16, .inr (.inl px))), (ad 2, .inl (G.2.1 2, 16, .inr (.inl py))), (ad 3, .inl (G.2.1 2, 16, .inr (.inl pz))), (ad 4, .inl (G.2.1 2, 16, .inr (.inl gr))), (ad 5, .inl (G.2.1 2, 16, .inr (.inl ou))), (ad 6, .inl (G.2.1 2, 12, .inr (.inl fx))), (ad 7, .inl (G.2.1 2, 12, .inr (.inl fy))), (ad 8, .inl (G.2.1 1, 8, .inl od)), (ad 9, .inl (G.2.1 1, 12, .inl cr)), (ad 10, .inl (G.2.1 1, 200, .inl ty)), (ad 11, .inl (G.2.1 1, 48, .inl to_)), (ad 12, .inl (G.2.1 1, 48, .inl dr))]) := by
  refine gx_start (by decide +kernel) (Nat.le_of_ble_eq_true rfl) ?_
  intro p e s m args below meth c A ls C hr hnm hW hl
  have gX := C.x
  have gB := C.b
  have hl : lv_has ls 11 [(0, .ref (ad 0)), (1, .int (nI a)), (2, .int (nI b))] := hl
  refine lv_aload_n gX gB dX6_isSide_0 rfl (lv_at hl 0 rfl) ?_
  refine gx_get C hW fX6_25 ⟨0, rfl⟩ rfl dX6_isSide_1 ?_
  refine lv_iload_n gX gB dX6_isSide_4 rfl (lv_at hl 1 rfl) ?_
  refine gx_lald C hW ⟨6, rfl⟩ (j := a) rfl (by omega) (by decide) dX6_isSide_5 ?_
  refine lv_aload_n gX gB dX6_isSide_6 rfl (lv_at hl 0 rfl) ?_
  refine gx_get C hW fX6_25 ⟨0, rfl⟩ rfl dX6_isSide_7 ?_
  refine lv_iload_n gX gB dX6_isSide_10 rfl (lv_at hl 2 rfl) ?_
  refine gx_lald C hW ⟨6, rfl⟩ (j := b) rfl (by omega) (by decide) dX6_isSide_11 ?_
  refine gx_lc_ne (tgt := 32) C dX6_isSide_12 dX6_isSide_13 (by decide) (fun c12 => ?_) (fun c12 => ?_)
  · refine lv_iconst (v := 1) gX gB dX6_isSide_32 (by decide) ?_
    refine lv_goto (tgt := 37) gX gB dX6_isSide_33 (by decide) ?_
    refine lv_istore_n (lv' := [(3, .int 1), (0, .ref (ad 0)), (1, .int (nI a)), (2, .int (nI b))]) gX gB dX6_isSide_37 rfl hl (by decide) rfl (fun ls hl => ?_)
    refine lv_iconst (v := 0) gX gB dX6_isSide_38 (by decide) ?_
    refine lv_istore (lv' := [(4, .int 0), (3, .int 1), (0, .ref (ad 0)), (1, .int (nI a)), (2, .int (nI b))]) gX gB dX6_isSide_39 hl (by decide) rfl (fun ls hl => ?_)
    have hl : lv_has ls 11 [(4, .int (nI 0)), (3, .int 1), (0, .ref (ad 0)), (1, .int (nI a)), (2, .int (nI b))] := hl
    have loop : ∀ (fu : Nat) (i : Nat) (b9 : Int32), (fn - i < fu) → (i ≤ fn) → (bv_is b9 (sd_up fx fy a b i)) → ∀ (H : Heap) (locs : List Loc), gx_W G A s ([(ad 0, .inr (11, [.int cd, .int (nI pn), .ref (ad 1), .ref (ad 2), .ref (ad 3), .ref (ad 4), .ref (ad 5), .int (nI fn), .ref (ad 6), .ref (ad 7), .int (nI dn), .ref (ad 8), .long ex, .long ey, .long eg, .int (nI cn), .ref (ad 9), .ref (ad 10), .int (nI sn), .int at0, .int fl, .int (nI tn), .ref (ad 11), .ref (ad 12)])), (ad 1, .inl (G.2.1 2, 16, .inr (.inl px))), (ad 2, .inl (G.2.1 2, 16, .inr (.inl py))), (ad 3, .inl (G.2.1 2, 16, .inr (.inl pz))), (ad 4, .inl (G.2.1 2, 16, .inr (.inl gr))), (ad 5, .inl (G.2.1 2, 16, .inr (.inl ou))), (ad 6, .inl (G.2.1 2, 12, .inr (.inl fx))), (ad 7, .inl (G.2.1 2, 12, .inr (.inl fy))), (ad 8, .inl (G.2.1 1, 8, .inl od)), (ad 9, .inl (G.2.1 1, 12, .inl cr)), (ad 10, .inl (G.2.1 1, 200, .inl ty)), (ad 11, .inl (G.2.1 1, 48, .inl to_)), (ad 12, .inl (G.2.1 1, 48, .inl dr))]) H locs → ∀ ls : Array Slot, lv_has ls 11 [(3, .int b9), (4, .int (nI i)), (1, .int (nI a)), (2, .int (nI b)), (0, .ref (ad 0))] → W p l e ({ frames := 1, cells := 0, slots := 0, locals := 26 } : Room) s m args below meth c H locs 0 0 (MQ below (gx_Q G A (fun v u => ∃ b9 : Int32, bv_is b9 (sd_up fx fy a b fn) ∧ v = some (.int b9) ∧ u = [(ad 0, .inr (11, [.int cd, .int (nI pn), .ref (ad 1), .ref (ad 2), .ref (ad 3), .ref (ad 4), .ref (ad 5), .int (nI fn), .ref (ad 6), .ref (ad 7), .int (nI dn), .ref (ad 8), .long ex, .long ey, .long eg, .int (nI cn), .ref (ad 9), .ref (ad 10), .int (nI sn), .int at0, .int fl, .int (nI tn), .ref (ad 11), .ref (ad 12)])), (ad 1, .inl (G.2.1 2, 16, .inr (.inl px))), (ad 2, .inl (G.2.1 2, 16, .inr (.inl py))), (ad 3, .inl (G.2.1 2, 16, .inr (.inl pz))), (ad 4, .inl (G.2.1 2, 16, .inr (.inl gr))), (ad 5, .inl (G.2.1 2, 16, .inr (.inl ou))), (ad 6, .inl (G.2.1 2, 12, .inr (.inl fx))), (ad 7, .inl (G.2.1 2, 12, .inr (.inl fy))), (ad 8, .inl (G.2.1 1, 8, .inl od)), (ad 9, .inl (G.2.1 1, 12, .inl cr)), (ad 10, .inl (G.2.1 1, 200, .inl ty)), (ad 11, .inl (G.2.1 1, 48, .inl to_)), (ad 12, .inl (G.2.1 1, 48, .inl dr))])) args s (({ frames := 1, cells := 0, slots := 0, locals := 26 } : Room)).cells (({ frames := 1, cells := 0, slots := 0, locals := 26 } : Room)).slots A) (F0 m 41 ls []) := by
      intro fu
      induction fu with
      | zero => intro i b9 hfu hi hb9 H locs hW ls hl; exact absurd hfu (Nat.not_lt_zero _)
      | succ fu ih =>
        intro i b9 hfu hi hb9 H locs hW ls hl
        rcases (by rcases Nat.lt_or_ge i fn with h | h; (rcases hb9 with h2 | h2; exact Or.inr (Or.inl ⟨h, h2⟩); exact Or.inr (Or.inr ⟨h, h2⟩)); exact Or.inl h : fn ≤ i ∨ (i < fn ∧ (b9 = 1 ∧ sd_up fx fy a b i)) ∨ (i < fn ∧ (b9 = 0 ∧ ¬ sd_up fx fy a b i))) with hin | ⟨hin, hb1, hup⟩ | ⟨hin, hb1, hup⟩
        · refine lv_iload gX gB dX6_isSide_41 (lv_at hl 1 rfl) ?_
          refine lv_aload_n gX gB dX6_isSide_43 rfl (lv_at hl 4 rfl) ?_
          refine gx_get C hW fX6_68 ⟨0, rfl⟩ rfl dX6_isSide_44 ?_
          refine lv_icmp_ge (tgt := 234) gX gB dX6_isSide_47 (by decide) (fun _ => ?_) (fun h9 => absurd (show (nI fn) ≤ (nI i) from nI_le hin (by omega)) h9)
          refine lv_iload_n gX gB dX6_isSide_234 rfl (lv_at hl 0 rfl) ?_
          exact gx_zret C hr (by rcases hb9 with h9 | h9 <;> (rw [h9.1]; rfl)) hW (⟨b9, by rw [show fn = i by omega]; exact hb9, rfl, rfl⟩) (Nat.le_of_ble_eq_true rfl) (Nat.le_of_ble_eq_true rfl) dX6_isSide_235
        · refine lv_iload gX gB dX6_isSide_41 (lv_at hl 1 rfl) ?_
          refine lv_aload_n gX gB dX6_isSide_43 rfl (lv_at hl 4 rfl) ?_
          refine gx_get C hW fX6_68 ⟨0, rfl⟩ rfl dX6_isSide_44 ?_
          refine lv_icmp_ge (tgt := 234) gX gB dX6_isSide_47 (by decide) (fun h9 => absurd (show (nI fn) ≤ (nI i) from h9) (nI_ge hin (by omega))) (fun _ => ?_)
          refine lv_iload_n gX gB dX6_isSide_50 rfl (lv_at hl 0 rfl) ?_
          refine lv_if_eq (tgt := 234) gX gB dX6_isSide_51 (by decide) (fun h9 => absurd (show b9 = (0 : Int32) from h9) (by rw [hb1]; decide)) (fun _ => ?_)
          refine lv_aload_n gX gB dX6_isSide_54 rfl (lv_at hl 4 rfl) ?_
          refine lv_iload_n gX gB dX6_isSide_55 rfl (lv_at hl 2 rfl) ?_
          refine lv_iload_n gX gB dX6_isSide_56 rfl (lv_at hl 3 rfl) ?_
          refine lv_aload_n gX gB dX6_isSide_57 rfl (lv_at hl 4 rfl) ?_
          refine gx_get C hW fX6_25 ⟨0, rfl⟩ rfl dX6_isSide_58 ?_
          refine lv_iload gX gB dX6_isSide_61 (lv_at hl 1 rfl) ?_
          refine gx_lald C hW ⟨6, rfl⟩ (j := i) rfl (by omega) (by decide) dX6_isSide_63 ?_
          refine lv_aload_n gX gB dX6_isSide_64 rfl (lv_at hl 4 rfl) ?_
          refine gx_get C hW fX6_28 ⟨0, rfl⟩ rfl dX6_isSide_65 ?_
          refine lv_iload gX gB dX6_isSide_68 (lv_at hl 1 rfl) ?_
          refine gx_lald C hW ⟨7, rfl⟩ (j := i) rfl (by omega) (by decide) dX6_isSide_70 ?_
          refine gx_callV (wr := []) (rest := []) C hW sX6_87 (kX6_turn l G ad cd pn fn dn cn sn tn ex ey eg at0 fl px py pz gr ou fx fy od cr ty to_ dr a b (fx i) (fy i) ha hb) ⟨0, rfl⟩ rfl rfl ⟨(Nat.le_of_ble_eq_true rfl), (Nat.le_of_ble_eq_true rfl)⟩ hl.1 rfl (Nat.le_of_ble_eq_true rfl) dX6_isSide_71 ⟨(Nat.le_of_ble_eq_true rfl), (Nat.le_of_ble_eq_true rfl)⟩ (fun v9 u9 H locs hp hW => ?_)
          obtain ⟨rfl, hu⟩ := hp
          rw [hu] at hW
          have hW : gx_W G A s ([(ad 0, .inr (11, [.int cd, .int (nI pn), .ref (ad 1), .ref (ad 2), .ref (ad 3), .ref (ad 4), .ref (ad 5), .int (nI fn), .ref (ad 6), .ref (ad 7), .int (nI dn), .ref (ad 8), .long ex, .long ey, .long eg, .int (nI cn), .ref (ad 9), .ref (ad 10), .int (nI sn), .int at0, .int fl, .int (nI tn), .ref (ad 11), .ref (ad 12)])), (ad 1, .inl (G.2.1 2, 16, .inr (.inl px))), (ad 2, .inl (G.2.1 2, 16, .inr (.inl py))), (ad 3, .inl (G.2.1 2, 16, .inr (.inl pz))), (ad 4, .inl (G.2.1 2, 16, .inr (.inl gr))), (ad 5, .inl (G.2.1 2, 16, .inr (.inl ou))), (ad 6, .inl (G.2.1 2, 12, .inr (.inl fx))), (ad 7, .inl (G.2.1 2, 12, .inr (.inl fy))), (ad 8, .inl (G.2.1 1, 8, .inl od)), (ad 9, .inl (G.2.1 1, 12, .inl cr)), (ad 10, .inl (G.2.1 1, 200, .inl ty)), (ad 11, .inl (G.2.1 1, 48, .inl to_)), (ad 12, .inl (G.2.1 1, 48, .inl dr))]) H locs := hW
          refine W.eq (g2 := F0 m 74 ls [.long (sd_t fx fy a b i)]) rfl ?_
          refine W.widen (k := 0) (n := 0) (Nat.le_of_ble_eq_true rfl) (Nat.le_of_ble_eq_true rfl) ?_
          refine lv_lstore (lv' := [(5, .long (sd_t fx fy a b i)), (3, .int b9), (4, .int (nI i)), (1, .int (nI a)), (2, .int (nI b)), (0, .ref (ad 0))]) gX gB dX6_isSide_74 hl (by decide) rfl (fun ls hl => ?_)
          refine lv_aload_n gX gB dX6_isSide_76 rfl (lv_at hl 5 rfl) ?_
          refine gx_get C hW fX6_25 ⟨0, rfl⟩ rfl dX6_isSide_77 ?_
          refine lv_iload gX gB dX6_isSide_80 (lv_at hl 2 rfl) ?_
          refine gx_lald C hW ⟨6, rfl⟩ (j := i) rfl (by omega) (by decide) dX6_isSide_82 ?_
          refine lv_aload_n gX gB dX6_isSide_83 rfl (lv_at hl 5 rfl) ?_
          refine gx_get C hW fX6_25 ⟨0, rfl⟩ rfl dX6_isSide_84 ?_
          refine lv_iload_n gX gB dX6_isSide_87 rfl (lv_at hl 3 rfl) ?_
          refine gx_lald C hW ⟨6, rfl⟩ (j := a) rfl (by omega) (by decide) dX6_isSide_88 ?_
          refine lv_lsub gX gB dX6_isSide_89 ?_
          refine lv_aload_n gX gB dX6_isSide_90 rfl (lv_at hl 5 rfl) ?_
          refine gx_get C hW fX6_25 ⟨0, rfl⟩ rfl dX6_isSide_91 ?_
          refine lv_iload_n gX gB dX6_isSide_94 rfl (lv_at hl 4 rfl) ?_
          refine gx_lald C hW ⟨6, rfl⟩ (j := b) rfl (by omega) (by decide) dX6_isSide_95 ?_
          refine lv_aload_n gX gB dX6_isSide_96 rfl (lv_at hl 5 rfl) ?_
          refine gx_get C hW fX6_25 ⟨0, rfl⟩ rfl dX6_isSide_97 ?_
          refine lv_iload_n gX gB dX6_isSide_100 rfl (lv_at hl 3 rfl) ?_
          refine gx_lald C hW ⟨6, rfl⟩ (j := a) rfl (by omega) (by decide) dX6_isSide_101 ?_
          refine lv_lsub gX gB dX6_isSide_102 ?_
          refine lv_lmul gX gB dX6_isSide_103 ?_
          refine lv_aload_n gX gB dX6_isSide_104 rfl (lv_at hl 5 rfl) ?_
          refine gx_get C hW fX6_28 ⟨0, rfl⟩ rfl dX6_isSide_105 ?_
          refine lv_iload gX gB dX6_isSide_108 (lv_at hl 2 rfl) ?_
          refine gx_lald C hW ⟨7, rfl⟩ (j := i) rfl (by omega) (by decide) dX6_isSide_110 ?_
          refine lv_aload_n gX gB dX6_isSide_111 rfl (lv_at hl 5 rfl) ?_
          refine gx_get C hW fX6_28 ⟨0, rfl⟩ rfl dX6_isSide_112 ?_
          refine lv_iload_n gX gB dX6_isSide_115 rfl (lv_at hl 3 rfl) ?_
          refine gx_lald C hW ⟨7, rfl⟩ (j := a) rfl (by omega) (by decide) dX6_isSide_116 ?_
          refine lv_lsub gX gB dX6_isSide_117 ?_
          refine lv_aload_n gX gB dX6_isSide_118 rfl (lv_at hl 5 rfl) ?_
          refine gx_get C hW fX6_28 ⟨0, rfl⟩ rfl dX6_isSide_119 ?_
          refine lv_iload_n gX gB dX6_isSide_122 rfl (lv_at hl 4 rfl) ?_
          refine gx_lald C hW ⟨7, rfl⟩ (j := b) rfl (by omega) (by decide) dX6_isSide_123 ?_
          refine lv_aload_n gX gB dX6_isSide_124 rfl (lv_at hl 5 rfl) ?_
          refine gx_get C hW fX6_28 ⟨0, rfl⟩ rfl dX6_isSide_125 ?_
          refine lv_iload_n gX gB dX6_isSide_128 rfl (lv_at hl 3 rfl) ?_
          refine gx_lald C hW ⟨7, rfl⟩ (j := a) rfl (by omega) (by decide) dX6_isSide_129 ?_
          refine lv_lsub gX gB dX6_isSide_130 ?_
          refine lv_lmul gX gB dX6_isSide_131 ?_
          refine lv_ladd gX gB dX6_isSide_132 ?_
          refine lv_lstore (lv' := [(7, .long ((((fx i) - (fx a)) * ((fx b) - (fx a))) + (((fy i) - (fy a)) * ((fy b) - (fy a))))), (5, .long (sd_t fx fy a b i)), (3, .int b9), (4, .int (nI i)), (1, .int (nI a)), (2, .int (nI b)), (0, .ref (ad 0))]) gX gB dX6_isSide_133 hl (by decide) rfl (fun ls hl => ?_)
          refine lv_aload_n gX gB dX6_isSide_135 rfl (lv_at hl 6 rfl) ?_
          refine gx_get C hW fX6_25 ⟨0, rfl⟩ rfl dX6_isSide_136 ?_
          refine lv_iload gX gB dX6_isSide_139 (lv_at hl 3 rfl) ?_
          refine gx_lald C hW ⟨6, rfl⟩ (j := i) rfl (by omega) (by decide) dX6_isSide_141 ?_
          refine lv_aload_n gX gB dX6_isSide_142 rfl (lv_at hl 6 rfl) ?_
          refine gx_get C hW fX6_25 ⟨0, rfl⟩ rfl dX6_isSide_143 ?_
          refine lv_iload_n gX gB dX6_isSide_146 rfl (lv_at hl 5 rfl) ?_
          refine gx_lald C hW ⟨6, rfl⟩ (j := b) rfl (by omega) (by decide) dX6_isSide_147 ?_
          refine lv_lsub gX gB dX6_isSide_148 ?_
          refine lv_aload_n gX gB dX6_isSide_149 rfl (lv_at hl 6 rfl) ?_
          refine gx_get C hW fX6_25 ⟨0, rfl⟩ rfl dX6_isSide_150 ?_
          refine lv_iload_n gX gB dX6_isSide_153 rfl (lv_at hl 4 rfl) ?_
          refine gx_lald C hW ⟨6, rfl⟩ (j := a) rfl (by omega) (by decide) dX6_isSide_154 ?_
          refine lv_aload_n gX gB dX6_isSide_155 rfl (lv_at hl 6 rfl) ?_
          refine gx_get C hW fX6_25 ⟨0, rfl⟩ rfl dX6_isSide_156 ?_
          refine lv_iload_n gX gB dX6_isSide_159 rfl (lv_at hl 5 rfl) ?_
          refine gx_lald C hW ⟨6, rfl⟩ (j := b) rfl (by omega) (by decide) dX6_isSide_160 ?_
          refine lv_lsub gX gB dX6_isSide_161 ?_
          refine lv_lmul gX gB dX6_isSide_162 ?_
          refine lv_aload_n gX gB dX6_isSide_163 rfl (lv_at hl 6 rfl) ?_
          refine gx_get C hW fX6_28 ⟨0, rfl⟩ rfl dX6_isSide_164 ?_
          refine lv_iload gX gB dX6_isSide_167 (lv_at hl 3 rfl) ?_
          refine gx_lald C hW ⟨7, rfl⟩ (j := i) rfl (by omega) (by decide) dX6_isSide_169 ?_
          refine lv_aload_n gX gB dX6_isSide_170 rfl (lv_at hl 6 rfl) ?_
          refine gx_get C hW fX6_28 ⟨0, rfl⟩ rfl dX6_isSide_171 ?_
          refine lv_iload_n gX gB dX6_isSide_174 rfl (lv_at hl 5 rfl) ?_
          refine gx_lald C hW ⟨7, rfl⟩ (j := b) rfl (by omega) (by decide) dX6_isSide_175 ?_
          refine lv_lsub gX gB dX6_isSide_176 ?_
          refine lv_aload_n gX gB dX6_isSide_177 rfl (lv_at hl 6 rfl) ?_
          refine gx_get C hW fX6_28 ⟨0, rfl⟩ rfl dX6_isSide_178 ?_
          refine lv_iload_n gX gB dX6_isSide_181 rfl (lv_at hl 4 rfl) ?_
          refine gx_lald C hW ⟨7, rfl⟩ (j := a) rfl (by omega) (by decide) dX6_isSide_182 ?_
          refine lv_aload_n gX gB dX6_isSide_183 rfl (lv_at hl 6 rfl) ?_
          refine gx_get C hW fX6_28 ⟨0, rfl⟩ rfl dX6_isSide_184 ?_
          refine lv_iload_n gX gB dX6_isSide_187 rfl (lv_at hl 5 rfl) ?_
          refine gx_lald C hW ⟨7, rfl⟩ (j := b) rfl (by omega) (by decide) dX6_isSide_188 ?_
          refine lv_lsub gX gB dX6_isSide_189 ?_
          refine lv_lmul gX gB dX6_isSide_190 ?_
          refine lv_ladd gX gB dX6_isSide_191 ?_
          refine lv_lstore (lv' := [(9, .long ((((fx i) - (fx b)) * ((fx a) - (fx b))) + (((fy i) - (fy b)) * ((fy a) - (fy b))))), (7, .long ((((fx i) - (fx a)) * ((fx b) - (fx a))) + (((fy i) - (fy a)) * ((fy b) - (fy a))))), (5, .long (sd_t fx fy a b i)), (3, .int b9), (4, .int (nI i)), (1, .int (nI a)), (2, .int (nI b)), (0, .ref (ad 0))]) gX gB dX6_isSide_192 hl (by decide) rfl (fun ls hl => ?_)
          refine lv_lload gX gB dX6_isSide_194 (lv_at hl 2 rfl) ?_
          refine lv_lconst (v := 0) gX gB dX6_isSide_196 (by decide) ?_
          refine gx_lc_gt (tgt := 222) C dX6_isSide_197 dX6_isSide_198 (by decide) (fun c197 => ?_) (fun c197 => ?_)
          · refine lv_iconst (v := 1) gX gB dX6_isSide_222 (by decide) ?_
            refine lv_goto (tgt := 227) gX gB dX6_isSide_223 (by decide) ?_
            refine lv_istore_n (lv' := [(3, .int 1), (9, .long ((((fx i) - (fx b)) * ((fx a) - (fx b))) + (((fy i) - (fy b)) * ((fy a) - (fy b))))), (7, .long ((((fx i) - (fx a)) * ((fx b) - (fx a))) + (((fy i) - (fy a)) * ((fy b) - (fy a))))), (5, .long (sd_t fx fy a b i)), (4, .int (nI i)), (1, .int (nI a)), (2, .int (nI b)), (0, .ref (ad 0))]) gX gB dX6_isSide_227 rfl hl (by decide) rfl (fun ls hl => ?_)
            refine lv_iinc (v := nI (i + 1)) (lv' := [(4, .int (nI (i + 1))), (3, .int 1), (9, .long ((((fx i) - (fx b)) * ((fx a) - (fx b))) + (((fy i) - (fy b)) * ((fy a) - (fy b))))), (7, .long ((((fx i) - (fx a)) * ((fx b) - (fx a))) + (((fy i) - (fy a)) * ((fy b) - (fy a))))), (5, .long (sd_t fx fy a b i)), (1, .int (nI a)), (2, .int (nI b)), (0, .ref (ad 0))]) gX gB dX6_isSide_228 hl (k := 4) rfl (by exact nI_1 i) (by decide) rfl (fun ls hl => ?_)
            refine lv_goto (tgt := 41) gX gB dX6_isSide_231 (by decide) ?_
            exact ih (i + 1) 1 (by omega) (by omega) (Or.inl ⟨rfl, sd_up1 hup (Or.inl c197)⟩) _ _ hW ls (lv_sub hl [1, 0, 5, 6, 7] rfl)
          · refine lv_lload gX gB dX6_isSide_201 (lv_at hl 2 rfl) ?_
            refine lv_lconst (v := 0) gX gB dX6_isSide_203 (by decide) ?_
            refine gx_lc_ne (tgt := 226) C dX6_isSide_204 dX6_isSide_205 (by decide) (fun c204 => ?_) (fun c204 => ?_)
            · refine lv_iconst (v := 0) gX gB dX6_isSide_226 (by decide) ?_
              refine lv_istore_n (lv' := [(3, .int 0), (9, .long ((((fx i) - (fx b)) * ((fx a) - (fx b))) + (((fy i) - (fy b)) * ((fy a) - (fy b))))), (7, .long ((((fx i) - (fx a)) * ((fx b) - (fx a))) + (((fy i) - (fy a)) * ((fy b) - (fy a))))), (5, .long (sd_t fx fy a b i)), (4, .int (nI i)), (1, .int (nI a)), (2, .int (nI b)), (0, .ref (ad 0))]) gX gB dX6_isSide_227 rfl hl (by decide) rfl (fun ls hl => ?_)
              refine lv_iinc (v := nI (i + 1)) (lv' := [(4, .int (nI (i + 1))), (3, .int 0), (9, .long ((((fx i) - (fx b)) * ((fx a) - (fx b))) + (((fy i) - (fy b)) * ((fy a) - (fy b))))), (7, .long ((((fx i) - (fx a)) * ((fx b) - (fx a))) + (((fy i) - (fy a)) * ((fy b) - (fy a))))), (5, .long (sd_t fx fy a b i)), (1, .int (nI a)), (2, .int (nI b)), (0, .ref (ad 0))]) gX gB dX6_isSide_228 hl (k := 4) rfl (by exact nI_1 i) (by decide) rfl (fun ls hl => ?_)
              refine lv_goto (tgt := 41) gX gB dX6_isSide_231 (by decide) ?_
              exact ih (i + 1) 0 (by omega) (by omega) (Or.inr ⟨rfl, fun zz => absurd (zz.2 i (Nat.lt_succ_self i)) (fun z2 => z2.elim (fun z3 => absurd z3 c197) (fun z3 => c204 z3.1))⟩) _ _ hW ls (lv_sub hl [1, 0, 5, 6, 7] rfl)
            · refine lv_lload gX gB dX6_isSide_208 (lv_at hl 1 rfl) ?_
              refine lv_lconst (v := 0) gX gB dX6_isSide_210 (by decide) ?_
              refine gx_lc_lt (tgt := 226) C dX6_isSide_211 dX6_isSide_212 (by decide) (fun c211 => ?_) (fun c211 => ?_)
              · refine lv_iconst (v := 0) gX gB dX6_isSide_226 (by decide) ?_
                refine lv_istore_n (lv' := [(3, .int 0), (9, .long ((((fx i) - (fx b)) * ((fx a) - (fx b))) + (((fy i) - (fy b)) * ((fy a) - (fy b))))), (7, .long ((((fx i) - (fx a)) * ((fx b) - (fx a))) + (((fy i) - (fy a)) * ((fy b) - (fy a))))), (5, .long (sd_t fx fy a b i)), (4, .int (nI i)), (1, .int (nI a)), (2, .int (nI b)), (0, .ref (ad 0))]) gX gB dX6_isSide_227 rfl hl (by decide) rfl (fun ls hl => ?_)
                refine lv_iinc (v := nI (i + 1)) (lv' := [(4, .int (nI (i + 1))), (3, .int 0), (9, .long ((((fx i) - (fx b)) * ((fx a) - (fx b))) + (((fy i) - (fy b)) * ((fy a) - (fy b))))), (7, .long ((((fx i) - (fx a)) * ((fx b) - (fx a))) + (((fy i) - (fy a)) * ((fy b) - (fy a))))), (5, .long (sd_t fx fy a b i)), (1, .int (nI a)), (2, .int (nI b)), (0, .ref (ad 0))]) gX gB dX6_isSide_228 hl (k := 4) rfl (by exact nI_1 i) (by decide) rfl (fun ls hl => ?_)
                refine lv_goto (tgt := 41) gX gB dX6_isSide_231 (by decide) ?_
                exact ih (i + 1) 0 (by omega) (by omega) (Or.inr ⟨rfl, fun zz => absurd (zz.2 i (Nat.lt_succ_self i)) (fun z2 => z2.elim (fun z3 => absurd z3 c197) (fun z3 => z3.2.1 c211))⟩) _ _ hW ls (lv_sub hl [1, 0, 5, 6, 7] rfl)
              · refine lv_lload gX gB dX6_isSide_215 (lv_at hl 0 rfl) ?_
                refine lv_lconst (v := 0) gX gB dX6_isSide_217 (by decide) ?_
                refine gx_lc_lt (tgt := 226) C dX6_isSide_218 dX6_isSide_219 (by decide) (fun c218 => ?_) (fun c218 => ?_)
                · refine lv_iconst (v := 0) gX gB dX6_isSide_226 (by decide) ?_
                  refine lv_istore_n (lv' := [(3, .int 0), (9, .long ((((fx i) - (fx b)) * ((fx a) - (fx b))) + (((fy i) - (fy b)) * ((fy a) - (fy b))))), (7, .long ((((fx i) - (fx a)) * ((fx b) - (fx a))) + (((fy i) - (fy a)) * ((fy b) - (fy a))))), (5, .long (sd_t fx fy a b i)), (4, .int (nI i)), (1, .int (nI a)), (2, .int (nI b)), (0, .ref (ad 0))]) gX gB dX6_isSide_227 rfl hl (by decide) rfl (fun ls hl => ?_)
                  refine lv_iinc (v := nI (i + 1)) (lv' := [(4, .int (nI (i + 1))), (3, .int 0), (9, .long ((((fx i) - (fx b)) * ((fx a) - (fx b))) + (((fy i) - (fy b)) * ((fy a) - (fy b))))), (7, .long ((((fx i) - (fx a)) * ((fx b) - (fx a))) + (((fy i) - (fy a)) * ((fy b) - (fy a))))), (5, .long (sd_t fx fy a b i)), (1, .int (nI a)), (2, .int (nI b)), (0, .ref (ad 0))]) gX gB dX6_isSide_228 hl (k := 4) rfl (by exact nI_1 i) (by decide) rfl (fun ls hl => ?_)
                  refine lv_goto (tgt := 41) gX gB dX6_isSide_231 (by decide) ?_
                  exact ih (i + 1) 0 (by omega) (by omega) (Or.inr ⟨rfl, fun zz => absurd (zz.2 i (Nat.lt_succ_self i)) (fun z2 => z2.elim (fun z3 => absurd z3 c197) (fun z3 => z3.2.2 c218))⟩) _ _ hW ls (lv_sub hl [1, 0, 5, 6, 7] rfl)
                · refine lv_iconst (v := 1) gX gB dX6_isSide_222 (by decide) ?_
                  refine lv_goto (tgt := 227) gX gB dX6_isSide_223 (by decide) ?_
                  refine lv_istore_n (lv' := [(3, .int 1), (9, .long ((((fx i) - (fx b)) * ((fx a) - (fx b))) + (((fy i) - (fy b)) * ((fy a) - (fy b))))), (7, .long ((((fx i) - (fx a)) * ((fx b) - (fx a))) + (((fy i) - (fy a)) * ((fy b) - (fy a))))), (5, .long (sd_t fx fy a b i)), (4, .int (nI i)), (1, .int (nI a)), (2, .int (nI b)), (0, .ref (ad 0))]) gX gB dX6_isSide_227 rfl hl (by decide) rfl (fun ls hl => ?_)
                  refine lv_iinc (v := nI (i + 1)) (lv' := [(4, .int (nI (i + 1))), (3, .int 1), (9, .long ((((fx i) - (fx b)) * ((fx a) - (fx b))) + (((fy i) - (fy b)) * ((fy a) - (fy b))))), (7, .long ((((fx i) - (fx a)) * ((fx b) - (fx a))) + (((fy i) - (fy a)) * ((fy b) - (fy a))))), (5, .long (sd_t fx fy a b i)), (1, .int (nI a)), (2, .int (nI b)), (0, .ref (ad 0))]) gX gB dX6_isSide_228 hl (k := 4) rfl (by exact nI_1 i) (by decide) rfl (fun ls hl => ?_)
                  refine lv_goto (tgt := 41) gX gB dX6_isSide_231 (by decide) ?_
                  exact ih (i + 1) 1 (by omega) (by omega) (Or.inl ⟨rfl, sd_up1 hup (Or.inr ⟨c204, c211, c218⟩)⟩) _ _ hW ls (lv_sub hl [1, 0, 5, 6, 7] rfl)
        · refine lv_iload gX gB dX6_isSide_41 (lv_at hl 1 rfl) ?_
          refine lv_aload_n gX gB dX6_isSide_43 rfl (lv_at hl 4 rfl) ?_
          refine gx_get C hW fX6_68 ⟨0, rfl⟩ rfl dX6_isSide_44 ?_
          refine lv_icmp_ge (tgt := 234) gX gB dX6_isSide_47 (by decide) (fun h9 => absurd (show (nI fn) ≤ (nI i) from h9) (nI_ge hin (by omega))) (fun _ => ?_)
          refine lv_iload_n gX gB dX6_isSide_50 rfl (lv_at hl 0 rfl) ?_
          refine lv_if_eq (tgt := 234) gX gB dX6_isSide_51 (by decide) (fun _ => ?_) (fun h9 => absurd (show b9 = (0 : Int32) from hb1) h9)
          refine lv_iload_n gX gB dX6_isSide_234 rfl (lv_at hl 0 rfl) ?_
          exact gx_zret C hr (by rcases hb9 with h9 | h9 <;> (rw [h9.1]; rfl)) hW (⟨b9, Or.inr ⟨hb1, sd_up0 hup (by omega)⟩, rfl, rfl⟩) (Nat.le_of_ble_eq_true rfl) (Nat.le_of_ble_eq_true rfl) dX6_isSide_235
    exact loop (fn + 1) 0 1 (by omega) (Nat.zero_le _) (Or.inl ⟨rfl, Or.inl c12, fun _ h => absurd h (Nat.not_lt_zero _)⟩) _ _ hW ls (lv_sub hl [1, 0, 3, 4, 2] rfl)
  · refine lv_aload_n gX gB dX6_isSide_16 rfl (lv_at hl 0 rfl) ?_
    refine gx_get C hW fX6_28 ⟨0, rfl⟩ rfl dX6_isSide_17 ?_
    refine lv_iload_n gX gB dX6_isSide_20 rfl (lv_at hl 1 rfl) ?_
    refine gx_lald C hW ⟨7, rfl⟩ (j := a) rfl (by omega) (by decide) dX6_isSide_21 ?_
    refine lv_aload_n gX gB dX6_isSide_22 rfl (lv_at hl 0 rfl) ?_
    refine gx_get C hW fX6_28 ⟨0, rfl⟩ rfl dX6_isSide_23 ?_
    refine lv_iload_n gX gB dX6_isSide_26 rfl (lv_at hl 2 rfl) ?_
    refine gx_lald C hW ⟨7, rfl⟩ (j := b) rfl (by omega) (by decide) dX6_isSide_27 ?_
    refine gx_lc_eq (tgt := 36) C dX6_isSide_28 dX6_isSide_29 (by decide) (fun c28 => ?_) (fun c28 => ?_)
    · refine lv_iconst (v := 0) gX gB dX6_isSide_36 (by decide) ?_
      refine lv_istore_n (lv' := [(3, .int 0), (0, .ref (ad 0)), (1, .int (nI a)), (2, .int (nI b))]) gX gB dX6_isSide_37 rfl hl (by decide) rfl (fun ls hl => ?_)
      refine lv_iconst (v := 0) gX gB dX6_isSide_38 (by decide) ?_
      refine lv_istore (lv' := [(4, .int 0), (3, .int 0), (0, .ref (ad 0)), (1, .int (nI a)), (2, .int (nI b))]) gX gB dX6_isSide_39 hl (by decide) rfl (fun ls hl => ?_)
      have hl : lv_has ls 11 [(4, .int (nI 0)), (3, .int 0), (0, .ref (ad 0)), (1, .int (nI a)), (2, .int (nI b))] := hl
      have loop : ∀ (fu : Nat) (i : Nat) (b9 : Int32), (fn - i < fu) → (i ≤ fn) → (bv_is b9 (sd_up fx fy a b i)) → ∀ (H : Heap) (locs : List Loc), gx_W G A s ([(ad 0, .inr (11, [.int cd, .int (nI pn), .ref (ad 1), .ref (ad 2), .ref (ad 3), .ref (ad 4), .ref (ad 5), .int (nI fn), .ref (ad 6), .ref (ad 7), .int (nI dn), .ref (ad 8), .long ex, .long ey, .long eg, .int (nI cn), .ref (ad 9), .ref (ad 10), .int (nI sn), .int at0, .int fl, .int (nI tn), .ref (ad 11), .ref (ad 12)])), (ad 1, .inl (G.2.1 2, 16, .inr (.inl px))), (ad 2, .inl (G.2.1 2, 16, .inr (.inl py))), (ad 3, .inl (G.2.1 2, 16, .inr (.inl pz))), (ad 4, .inl (G.2.1 2, 16, .inr (.inl gr))), (ad 5, .inl (G.2.1 2, 16, .inr (.inl ou))), (ad 6, .inl (G.2.1 2, 12, .inr (.inl fx))), (ad 7, .inl (G.2.1 2, 12, .inr (.inl fy))), (ad 8, .inl (G.2.1 1, 8, .inl od)), (ad 9, .inl (G.2.1 1, 12, .inl cr)), (ad 10, .inl (G.2.1 1, 200, .inl ty)), (ad 11, .inl (G.2.1 1, 48, .inl to_)), (ad 12, .inl (G.2.1 1, 48, .inl dr))]) H locs → ∀ ls : Array Slot, lv_has ls 11 [(3, .int b9), (4, .int (nI i)), (1, .int (nI a)), (2, .int (nI b)), (0, .ref (ad 0))] → W p l e ({ frames := 1, cells := 0, slots := 0, locals := 26 } : Room) s m args below meth c H locs 0 0 (MQ below (gx_Q G A (fun v u => ∃ b9 : Int32, bv_is b9 (sd_up fx fy a b fn) ∧ v = some (.int b9) ∧ u = [(ad 0, .inr (11, [.int cd, .int (nI pn), .ref (ad 1), .ref (ad 2), .ref (ad 3), .ref (ad 4), .ref (ad 5), .int (nI fn), .ref (ad 6), .ref (ad 7), .int (nI dn), .ref (ad 8), .long ex, .long ey, .long eg, .int (nI cn), .ref (ad 9), .ref (ad 10), .int (nI sn), .int at0, .int fl, .int (nI tn), .ref (ad 11), .ref (ad 12)])), (ad 1, .inl (G.2.1 2, 16, .inr (.inl px))), (ad 2, .inl (G.2.1 2, 16, .inr (.inl py))), (ad 3, .inl (G.2.1 2, 16, .inr (.inl pz))), (ad 4, .inl (G.2.1 2, 16, .inr (.inl gr))), (ad 5, .inl (G.2.1 2, 16, .inr (.inl ou))), (ad 6, .inl (G.2.1 2, 12, .inr (.inl fx))), (ad 7, .inl (G.2.1 2, 12, .inr (.inl fy))), (ad 8, .inl (G.2.1 1, 8, .inl od)), (ad 9, .inl (G.2.1 1, 12, .inl cr)), (ad 10, .inl (G.2.1 1, 200, .inl ty)), (ad 11, .inl (G.2.1 1, 48, .inl to_)), (ad 12, .inl (G.2.1 1, 48, .inl dr))])) args s (({ frames := 1, cells := 0, slots := 0, locals := 26 } : Room)).cells (({ frames := 1, cells := 0, slots := 0, locals := 26 } : Room)).slots A) (F0 m 41 ls []) := by
        intro fu
        induction fu with
        | zero => intro i b9 hfu hi hb9 H locs hW ls hl; exact absurd hfu (Nat.not_lt_zero _)
        | succ fu ih =>
          intro i b9 hfu hi hb9 H locs hW ls hl
          rcases (by rcases Nat.lt_or_ge i fn with h | h; (rcases hb9 with h2 | h2; exact Or.inr (Or.inl ⟨h, h2⟩); exact Or.inr (Or.inr ⟨h, h2⟩)); exact Or.inl h : fn ≤ i ∨ (i < fn ∧ (b9 = 1 ∧ sd_up fx fy a b i)) ∨ (i < fn ∧ (b9 = 0 ∧ ¬ sd_up fx fy a b i))) with hin | ⟨hin, hb1, hup⟩ | ⟨hin, hb1, hup⟩
          · refine lv_iload gX gB dX6_isSide_41 (lv_at hl 1 rfl) ?_
            refine lv_aload_n gX gB dX6_isSide_43 rfl (lv_at hl 4 rfl) ?_
            refine gx_get C hW fX6_68 ⟨0, rfl⟩ rfl dX6_isSide_44 ?_
            refine lv_icmp_ge (tgt := 234) gX gB dX6_isSide_47 (by decide) (fun _ => ?_) (fun h9 => absurd (show (nI fn) ≤ (nI i) from nI_le hin (by omega)) h9)
            refine lv_iload_n gX gB dX6_isSide_234 rfl (lv_at hl 0 rfl) ?_
            exact gx_zret C hr (by rcases hb9 with h9 | h9 <;> (rw [h9.1]; rfl)) hW (⟨b9, by rw [show fn = i by omega]; exact hb9, rfl, rfl⟩) (Nat.le_of_ble_eq_true rfl) (Nat.le_of_ble_eq_true rfl) dX6_isSide_235
          · refine lv_iload gX gB dX6_isSide_41 (lv_at hl 1 rfl) ?_
            refine lv_aload_n gX gB dX6_isSide_43 rfl (lv_at hl 4 rfl) ?_
            refine gx_get C hW fX6_68 ⟨0, rfl⟩ rfl dX6_isSide_44 ?_
            refine lv_icmp_ge (tgt := 234) gX gB dX6_isSide_47 (by decide) (fun h9 => absurd (show (nI fn) ≤ (nI i) from h9) (nI_ge hin (by omega))) (fun _ => ?_)
            refine lv_iload_n gX gB dX6_isSide_50 rfl (lv_at hl 0 rfl) ?_
            refine lv_if_eq (tgt := 234) gX gB dX6_isSide_51 (by decide) (fun h9 => absurd (show b9 = (0 : Int32) from h9) (by rw [hb1]; decide)) (fun _ => ?_)
            refine lv_aload_n gX gB dX6_isSide_54 rfl (lv_at hl 4 rfl) ?_
            refine lv_iload_n gX gB dX6_isSide_55 rfl (lv_at hl 2 rfl) ?_
            refine lv_iload_n gX gB dX6_isSide_56 rfl (lv_at hl 3 rfl) ?_
            refine lv_aload_n gX gB dX6_isSide_57 rfl (lv_at hl 4 rfl) ?_
            refine gx_get C hW fX6_25 ⟨0, rfl⟩ rfl dX6_isSide_58 ?_
            refine lv_iload gX gB dX6_isSide_61 (lv_at hl 1 rfl) ?_
            refine gx_lald C hW ⟨6, rfl⟩ (j := i) rfl (by omega) (by decide) dX6_isSide_63 ?_
            refine lv_aload_n gX gB dX6_isSide_64 rfl (lv_at hl 4 rfl) ?_
            refine gx_get C hW fX6_28 ⟨0, rfl⟩ rfl dX6_isSide_65 ?_
            refine lv_iload gX gB dX6_isSide_68 (lv_at hl 1 rfl) ?_
            refine gx_lald C hW ⟨7, rfl⟩ (j := i) rfl (by omega) (by decide) dX6_isSide_70 ?_
            refine gx_callV (wr := []) (rest := []) C hW sX6_87 (kX6_turn l G ad cd pn fn dn cn sn tn ex ey eg at0 fl px py pz gr ou fx fy od cr ty to_ dr a b (fx i) (fy i) ha hb) ⟨0, rfl⟩ rfl rfl ⟨(Nat.le_of_ble_eq_true rfl), (Nat.le_of_ble_eq_true rfl)⟩ hl.1 rfl (Nat.le_of_ble_eq_true rfl) dX6_isSide_71 ⟨(Nat.le_of_ble_eq_true rfl), (Nat.le_of_ble_eq_true rfl)⟩ (fun v9 u9 H locs hp hW => ?_)
            obtain ⟨rfl, hu⟩ := hp
            rw [hu] at hW
            have hW : gx_W G A s ([(ad 0, .inr (11, [.int cd, .int (nI pn), .ref (ad 1), .ref (ad 2), .ref (ad 3), .ref (ad 4), .ref (ad 5), .int (nI fn), .ref (ad 6), .ref (ad 7), .int (nI dn), .ref (ad 8), .long ex, .long ey, .long eg, .int (nI cn), .ref (ad 9), .ref (ad 10), .int (nI sn), .int at0, .int fl, .int (nI tn), .ref (ad 11), .ref (ad 12)])), (ad 1, .inl (G.2.1 2, 16, .inr (.inl px))), (ad 2, .inl (G.2.1 2, 16, .inr (.inl py))), (ad 3, .inl (G.2.1 2, 16, .inr (.inl pz))), (ad 4, .inl (G.2.1 2, 16, .inr (.inl gr))), (ad 5, .inl (G.2.1 2, 16, .inr (.inl ou))), (ad 6, .inl (G.2.1 2, 12, .inr (.inl fx))), (ad 7, .inl (G.2.1 2, 12, .inr (.inl fy))), (ad 8, .inl (G.2.1 1, 8, .inl od)), (ad 9, .inl (G.2.1 1, 12, .inl cr)), (ad 10, .inl (G.2.1 1, 200, .inl ty)), (ad 11, .inl (G.2.1 1, 48, .inl to_)), (ad 12, .inl (G.2.1 1, 48, .inl dr))]) H locs := hW
            refine W.eq (g2 := F0 m 74 ls [.long (sd_t fx fy a b i)]) rfl ?_
            refine W.widen (k := 0) (n := 0) (Nat.le_of_ble_eq_true rfl) (Nat.le_of_ble_eq_true rfl) ?_
            refine lv_lstore (lv' := [(5, .long (sd_t fx fy a b i)), (3, .int b9), (4, .int (nI i)), (1, .int (nI a)), (2, .int (nI b)), (0, .ref (ad 0))]) gX gB dX6_isSide_74 hl (by decide) rfl (fun ls hl => ?_)
            refine lv_aload_n gX gB dX6_isSide_76 rfl (lv_at hl 5 rfl) ?_
            refine gx_get C hW fX6_25 ⟨0, rfl⟩ rfl dX6_isSide_77 ?_
            refine lv_iload gX gB dX6_isSide_80 (lv_at hl 2 rfl) ?_
            refine gx_lald C hW ⟨6, rfl⟩ (j := i) rfl (by omega) (by decide) dX6_isSide_82 ?_
            refine lv_aload_n gX gB dX6_isSide_83 rfl (lv_at hl 5 rfl) ?_
            refine gx_get C hW fX6_25 ⟨0, rfl⟩ rfl dX6_isSide_84 ?_
            refine lv_iload_n gX gB dX6_isSide_87 rfl (lv_at hl 3 rfl) ?_
            refine gx_lald C hW ⟨6, rfl⟩ (j := a) rfl (by omega) (by decide) dX6_isSide_88 ?_
            refine lv_lsub gX gB dX6_isSide_89 ?_
            refine lv_aload_n gX gB dX6_isSide_90 rfl (lv_at hl 5 rfl) ?_
            refine gx_get C hW fX6_25 ⟨0, rfl⟩ rfl dX6_isSide_91 ?_
            refine lv_iload_n gX gB dX6_isSide_94 rfl (lv_at hl 4 rfl) ?_
            refine gx_lald C hW ⟨6, rfl⟩ (j := b) rfl (by omega) (by decide) dX6_isSide_95 ?_
            refine lv_aload_n gX gB dX6_isSide_96 rfl (lv_at hl 5 rfl) ?_
            refine gx_get C hW fX6_25 ⟨0, rfl⟩ rfl dX6_isSide_97 ?_
            refine lv_iload_n gX gB dX6_isSide_100 rfl (lv_at hl 3 rfl) ?_
            refine gx_lald C hW ⟨6, rfl⟩ (j := a) rfl (by omega) (by decide) dX6_isSide_101 ?_
            refine lv_lsub gX gB dX6_isSide_102 ?_
            refine lv_lmul gX gB dX6_isSide_103 ?_
            refine lv_aload_n gX gB dX6_isSide_104 rfl (lv_at hl 5 rfl) ?_
            refine gx_get C hW fX6_28 ⟨0, rfl⟩ rfl dX6_isSide_105 ?_
            refine lv_iload gX gB dX6_isSide_108 (lv_at hl 2 rfl) ?_
            refine gx_lald C hW ⟨7, rfl⟩ (j := i) rfl (by omega) (by decide) dX6_isSide_110 ?_
            refine lv_aload_n gX gB dX6_isSide_111 rfl (lv_at hl 5 rfl) ?_
            refine gx_get C hW fX6_28 ⟨0, rfl⟩ rfl dX6_isSide_112 ?_
            refine lv_iload_n gX gB dX6_isSide_115 rfl (lv_at hl 3 rfl) ?_
            refine gx_lald C hW ⟨7, rfl⟩ (j := a) rfl (by omega) (by decide) dX6_isSide_116 ?_
            refine lv_lsub gX gB dX6_isSide_117 ?_
            refine lv_aload_n gX gB dX6_isSide_118 rfl (lv_at hl 5 rfl) ?_
            refine gx_get C hW fX6_28 ⟨0, rfl⟩ rfl dX6_isSide_119 ?_
            refine lv_iload_n gX gB dX6_isSide_122 rfl (lv_at hl 4 rfl) ?_
            refine gx_lald C hW ⟨7, rfl⟩ (j := b) rfl (by omega) (by decide) dX6_isSide_123 ?_
            refine lv_aload_n gX gB dX6_isSide_124 rfl (lv_at hl 5 rfl) ?_
            refine gx_get C hW fX6_28 ⟨0, rfl⟩ rfl dX6_isSide_125 ?_
            refine lv_iload_n gX gB dX6_isSide_128 rfl (lv_at hl 3 rfl) ?_
            refine gx_lald C hW ⟨7, rfl⟩ (j := a) rfl (by omega) (by decide) dX6_isSide_129 ?_
            refine lv_lsub gX gB dX6_isSide_130 ?_
            refine lv_lmul gX gB dX6_isSide_131 ?_
            refine lv_ladd gX gB dX6_isSide_132 ?_
            refine lv_lstore (lv' := [(7, .long ((((fx i) - (fx a)) * ((fx b) - (fx a))) + (((fy i) - (fy a)) * ((fy b) - (fy a))))), (5, .long (sd_t fx fy a b i)), (3, .int b9), (4, .int (nI i)), (1, .int (nI a)), (2, .int (nI b)), (0, .ref (ad 0))]) gX gB dX6_isSide_133 hl (by decide) rfl (fun ls hl => ?_)
            refine lv_aload_n gX gB dX6_isSide_135 rfl (lv_at hl 6 rfl) ?_
            refine gx_get C hW fX6_25 ⟨0, rfl⟩ rfl dX6_isSide_136 ?_
            refine lv_iload gX gB dX6_isSide_139 (lv_at hl 3 rfl) ?_
            refine gx_lald C hW ⟨6, rfl⟩ (j := i) rfl (by omega) (by decide) dX6_isSide_141 ?_
            refine lv_aload_n gX gB dX6_isSide_142 rfl (lv_at hl 6 rfl) ?_
            refine gx_get C hW fX6_25 ⟨0, rfl⟩ rfl dX6_isSide_143 ?_
            refine lv_iload_n gX gB dX6_isSide_146 rfl (lv_at hl 5 rfl) ?_
            refine gx_lald C hW ⟨6, rfl⟩ (j := b) rfl (by omega) (by decide) dX6_isSide_147 ?_
            refine lv_lsub gX gB dX6_isSide_148 ?_
            refine lv_aload_n gX gB dX6_isSide_149 rfl (lv_at hl 6 rfl) ?_
            refine gx_get C hW fX6_25 ⟨0, rfl⟩ rfl dX6_isSide_150 ?_
            refine lv_iload_n gX gB dX6_isSide_153 rfl (lv_at hl 4 rfl) ?_
            refine gx_lald C hW ⟨6, rfl⟩ (j := a) rfl (by omega) (by decide) dX6_isSide_154 ?_
            refine lv_aload_n gX gB dX6_isSide_155 rfl (lv_at hl 6 rfl) ?_
            refine gx_get C hW fX6_25 ⟨0, rfl⟩ rfl dX6_isSide_156 ?_
            refine lv_iload_n gX gB dX6_isSide_159 rfl (lv_at hl 5 rfl) ?_
            refine gx_lald C hW ⟨6, rfl⟩ (j := b) rfl (by omega) (by decide) dX6_isSide_160 ?_
            refine lv_lsub gX gB dX6_isSide_161 ?_
            refine lv_lmul gX gB dX6_isSide_162 ?_
            refine lv_aload_n gX gB dX6_isSide_163 rfl (lv_at hl 6 rfl) ?_
            refine gx_get C hW fX6_28 ⟨0, rfl⟩ rfl dX6_isSide_164 ?_
            refine lv_iload gX gB dX6_isSide_167 (lv_at hl 3 rfl) ?_
            refine gx_lald C hW ⟨7, rfl⟩ (j := i) rfl (by omega) (by decide) dX6_isSide_169 ?_
            refine lv_aload_n gX gB dX6_isSide_170 rfl (lv_at hl 6 rfl) ?_
            refine gx_get C hW fX6_28 ⟨0, rfl⟩ rfl dX6_isSide_171 ?_
            refine lv_iload_n gX gB dX6_isSide_174 rfl (lv_at hl 5 rfl) ?_
            refine gx_lald C hW ⟨7, rfl⟩ (j := b) rfl (by omega) (by decide) dX6_isSide_175 ?_
            refine lv_lsub gX gB dX6_isSide_176 ?_
            refine lv_aload_n gX gB dX6_isSide_177 rfl (lv_at hl 6 rfl) ?_
            refine gx_get C hW fX6_28 ⟨0, rfl⟩ rfl dX6_isSide_178 ?_
            refine lv_iload_n gX gB dX6_isSide_181 rfl (lv_at hl 4 rfl) ?_
            refine gx_lald C hW ⟨7, rfl⟩ (j := a) rfl (by omega) (by decide) dX6_isSide_182 ?_
            refine lv_aload_n gX gB dX6_isSide_183 rfl (lv_at hl 6 rfl) ?_
            refine gx_get C hW fX6_28 ⟨0, rfl⟩ rfl dX6_isSide_184 ?_
            refine lv_iload_n gX gB dX6_isSide_187 rfl (lv_at hl 5 rfl) ?_
            refine gx_lald C hW ⟨7, rfl⟩ (j := b) rfl (by omega) (by decide) dX6_isSide_188 ?_
            refine lv_lsub gX gB dX6_isSide_189 ?_
            refine lv_lmul gX gB dX6_isSide_190 ?_
            refine lv_ladd gX gB dX6_isSide_191 ?_
            refine lv_lstore (lv' := [(9, .long ((((fx i) - (fx b)) * ((fx a) - (fx b))) + (((fy i) - (fy b)) * ((fy a) - (fy b))))), (7, .long ((((fx i) - (fx a)) * ((fx b) - (fx a))) + (((fy i) - (fy a)) * ((fy b) - (fy a))))), (5, .long (sd_t fx fy a b i)), (3, .int b9), (4, .int (nI i)), (1, .int (nI a)), (2, .int (nI b)), (0, .ref (ad 0))]) gX gB dX6_isSide_192 hl (by decide) rfl (fun ls hl => ?_)
            refine lv_lload gX gB dX6_isSide_194 (lv_at hl 2 rfl) ?_
            refine lv_lconst (v := 0) gX gB dX6_isSide_196 (by decide) ?_
            refine gx_lc_gt (tgt := 222) C dX6_isSide_197 dX6_isSide_198 (by decide) (fun c197 => ?_) (fun c197 => ?_)
            · refine lv_iconst (v := 1) gX gB dX6_isSide_222 (by decide) ?_
              refine lv_goto (tgt := 227) gX gB dX6_isSide_223 (by decide) ?_
              refine lv_istore_n (lv' := [(3, .int 1), (9, .long ((((fx i) - (fx b)) * ((fx a) - (fx b))) + (((fy i) - (fy b)) * ((fy a) - (fy b))))), (7, .long ((((fx i) - (fx a)) * ((fx b) - (fx a))) + (((fy i) - (fy a)) * ((fy b) - (fy a))))), (5, .long (sd_t fx fy a b i)), (4, .int (nI i)), (1, .int (nI a)), (2, .int (nI b)), (0, .ref (ad 0))]) gX gB dX6_isSide_227 rfl hl (by decide) rfl (fun ls hl => ?_)
              refine lv_iinc (v := nI (i + 1)) (lv' := [(4, .int (nI (i + 1))), (3, .int 1), (9, .long ((((fx i) - (fx b)) * ((fx a) - (fx b))) + (((fy i) - (fy b)) * ((fy a) - (fy b))))), (7, .long ((((fx i) - (fx a)) * ((fx b) - (fx a))) + (((fy i) - (fy a)) * ((fy b) - (fy a))))), (5, .long (sd_t fx fy a b i)), (1, .int (nI a)), (2, .int (nI b)), (0, .ref (ad 0))]) gX gB dX6_isSide_228 hl (k := 4) rfl (by exact nI_1 i) (by decide) rfl (fun ls hl => ?_)
              refine lv_goto (tgt := 41) gX gB dX6_isSide_231 (by decide) ?_
              exact ih (i + 1) 1 (by omega) (by omega) (Or.inl ⟨rfl, sd_up1 hup (Or.inl c197)⟩) _ _ hW ls (lv_sub hl [1, 0, 5, 6, 7] rfl)
            · refine lv_lload gX gB dX6_isSide_201 (lv_at hl 2 rfl) ?_
              refine lv_lconst (v := 0) gX gB dX6_isSide_203 (by decide) ?_
              refine gx_lc_ne (tgt := 226) C dX6_isSide_204 dX6_isSide_205 (by decide) (fun c204 => ?_) (fun c204 => ?_)
              · refine lv_iconst (v := 0) gX gB dX6_isSide_226 (by decide) ?_
                refine lv_istore_n (lv' := [(3, .int 0), (9, .long ((((fx i) - (fx b)) * ((fx a) - (fx b))) + (((fy i) - (fy b)) * ((fy a) - (fy b))))), (7, .long ((((fx i) - (fx a)) * ((fx b) - (fx a))) + (((fy i) - (fy a)) * ((fy b) - (fy a))))), (5, .long (sd_t fx fy a b i)), (4, .int (nI i)), (1, .int (nI a)), (2, .int (nI b)), (0, .ref (ad 0))]) gX gB dX6_isSide_227 rfl hl (by decide) rfl (fun ls hl => ?_)
                refine lv_iinc (v := nI (i + 1)) (lv' := [(4, .int (nI (i + 1))), (3, .int 0), (9, .long ((((fx i) - (fx b)) * ((fx a) - (fx b))) + (((fy i) - (fy b)) * ((fy a) - (fy b))))), (7, .long ((((fx i) - (fx a)) * ((fx b) - (fx a))) + (((fy i) - (fy a)) * ((fy b) - (fy a))))), (5, .long (sd_t fx fy a b i)), (1, .int (nI a)), (2, .int (nI b)), (0, .ref (ad 0))]) gX gB dX6_isSide_228 hl (k := 4) rfl (by exact nI_1 i) (by decide) rfl (fun ls hl => ?_)
                refine lv_goto (tgt := 41) gX gB dX6_isSide_231 (by decide) ?_
                exact ih (i + 1) 0 (by omega) (by omega) (Or.inr ⟨rfl, fun zz => absurd (zz.2 i (Nat.lt_succ_self i)) (fun z2 => z2.elim (fun z3 => absurd z3 c197) (fun z3 => c204 z3.1))⟩) _ _ hW ls (lv_sub hl [1, 0, 5, 6, 7] rfl)
              · refine lv_lload gX gB dX6_isSide_208 (lv_at hl 1 rfl) ?_
                refine lv_lconst (v := 0) gX gB dX6_isSide_210 (by decide) ?_
                refine gx_lc_lt (tgt := 226) C dX6_isSide_211 dX6_isSide_212 (by decide) (fun c211 => ?_) (fun c211 => ?_)
                · refine lv_iconst (v := 0) gX gB dX6_isSide_226 (by decide) ?_
                  refine lv_istore_n (lv' := [(3, .int 0), (9, .long ((((fx i) - (fx b)) * ((fx a) - (fx b))) + (((fy i) - (fy b)) * ((fy a) - (fy b))))), (7, .long ((((fx i) - (fx a)) * ((fx b) - (fx a))) + (((fy i) - (fy a)) * ((fy b) - (fy a))))), (5, .long (sd_t fx fy a b i)), (4, .int (nI i)), (1, .int (nI a)), (2, .int (nI b)), (0, .ref (ad 0))]) gX gB dX6_isSide_227 rfl hl (by decide) rfl (fun ls hl => ?_)
                  refine lv_iinc (v := nI (i + 1)) (lv' := [(4, .int (nI (i + 1))), (3, .int 0), (9, .long ((((fx i) - (fx b)) * ((fx a) - (fx b))) + (((fy i) - (fy b)) * ((fy a) - (fy b))))), (7, .long ((((fx i) - (fx a)) * ((fx b) - (fx a))) + (((fy i) - (fy a)) * ((fy b) - (fy a))))), (5, .long (sd_t fx fy a b i)), (1, .int (nI a)), (2, .int (nI b)), (0, .ref (ad 0))]) gX gB dX6_isSide_228 hl (k := 4) rfl (by exact nI_1 i) (by decide) rfl (fun ls hl => ?_)
                  refine lv_goto (tgt := 41) gX gB dX6_isSide_231 (by decide) ?_
                  exact ih (i + 1) 0 (by omega) (by omega) (Or.inr ⟨rfl, fun zz => absurd (zz.2 i (Nat.lt_succ_self i)) (fun z2 => z2.elim (fun z3 => absurd z3 c197) (fun z3 => z3.2.1 c211))⟩) _ _ hW ls (lv_sub hl [1, 0, 5, 6, 7] rfl)
                · refine lv_lload gX gB dX6_isSide_215 (lv_at hl 0 rfl) ?_
                  refine lv_lconst (v := 0) gX gB dX6_isSide_217 (by decide) ?_
                  refine gx_lc_lt (tgt := 226) C dX6_isSide_218 dX6_isSide_219 (by decide) (fun c218 => ?_) (fun c218 => ?_)
                  · refine lv_iconst (v := 0) gX gB dX6_isSide_226 (by decide) ?_
                    refine lv_istore_n (lv' := [(3, .int 0), (9, .long ((((fx i) - (fx b)) * ((fx a) - (fx b))) + (((fy i) - (fy b)) * ((fy a) - (fy b))))), (7, .long ((((fx i) - (fx a)) * ((fx b) - (fx a))) + (((fy i) - (fy a)) * ((fy b) - (fy a))))), (5, .long (sd_t fx fy a b i)), (4, .int (nI i)), (1, .int (nI a)), (2, .int (nI b)), (0, .ref (ad 0))]) gX gB dX6_isSide_227 rfl hl (by decide) rfl (fun ls hl => ?_)
                    refine lv_iinc (v := nI (i + 1)) (lv' := [(4, .int (nI (i + 1))), (3, .int 0), (9, .long ((((fx i) - (fx b)) * ((fx a) - (fx b))) + (((fy i) - (fy b)) * ((fy a) - (fy b))))), (7, .long ((((fx i) - (fx a)) * ((fx b) - (fx a))) + (((fy i) - (fy a)) * ((fy b) - (fy a))))), (5, .long (sd_t fx fy a b i)), (1, .int (nI a)), (2, .int (nI b)), (0, .ref (ad 0))]) gX gB dX6_isSide_228 hl (k := 4) rfl (by exact nI_1 i) (by decide) rfl (fun ls hl => ?_)
                    refine lv_goto (tgt := 41) gX gB dX6_isSide_231 (by decide) ?_
                    exact ih (i + 1) 0 (by omega) (by omega) (Or.inr ⟨rfl, fun zz => absurd (zz.2 i (Nat.lt_succ_self i)) (fun z2 => z2.elim (fun z3 => absurd z3 c197) (fun z3 => z3.2.2 c218))⟩) _ _ hW ls (lv_sub hl [1, 0, 5, 6, 7] rfl)
                  · refine lv_iconst (v := 1) gX gB dX6_isSide_222 (by decide) ?_
                    refine lv_goto (tgt := 227) gX gB dX6_isSide_223 (by decide) ?_
                    refine lv_istore_n (lv' := [(3, .int 1), (9, .long ((((fx i) - (fx b)) * ((fx a) - (fx b))) + (((fy i) - (fy b)) * ((fy a) - (fy b))))), (7, .long ((((fx i) - (fx a)) * ((fx b) - (fx a))) + (((fy i) - (fy a)) * ((fy b) - (fy a))))), (5, .long (sd_t fx fy a b i)), (4, .int (nI i)), (1, .int (nI a)), (2, .int (nI b)), (0, .ref (ad 0))]) gX gB dX6_isSide_227 rfl hl (by decide) rfl (fun ls hl => ?_)
                    refine lv_iinc (v := nI (i + 1)) (lv' := [(4, .int (nI (i + 1))), (3, .int 1), (9, .long ((((fx i) - (fx b)) * ((fx a) - (fx b))) + (((fy i) - (fy b)) * ((fy a) - (fy b))))), (7, .long ((((fx i) - (fx a)) * ((fx b) - (fx a))) + (((fy i) - (fy a)) * ((fy b) - (fy a))))), (5, .long (sd_t fx fy a b i)), (1, .int (nI a)), (2, .int (nI b)), (0, .ref (ad 0))]) gX gB dX6_isSide_228 hl (k := 4) rfl (by exact nI_1 i) (by decide) rfl (fun ls hl => ?_)
                    refine lv_goto (tgt := 41) gX gB dX6_isSide_231 (by decide) ?_
                    exact ih (i + 1) 1 (by omega) (by omega) (Or.inl ⟨rfl, sd_up1 hup (Or.inr ⟨c204, c211, c218⟩)⟩) _ _ hW ls (lv_sub hl [1, 0, 5, 6, 7] rfl)
          · refine lv_iload gX gB dX6_isSide_41 (lv_at hl 1 rfl) ?_
            refine lv_aload_n gX gB dX6_isSide_43 rfl (lv_at hl 4 rfl) ?_
            refine gx_get C hW fX6_68 ⟨0, rfl⟩ rfl dX6_isSide_44 ?_
            refine lv_icmp_ge (tgt := 234) gX gB dX6_isSide_47 (by decide) (fun h9 => absurd (show (nI fn) ≤ (nI i) from h9) (nI_ge hin (by omega))) (fun _ => ?_)
            refine lv_iload_n gX gB dX6_isSide_50 rfl (lv_at hl 0 rfl) ?_
            refine lv_if_eq (tgt := 234) gX gB dX6_isSide_51 (by decide) (fun _ => ?_) (fun h9 => absurd (show b9 = (0 : Int32) from hb1) h9)
            refine lv_iload_n gX gB dX6_isSide_234 rfl (lv_at hl 0 rfl) ?_
            exact gx_zret C hr (by rcases hb9 with h9 | h9 <;> (rw [h9.1]; rfl)) hW (⟨b9, Or.inr ⟨hb1, sd_up0 hup (by omega)⟩, rfl, rfl⟩) (Nat.le_of_ble_eq_true rfl) (Nat.le_of_ble_eq_true rfl) dX6_isSide_235
      exact loop (fn + 1) 0 0 (by omega) (Nat.zero_le _) (Or.inr ⟨rfl, fun zz => zz.1.elim (fun z => z c12) (fun z => z c28)⟩) _ _ hW ls (lv_sub hl [1, 0, 3, 4, 2] rfl)
    · refine lv_iconst (v := 1) gX gB dX6_isSide_32 (by decide) ?_
      refine lv_goto (tgt := 37) gX gB dX6_isSide_33 (by decide) ?_
      refine lv_istore_n (lv' := [(3, .int 1), (0, .ref (ad 0)), (1, .int (nI a)), (2, .int (nI b))]) gX gB dX6_isSide_37 rfl hl (by decide) rfl (fun ls hl => ?_)
      refine lv_iconst (v := 0) gX gB dX6_isSide_38 (by decide) ?_
      refine lv_istore (lv' := [(4, .int 0), (3, .int 1), (0, .ref (ad 0)), (1, .int (nI a)), (2, .int (nI b))]) gX gB dX6_isSide_39 hl (by decide) rfl (fun ls hl => ?_)
      have hl : lv_has ls 11 [(4, .int (nI 0)), (3, .int 1), (0, .ref (ad 0)), (1, .int (nI a)), (2, .int (nI b))] := hl
      have loop : ∀ (fu : Nat) (i : Nat) (b9 : Int32), (fn - i < fu) → (i ≤ fn) → (bv_is b9 (sd_up fx fy a b i)) → ∀ (H : Heap) (locs : List Loc), gx_W G A s ([(ad 0, .inr (11, [.int cd, .int (nI pn), .ref (ad 1), .ref (ad 2), .ref (ad 3), .ref (ad 4), .ref (ad 5), .int (nI fn), .ref (ad 6), .ref (ad 7), .int (nI dn), .ref (ad 8), .long ex, .long ey, .long eg, .int (nI cn), .ref (ad 9), .ref (ad 10), .int (nI sn), .int at0, .int fl, .int (nI tn), .ref (ad 11), .ref (ad 12)])), (ad 1, .inl (G.2.1 2, 16, .inr (.inl px))), (ad 2, .inl (G.2.1 2, 16, .inr (.inl py))), (ad 3, .inl (G.2.1 2, 16, .inr (.inl pz))), (ad 4, .inl (G.2.1 2, 16, .inr (.inl gr))), (ad 5, .inl (G.2.1 2, 16, .inr (.inl ou))), (ad 6, .inl (G.2.1 2, 12, .inr (.inl fx))), (ad 7, .inl (G.2.1 2, 12, .inr (.inl fy))), (ad 8, .inl (G.2.1 1, 8, .inl od)), (ad 9, .inl (G.2.1 1, 12, .inl cr)), (ad 10, .inl (G.2.1 1, 200, .inl ty)), (ad 11, .inl (G.2.1 1, 48, .inl to_)), (ad 12, .inl (G.2.1 1, 48, .inl dr))]) H locs → ∀ ls : Array Slot, lv_has ls 11 [(3, .int b9), (4, .int (nI i)), (1, .int (nI a)), (2, .int (nI b)), (0, .ref (ad 0))] → W p l e ({ frames := 1, cells := 0, slots := 0, locals := 26 } : Room) s m args below meth c H locs 0 0 (MQ below (gx_Q G A (fun v u => ∃ b9 : Int32, bv_is b9 (sd_up fx fy a b fn) ∧ v = some (.int b9) ∧ u = [(ad 0, .inr (11, [.int cd, .int (nI pn), .ref (ad 1), .ref (ad 2), .ref (ad 3), .ref (ad 4), .ref (ad 5), .int (nI fn), .ref (ad 6), .ref (ad 7), .int (nI dn), .ref (ad 8), .long ex, .long ey, .long eg, .int (nI cn), .ref (ad 9), .ref (ad 10), .int (nI sn), .int at0, .int fl, .int (nI tn), .ref (ad 11), .ref (ad 12)])), (ad 1, .inl (G.2.1 2, 16, .inr (.inl px))), (ad 2, .inl (G.2.1 2, 16, .inr (.inl py))), (ad 3, .inl (G.2.1 2, 16, .inr (.inl pz))), (ad 4, .inl (G.2.1 2, 16, .inr (.inl gr))), (ad 5, .inl (G.2.1 2, 16, .inr (.inl ou))), (ad 6, .inl (G.2.1 2, 12, .inr (.inl fx))), (ad 7, .inl (G.2.1 2, 12, .inr (.inl fy))), (ad 8, .inl (G.2.1 1, 8, .inl od)), (ad 9, .inl (G.2.1 1, 12, .inl cr)), (ad 10, .inl (G.2.1 1, 200, .inl ty)), (ad 11, .inl (G.2.1 1, 48, .inl to_)), (ad 12, .inl (G.2.1 1, 48, .inl dr))])) args s (({ frames := 1, cells := 0, slots := 0, locals := 26 } : Room)).cells (({ frames := 1, cells := 0, slots := 0, locals := 26 } : Room)).slots A) (F0 m 41 ls []) := by
        intro fu
        induction fu with
        | zero => intro i b9 hfu hi hb9 H locs hW ls hl; exact absurd hfu (Nat.not_lt_zero _)
        | succ fu ih =>
          intro i b9 hfu hi hb9 H locs hW ls hl
          rcases (by rcases Nat.lt_or_ge i fn with h | h; (rcases hb9 with h2 | h2; exact Or.inr (Or.inl ⟨h, h2⟩); exact Or.inr (Or.inr ⟨h, h2⟩)); exact Or.inl h : fn ≤ i ∨ (i < fn ∧ (b9 = 1 ∧ sd_up fx fy a b i)) ∨ (i < fn ∧ (b9 = 0 ∧ ¬ sd_up fx fy a b i))) with hin | ⟨hin, hb1, hup⟩ | ⟨hin, hb1, hup⟩
          · refine lv_iload gX gB dX6_isSide_41 (lv_at hl 1 rfl) ?_
            refine lv_aload_n gX gB dX6_isSide_43 rfl (lv_at hl 4 rfl) ?_
            refine gx_get C hW fX6_68 ⟨0, rfl⟩ rfl dX6_isSide_44 ?_
            refine lv_icmp_ge (tgt := 234) gX gB dX6_isSide_47 (by decide) (fun _ => ?_) (fun h9 => absurd (show (nI fn) ≤ (nI i) from nI_le hin (by omega)) h9)
            refine lv_iload_n gX gB dX6_isSide_234 rfl (lv_at hl 0 rfl) ?_
            exact gx_zret C hr (by rcases hb9 with h9 | h9 <;> (rw [h9.1]; rfl)) hW (⟨b9, by rw [show fn = i by omega]; exact hb9, rfl, rfl⟩) (Nat.le_of_ble_eq_true rfl) (Nat.le_of_ble_eq_true rfl) dX6_isSide_235
          · refine lv_iload gX gB dX6_isSide_41 (lv_at hl 1 rfl) ?_
            refine lv_aload_n gX gB dX6_isSide_43 rfl (lv_at hl 4 rfl) ?_
            refine gx_get C hW fX6_68 ⟨0, rfl⟩ rfl dX6_isSide_44 ?_
            refine lv_icmp_ge (tgt := 234) gX gB dX6_isSide_47 (by decide) (fun h9 => absurd (show (nI fn) ≤ (nI i) from h9) (nI_ge hin (by omega))) (fun _ => ?_)
            refine lv_iload_n gX gB dX6_isSide_50 rfl (lv_at hl 0 rfl) ?_
            refine lv_if_eq (tgt := 234) gX gB dX6_isSide_51 (by decide) (fun h9 => absurd (show b9 = (0 : Int32) from h9) (by rw [hb1]; decide)) (fun _ => ?_)
            refine lv_aload_n gX gB dX6_isSide_54 rfl (lv_at hl 4 rfl) ?_
            refine lv_iload_n gX gB dX6_isSide_55 rfl (lv_at hl 2 rfl) ?_
            refine lv_iload_n gX gB dX6_isSide_56 rfl (lv_at hl 3 rfl) ?_
            refine lv_aload_n gX gB dX6_isSide_57 rfl (lv_at hl 4 rfl) ?_
            refine gx_get C hW fX6_25 ⟨0, rfl⟩ rfl dX6_isSide_58 ?_
            refine lv_iload gX gB dX6_isSide_61 (lv_at hl 1 rfl) ?_
            refine gx_lald C hW ⟨6, rfl⟩ (j := i) rfl (by omega) (by decide) dX6_isSide_63 ?_
            refine lv_aload_n gX gB dX6_isSide_64 rfl (lv_at hl 4 rfl) ?_
            refine gx_get C hW fX6_28 ⟨0, rfl⟩ rfl dX6_isSide_65 ?_
            refine lv_iload gX gB dX6_isSide_68 (lv_at hl 1 rfl) ?_
            refine gx_lald C hW ⟨7, rfl⟩ (j := i) rfl (by omega) (by decide) dX6_isSide_70 ?_
            refine gx_callV (wr := []) (rest := []) C hW sX6_87 (kX6_turn l G ad cd pn fn dn cn sn tn ex ey eg at0 fl px py pz gr ou fx fy od cr ty to_ dr a b (fx i) (fy i) ha hb) ⟨0, rfl⟩ rfl rfl ⟨(Nat.le_of_ble_eq_true rfl), (Nat.le_of_ble_eq_true rfl)⟩ hl.1 rfl (Nat.le_of_ble_eq_true rfl) dX6_isSide_71 ⟨(Nat.le_of_ble_eq_true rfl), (Nat.le_of_ble_eq_true rfl)⟩ (fun v9 u9 H locs hp hW => ?_)
            obtain ⟨rfl, hu⟩ := hp
            rw [hu] at hW
            have hW : gx_W G A s ([(ad 0, .inr (11, [.int cd, .int (nI pn), .ref (ad 1), .ref (ad 2), .ref (ad 3), .ref (ad 4), .ref (ad 5), .int (nI fn), .ref (ad 6), .ref (ad 7), .int (nI dn), .ref (ad 8), .long ex, .long ey, .long eg, .int (nI cn), .ref (ad 9), .ref (ad 10), .int (nI sn), .int at0, .int fl, .int (nI tn), .ref (ad 11), .ref (ad 12)])), (ad 1, .inl (G.2.1 2, 16, .inr (.inl px))), (ad 2, .inl (G.2.1 2, 16, .inr (.inl py))), (ad 3, .inl (G.2.1 2, 16, .inr (.inl pz))), (ad 4, .inl (G.2.1 2, 16, .inr (.inl gr))), (ad 5, .inl (G.2.1 2, 16, .inr (.inl ou))), (ad 6, .inl (G.2.1 2, 12, .inr (.inl fx))), (ad 7, .inl (G.2.1 2, 12, .inr (.inl fy))), (ad 8, .inl (G.2.1 1, 8, .inl od)), (ad 9, .inl (G.2.1 1, 12, .inl cr)), (ad 10, .inl (G.2.1 1, 200, .inl ty)), (ad 11, .inl (G.2.1 1, 48, .inl to_)), (ad 12, .inl (G.2.1 1, 48, .inl dr))]) H locs := hW
            refine W.eq (g2 := F0 m 74 ls [.long (sd_t fx fy a b i)]) rfl ?_
            refine W.widen (k := 0) (n := 0) (Nat.le_of_ble_eq_true rfl) (Nat.le_of_ble_eq_true rfl) ?_
            refine lv_lstore (lv' := [(5, .long (sd_t fx fy a b i)), (3, .int b9), (4, .int (nI i)), (1, .int (nI a)), (2, .int (nI b)), (0, .ref (ad 0))]) gX gB dX6_isSide_74 hl (by decide) rfl (fun ls hl => ?_)
            refine lv_aload_n gX gB dX6_isSide_76 rfl (lv_at hl 5 rfl) ?_
            refine gx_get C hW fX6_25 ⟨0, rfl⟩ rfl dX6_isSide_77 ?_
            refine lv_iload gX gB dX6_isSide_80 (lv_at hl 2 rfl) ?_
            refine gx_lald C hW ⟨6, rfl⟩ (j := i) rfl (by omega) (by decide) dX6_isSide_82 ?_
            refine lv_aload_n gX gB dX6_isSide_83 rfl (lv_at hl 5 rfl) ?_
            refine gx_get C hW fX6_25 ⟨0, rfl⟩ rfl dX6_isSide_84 ?_
            refine lv_iload_n gX gB dX6_isSide_87 rfl (lv_at hl 3 rfl) ?_
            refine gx_lald C hW ⟨6, rfl⟩ (j := a) rfl (by omega) (by decide) dX6_isSide_88 ?_
            refine lv_lsub gX gB dX6_isSide_89 ?_
            refine lv_aload_n gX gB dX6_isSide_90 rfl (lv_at hl 5 rfl) ?_
            refine gx_get C hW fX6_25 ⟨0, rfl⟩ rfl dX6_isSide_91 ?_
            refine lv_iload_n gX gB dX6_isSide_94 rfl (lv_at hl 4 rfl) ?_
            refine gx_lald C hW ⟨6, rfl⟩ (j := b) rfl (by omega) (by decide) dX6_isSide_95 ?_
            refine lv_aload_n gX gB dX6_isSide_96 rfl (lv_at hl 5 rfl) ?_
            refine gx_get C hW fX6_25 ⟨0, rfl⟩ rfl dX6_isSide_97 ?_
            refine lv_iload_n gX gB dX6_isSide_100 rfl (lv_at hl 3 rfl) ?_
            refine gx_lald C hW ⟨6, rfl⟩ (j := a) rfl (by omega) (by decide) dX6_isSide_101 ?_
            refine lv_lsub gX gB dX6_isSide_102 ?_
            refine lv_lmul gX gB dX6_isSide_103 ?_
            refine lv_aload_n gX gB dX6_isSide_104 rfl (lv_at hl 5 rfl) ?_
            refine gx_get C hW fX6_28 ⟨0, rfl⟩ rfl dX6_isSide_105 ?_
            refine lv_iload gX gB dX6_isSide_108 (lv_at hl 2 rfl) ?_
            refine gx_lald C hW ⟨7, rfl⟩ (j := i) rfl (by omega) (by decide) dX6_isSide_110 ?_
            refine lv_aload_n gX gB dX6_isSide_111 rfl (lv_at hl 5 rfl) ?_
            refine gx_get C hW fX6_28 ⟨0, rfl⟩ rfl dX6_isSide_112 ?_
            refine lv_iload_n gX gB dX6_isSide_115 rfl (lv_at hl 3 rfl) ?_
            refine gx_lald C hW ⟨7, rfl⟩ (j := a) rfl (by omega) (by decide) dX6_isSide_116 ?_
            refine lv_lsub gX gB dX6_isSide_117 ?_
            refine lv_aload_n gX gB dX6_isSide_118 rfl (lv_at hl 5 rfl) ?_
            refine gx_get C hW fX6_28 ⟨0, rfl⟩ rfl dX6_isSide_119 ?_
            refine lv_iload_n gX gB dX6_isSide_122 rfl (lv_at hl 4 rfl) ?_
            refine gx_lald C hW ⟨7, rfl⟩ (j := b) rfl (by omega) (by decide) dX6_isSide_123 ?_
            refine lv_aload_n gX gB dX6_isSide_124 rfl (lv_at hl 5 rfl) ?_
            refine gx_get C hW fX6_28 ⟨0, rfl⟩ rfl dX6_isSide_125 ?_
            refine lv_iload_n gX gB dX6_isSide_128 rfl (lv_at hl 3 rfl) ?_
            refine gx_lald C hW ⟨7, rfl⟩ (j := a) rfl (by omega) (by decide) dX6_isSide_129 ?_
            refine lv_lsub gX gB dX6_isSide_130 ?_
            refine lv_lmul gX gB dX6_isSide_131 ?_
            refine lv_ladd gX gB dX6_isSide_132 ?_
            refine lv_lstore (lv' := [(7, .long ((((fx i) - (fx a)) * ((fx b) - (fx a))) + (((fy i) - (fy a)) * ((fy b) - (fy a))))), (5, .long (sd_t fx fy a b i)), (3, .int b9), (4, .int (nI i)), (1, .int (nI a)), (2, .int (nI b)), (0, .ref (ad 0))]) gX gB dX6_isSide_133 hl (by decide) rfl (fun ls hl => ?_)
            refine lv_aload_n gX gB dX6_isSide_135 rfl (lv_at hl 6 rfl) ?_
            refine gx_get C hW fX6_25 ⟨0, rfl⟩ rfl dX6_isSide_136 ?_
            refine lv_iload gX gB dX6_isSide_139 (lv_at hl 3 rfl) ?_
            refine gx_lald C hW ⟨6, rfl⟩ (j := i) rfl (by omega) (by decide) dX6_isSide_141 ?_
            refine lv_aload_n gX gB dX6_isSide_142 rfl (lv_at hl 6 rfl) ?_
            refine gx_get C hW fX6_25 ⟨0, rfl⟩ rfl dX6_isSide_143 ?_
            refine lv_iload_n gX gB dX6_isSide_146 rfl (lv_at hl 5 rfl) ?_
            refine gx_lald C hW ⟨6, rfl⟩ (j := b) rfl (by omega) (by decide) dX6_isSide_147 ?_
            refine lv_lsub gX gB dX6_isSide_148 ?_
            refine lv_aload_n gX gB dX6_isSide_149 rfl (lv_at hl 6 rfl) ?_
            refine gx_get C hW fX6_25 ⟨0, rfl⟩ rfl dX6_isSide_150 ?_
            refine lv_iload_n gX gB dX6_isSide_153 rfl (lv_at hl 4 rfl) ?_
            refine gx_lald C hW ⟨6, rfl⟩ (j := a) rfl (by omega) (by decide) dX6_isSide_154 ?_
            refine lv_aload_n gX gB dX6_isSide_155 rfl (lv_at hl 6 rfl) ?_
            refine gx_get C hW fX6_25 ⟨0, rfl⟩ rfl dX6_isSide_156 ?_
            refine lv_iload_n gX gB dX6_isSide_159 rfl (lv_at hl 5 rfl) ?_
            refine gx_lald C hW ⟨6, rfl⟩ (j := b) rfl (by omega) (by decide) dX6_isSide_160 ?_
            refine lv_lsub gX gB dX6_isSide_161 ?_
            refine lv_lmul gX gB dX6_isSide_162 ?_
            refine lv_aload_n gX gB dX6_isSide_163 rfl (lv_at hl 6 rfl) ?_
            refine gx_get C hW fX6_28 ⟨0, rfl⟩ rfl dX6_isSide_164 ?_
            refine lv_iload gX gB dX6_isSide_167 (lv_at hl 3 rfl) ?_
            refine gx_lald C hW ⟨7, rfl⟩ (j := i) rfl (by omega) (by decide) dX6_isSide_169 ?_
            refine lv_aload_n gX gB dX6_isSide_170 rfl (lv_at hl 6 rfl) ?_
            refine gx_get C hW fX6_28 ⟨0, rfl⟩ rfl dX6_isSide_171 ?_
            refine lv_iload_n gX gB dX6_isSide_174 rfl (lv_at hl 5 rfl) ?_
            refine gx_lald C hW ⟨7, rfl⟩ (j := b) rfl (by omega) (by decide) dX6_isSide_175 ?_
            refine lv_lsub gX gB dX6_isSide_176 ?_
            refine lv_aload_n gX gB dX6_isSide_177 rfl (lv_at hl 6 rfl) ?_
            refine gx_get C hW fX6_28 ⟨0, rfl⟩ rfl dX6_isSide_178 ?_
            refine lv_iload_n gX gB dX6_isSide_181 rfl (lv_at hl 4 rfl) ?_
            refine gx_lald C hW ⟨7, rfl⟩ (j := a) rfl (by omega) (by decide) dX6_isSide_182 ?_
            refine lv_aload_n gX gB dX6_isSide_183 rfl (lv_at hl 6 rfl) ?_
            refine gx_get C hW fX6_28 ⟨0, rfl⟩ rfl dX6_isSide_184 ?_
            refine lv_iload_n gX gB dX6_isSide_187 rfl (lv_at hl 5 rfl) ?_
            refine gx_lald C hW ⟨7, rfl⟩ (j := b) rfl (by omega) (by decide) dX6_isSide_188 ?_
            refine lv_lsub gX gB dX6_isSide_189 ?_
            refine lv_lmul gX gB dX6_isSide_190 ?_
            refine lv_ladd gX gB dX6_isSide_191 ?_
            refine lv_lstore (lv' := [(9, .long ((((fx i) - (fx b)) * ((fx a) - (fx b))) + (((fy i) - (fy b)) * ((fy a) - (fy b))))), (7, .long ((((fx i) - (fx a)) * ((fx b) - (fx a))) + (((fy i) - (fy a)) * ((fy b) - (fy a))))), (5, .long (sd_t fx fy a b i)), (3, .int b9), (4, .int (nI i)), (1, .int (nI a)), (2, .int (nI b)), (0, .ref (ad 0))]) gX gB dX6_isSide_192 hl (by decide) rfl (fun ls hl => ?_)
            refine lv_lload gX gB dX6_isSide_194 (lv_at hl 2 rfl) ?_
            refine lv_lconst (v := 0) gX gB dX6_isSide_196 (by decide) ?_
            refine gx_lc_gt (tgt := 222) C dX6_isSide_197 dX6_isSide_198 (by decide) (fun c197 => ?_) (fun c197 => ?_)
            · refine lv_iconst (v := 1) gX gB dX6_isSide_222 (by decide) ?_
              refine lv_goto (tgt := 227) gX gB dX6_isSide_223 (by decide) ?_
              refine lv_istore_n (lv' := [(3, .int 1), (9, .long ((((fx i) - (fx b)) * ((fx a) - (fx b))) + (((fy i) - (fy b)) * ((fy a) - (fy b))))), (7, .long ((((fx i) - (fx a)) * ((fx b) - (fx a))) + (((fy i) - (fy a)) * ((fy b) - (fy a))))), (5, .long (sd_t fx fy a b i)), (4, .int (nI i)), (1, .int (nI a)), (2, .int (nI b)), (0, .ref (ad 0))]) gX gB dX6_isSide_227 rfl hl (by decide) rfl (fun ls hl => ?_)
              refine lv_iinc (v := nI (i + 1)) (lv' := [(4, .int (nI (i + 1))), (3, .int 1), (9, .long ((((fx i) - (fx b)) * ((fx a) - (fx b))) + (((fy i) - (fy b)) * ((fy a) - (fy b))))), (7, .long ((((fx i) - (fx a)) * ((fx b) - (fx a))) + (((fy i) - (fy a)) * ((fy b) - (fy a))))), (5, .long (sd_t fx fy a b i)), (1, .int (nI a)), (2, .int (nI b)), (0, .ref (ad 0))]) gX gB dX6_isSide_228 hl (k := 4) rfl (by exact nI_1 i) (by decide) rfl (fun ls hl => ?_)
              refine lv_goto (tgt := 41) gX gB dX6_isSide_231 (by decide) ?_
              exact ih (i + 1) 1 (by omega) (by omega) (Or.inl ⟨rfl, sd_up1 hup (Or.inl c197)⟩) _ _ hW ls (lv_sub hl [1, 0, 5, 6, 7] rfl)
            · refine lv_lload gX gB dX6_isSide_201 (lv_at hl 2 rfl) ?_
              refine lv_lconst (v := 0) gX gB dX6_isSide_203 (by decide) ?_
              refine gx_lc_ne (tgt := 226) C dX6_isSide_204 dX6_isSide_205 (by decide) (fun c204 => ?_) (fun c204 => ?_)
              · refine lv_iconst (v := 0) gX gB dX6_isSide_226 (by decide) ?_
                refine lv_istore_n (lv' := [(3, .int 0), (9, .long ((((fx i) - (fx b)) * ((fx a) - (fx b))) + (((fy i) - (fy b)) * ((fy a) - (fy b))))), (7, .long ((((fx i) - (fx a)) * ((fx b) - (fx a))) + (((fy i) - (fy a)) * ((fy b) - (fy a))))), (5, .long (sd_t fx fy a b i)), (4, .int (nI i)), (1, .int (nI a)), (2, .int (nI b)), (0, .ref (ad 0))]) gX gB dX6_isSide_227 rfl hl (by decide) rfl (fun ls hl => ?_)
                refine lv_iinc (v := nI (i + 1)) (lv' := [(4, .int (nI (i + 1))), (3, .int 0), (9, .long ((((fx i) - (fx b)) * ((fx a) - (fx b))) + (((fy i) - (fy b)) * ((fy a) - (fy b))))), (7, .long ((((fx i) - (fx a)) * ((fx b) - (fx a))) + (((fy i) - (fy a)) * ((fy b) - (fy a))))), (5, .long (sd_t fx fy a b i)), (1, .int (nI a)), (2, .int (nI b)), (0, .ref (ad 0))]) gX gB dX6_isSide_228 hl (k := 4) rfl (by exact nI_1 i) (by decide) rfl (fun ls hl => ?_)
                refine lv_goto (tgt := 41) gX gB dX6_isSide_231 (by decide) ?_
                exact ih (i + 1) 0 (by omega) (by omega) (Or.inr ⟨rfl, fun zz => absurd (zz.2 i (Nat.lt_succ_self i)) (fun z2 => z2.elim (fun z3 => absurd z3 c197) (fun z3 => c204 z3.1))⟩) _ _ hW ls (lv_sub hl [1, 0, 5, 6, 7] rfl)
              · refine lv_lload gX gB dX6_isSide_208 (lv_at hl 1 rfl) ?_
                refine lv_lconst (v := 0) gX gB dX6_isSide_210 (by decide) ?_
                refine gx_lc_lt (tgt := 226) C dX6_isSide_211 dX6_isSide_212 (by decide) (fun c211 => ?_) (fun c211 => ?_)
                · refine lv_iconst (v := 0) gX gB dX6_isSide_226 (by decide) ?_
                  refine lv_istore_n (lv' := [(3, .int 0), (9, .long ((((fx i) - (fx b)) * ((fx a) - (fx b))) + (((fy i) - (fy b)) * ((fy a) - (fy b))))), (7, .long ((((fx i) - (fx a)) * ((fx b) - (fx a))) + (((fy i) - (fy a)) * ((fy b) - (fy a))))), (5, .long (sd_t fx fy a b i)), (4, .int (nI i)), (1, .int (nI a)), (2, .int (nI b)), (0, .ref (ad 0))]) gX gB dX6_isSide_227 rfl hl (by decide) rfl (fun ls hl => ?_)
                  refine lv_iinc (v := nI (i + 1)) (lv' := [(4, .int (nI (i + 1))), (3, .int 0), (9, .long ((((fx i) - (fx b)) * ((fx a) - (fx b))) + (((fy i) - (fy b)) * ((fy a) - (fy b))))), (7, .long ((((fx i) - (fx a)) * ((fx b) - (fx a))) + (((fy i) - (fy a)) * ((fy b) - (fy a))))), (5, .long (sd_t fx fy a b i)), (1, .int (nI a)), (2, .int (nI b)), (0, .ref (ad 0))]) gX gB dX6_isSide_228 hl (k := 4) rfl (by exact nI_1 i) (by decide) rfl (fun ls hl => ?_)
                  refine lv_goto (tgt := 41) gX gB dX6_isSide_231 (by decide) ?_
                  exact ih (i + 1) 0 (by omega) (by omega) (Or.inr ⟨rfl, fun zz => absurd (zz.2 i (Nat.lt_succ_self i)) (fun z2 => z2.elim (fun z3 => absurd z3 c197) (fun z3 => z3.2.1 c211))⟩) _ _ hW ls (lv_sub hl [1, 0, 5, 6, 7] rfl)
                · refine lv_lload gX gB dX6_isSide_215 (lv_at hl 0 rfl) ?_
                  refine lv_lconst (v := 0) gX gB dX6_isSide_217 (by decide) ?_
                  refine gx_lc_lt (tgt := 226) C dX6_isSide_218 dX6_isSide_219 (by decide) (fun c218 => ?_) (fun c218 => ?_)
                  · refine lv_iconst (v := 0) gX gB dX6_isSide_226 (by decide) ?_
                    refine lv_istore_n (lv' := [(3, .int 0), (9, .long ((((fx i) - (fx b)) * ((fx a) - (fx b))) + (((fy i) - (fy b)) * ((fy a) - (fy b))))), (7, .long ((((fx i) - (fx a)) * ((fx b) - (fx a))) + (((fy i) - (fy a)) * ((fy b) - (fy a))))), (5, .long (sd_t fx fy a b i)), (4, .int (nI i)), (1, .int (nI a)), (2, .int (nI b)), (0, .ref (ad 0))]) gX gB dX6_isSide_227 rfl hl (by decide) rfl (fun ls hl => ?_)
                    refine lv_iinc (v := nI (i + 1)) (lv' := [(4, .int (nI (i + 1))), (3, .int 0), (9, .long ((((fx i) - (fx b)) * ((fx a) - (fx b))) + (((fy i) - (fy b)) * ((fy a) - (fy b))))), (7, .long ((((fx i) - (fx a)) * ((fx b) - (fx a))) + (((fy i) - (fy a)) * ((fy b) - (fy a))))), (5, .long (sd_t fx fy a b i)), (1, .int (nI a)), (2, .int (nI b)), (0, .ref (ad 0))]) gX gB dX6_isSide_228 hl (k := 4) rfl (by exact nI_1 i) (by decide) rfl (fun ls hl => ?_)
                    refine lv_goto (tgt := 41) gX gB dX6_isSide_231 (by decide) ?_
                    exact ih (i + 1) 0 (by omega) (by omega) (Or.inr ⟨rfl, fun zz => absurd (zz.2 i (Nat.lt_succ_self i)) (fun z2 => z2.elim (fun z3 => absurd z3 c197) (fun z3 => z3.2.2 c218))⟩) _ _ hW ls (lv_sub hl [1, 0, 5, 6, 7] rfl)
                  · refine lv_iconst (v := 1) gX gB dX6_isSide_222 (by decide) ?_
                    refine lv_goto (tgt := 227) gX gB dX6_isSide_223 (by decide) ?_
                    refine lv_istore_n (lv' := [(3, .int 1), (9, .long ((((fx i) - (fx b)) * ((fx a) - (fx b))) + (((fy i) - (fy b)) * ((fy a) - (fy b))))), (7, .long ((((fx i) - (fx a)) * ((fx b) - (fx a))) + (((fy i) - (fy a)) * ((fy b) - (fy a))))), (5, .long (sd_t fx fy a b i)), (4, .int (nI i)), (1, .int (nI a)), (2, .int (nI b)), (0, .ref (ad 0))]) gX gB dX6_isSide_227 rfl hl (by decide) rfl (fun ls hl => ?_)
                    refine lv_iinc (v := nI (i + 1)) (lv' := [(4, .int (nI (i + 1))), (3, .int 1), (9, .long ((((fx i) - (fx b)) * ((fx a) - (fx b))) + (((fy i) - (fy b)) * ((fy a) - (fy b))))), (7, .long ((((fx i) - (fx a)) * ((fx b) - (fx a))) + (((fy i) - (fy a)) * ((fy b) - (fy a))))), (5, .long (sd_t fx fy a b i)), (1, .int (nI a)), (2, .int (nI b)), (0, .ref (ad 0))]) gX gB dX6_isSide_228 hl (k := 4) rfl (by exact nI_1 i) (by decide) rfl (fun ls hl => ?_)
                    refine lv_goto (tgt := 41) gX gB dX6_isSide_231 (by decide) ?_
                    exact ih (i + 1) 1 (by omega) (by omega) (Or.inl ⟨rfl, sd_up1 hup (Or.inr ⟨c204, c211, c218⟩)⟩) _ _ hW ls (lv_sub hl [1, 0, 5, 6, 7] rfl)
          · refine lv_iload gX gB dX6_isSide_41 (lv_at hl 1 rfl) ?_
            refine lv_aload_n gX gB dX6_isSide_43 rfl (lv_at hl 4 rfl) ?_
            refine gx_get C hW fX6_68 ⟨0, rfl⟩ rfl dX6_isSide_44 ?_
            refine lv_icmp_ge (tgt := 234) gX gB dX6_isSide_47 (by decide) (fun h9 => absurd (show (nI fn) ≤ (nI i) from h9) (nI_ge hin (by omega))) (fun _ => ?_)
            refine lv_iload_n gX gB dX6_isSide_50 rfl (lv_at hl 0 rfl) ?_
            refine lv_if_eq (tgt := 234) gX gB dX6_isSide_51 (by decide) (fun _ => ?_) (fun h9 => absurd (show b9 = (0 : Int32) from hb1) h9)
            refine lv_iload_n gX gB dX6_isSide_234 rfl (lv_at hl 0 rfl) ?_
            exact gx_zret C hr (by rcases hb9 with h9 | h9 <;> (rw [h9.1]; rfl)) hW (⟨b9, Or.inr ⟨hb1, sd_up0 hup (by omega)⟩, rfl, rfl⟩) (Nat.le_of_ble_eq_true rfl) (Nat.le_of_ble_eq_true rfl) dX6_isSide_235
      exact loop (fn + 1) 0 1 (by omega) (Nat.zero_le _) (Or.inl ⟨rfl, Or.inr c28, fun _ h => absurd h (Nat.not_lt_zero _)⟩) _ _ hW ls (lv_sub hl [1, 0, 3, 4, 2] rfl)
