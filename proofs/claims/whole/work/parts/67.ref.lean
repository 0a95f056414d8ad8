/-! THE REFERENCE: next, wind, foot. -/
/-- r is the foot that comes next from a on -/
def nx_is (fx fy : Nat → Int64) (fn a r : Nat) : Prop := (r < fn ∧ sd_up fx fy a r fn ∧ ∀ j, j < r → ¬ sd_up fx fy a j fn) ∨ (r = a ∧ ∀ j, j < fn → ¬ sd_up fx fy a j fn)
abbrev fi_lt (fx fy : Nat → Int64) (a b : Nat) : Prop := fx a < fx b ∨ (fx a = fx b ∧ fy a < fy b)
def fi_at (fx fy : Nat → Int64) : Nat → Nat
  | 0 => 0
  | k + 1 => if k = 0 then 0 else if fi_lt fx fy k (fi_at fx fy k) then k else fi_at fx fy k
theorem fi_le (fx fy : Nat → Int64) : ∀ k, 0 < k → fi_at fx fy k < k := by
  intro k
  induction k with
  | zero => intro h; exact absurd h (Nat.lt_irrefl _)
  | succ k ih =>
    intro _
    show (if k = 0 then 0 else if fi_lt fx fy k (fi_at fx fy k) then k else fi_at fx fy k) < k + 1
    split
    · omega
    · split
      · omega
      · have := ih (by omega)
        omega
theorem fi_1 {fx fy : Nat → Int64} {k : Nat} (hk : 1 ≤ k) (h : fi_lt fx fy k (fi_at fx fy k)) : fi_at fx fy (k + 1) = k := by
  show (if k = 0 then 0 else if fi_lt fx fy k (fi_at fx fy k) then k else fi_at fx fy k) = k
  rw [if_neg (by omega), if_pos h]
theorem fi_0 {fx fy : Nat → Int64} {k : Nat} (hk : 1 ≤ k) (h : ¬ fi_lt fx fy k (fi_at fx fy k)) : fi_at fx fy (k + 1) = fi_at fx fy k := by
  show (if k = 0 then 0 else if fi_lt fx fy k (fi_at fx fy k) then k else fi_at fx fy k) = fi_at fx fy k
  rw [if_neg (by omega), if_neg h]
def nx_it (nx : Nat → Nat) (c0 : Nat) : Nat → Nat
  | 0 => c0
  | i + 1 => nx (nx_it nx c0 i)
/-- the walk from the first corner on comes back to it after N steps, and not before -/
def wd_ok (fx fy : Nat → Int64) (fn : Nat) (nx : Nat → Nat) (N : Nat) : Prop := 0 < N ∧ N ≤ 12 ∧ (∀ c r, c < fn → nx_is fx fy fn c r → r = nx c) ∧ (∀ i, nx_it nx (fi_at fx fy fn) i < fn) ∧ (∀ i, 0 < i → i < N → ¬ nx_it nx (fi_at fx fy fn) i = fi_at fx fy fn) ∧ nx_it nx (fi_at fx fy fn) N = fi_at fx fy fn
set_option maxHeartbeats 4000000 in
set_option maxRecDepth 100000 in
theorem kX6_next (l : Launch) (G : gx_T) (ad : Nat → Nat) (cd : Int32) (pn fn dn cn sn tn : Nat) (ex ey eg : Int64) (at0 fl : Int32) (px py pz gr ou fx fy : Nat → Int64) (od cr ty to_ dr : Nat → Int32) (hfn : fn ≤ 12) (a : Nat) (ha : a < 12) : gx_M l G yX6_next cX6_next 3 (some .int) ({ frames := 2, cells := 0, slots := 0, locals := 56 } : Room) [.ref (ad 0), .int (nI a)] ([(ad 0, .inr (11, [.int cd, .int (nI pn), .ref (ad 1), .ref (ad 2), .ref (ad 3), .ref (ad 4), .ref (ad 5), .int (nI fn), .ref (ad 6), .ref (ad 7), .int (nI dn), .ref (ad 8), .long ex, .long ey, .long eg, .int (nI cn), .ref (ad 9), .ref (ad 10), .int (nI sn), .int at0, .int fl, .int (nI tn), .ref (ad 11), .ref (ad 12)])), (ad 1, .inl (G.2.1 2, 16, .inr (.inl px))), (ad 2, .inl (G.2.1 2, 16, .inr (.inl py))), (ad 3, .inl (G.2.1 2, 16, .inr (.inl pz))), (ad 4, .inl (G.2.1 2, 16, .inr (.inl gr))), (ad 5, .inl (G.2.1 2, 16, .inr (.inl ou))), (ad 6, .inl (G.2.1 2, 12, .inr (.inl fx))), (ad 7, .inl (G.2.1 2, 12, .inr (.inl fy))), (ad 8, .inl (G.2.1 1, 8, .inl od)), (ad 9, .inl (G.2.1 1, 12, .inl cr)), (ad 10, .inl (G.2.1 1, 200, .inl ty)), (ad 11, .inl (G.2.1 1, 48, .inl to_)), (ad 12, .inl (G.2.1 1, 48, .inl dr))]) (fun v u => ∃ k : Nat, nx_is fx fy fn a k ∧ v = some (.int (nI k)) ∧ u = [(ad 0, .inr (11, [.int cd, .int (nI pn), .ref (ad 1), .ref (ad 2), .ref (ad 3), .ref (ad 4), .ref (ad 5), .int (nI fn), .ref (ad 6), .ref (ad 7), .int (nI dn), .ref (ad 8), .long ex, .long ey, .long eg, .int (nI cn), .ref (ad 9), .ref (ad 10), .int (nI sn), .int at0, .int fl, .int (nI tn), .ref (ad 11), .ref (ad 12)])), (ad 1, .inl (G.2.1 2, 16, .inr (.inl px))), (ad 2, .inl (G.2.1 2, 16, .inr (.inl py))), (ad 3, .inl (G.2.1 2, 16, .inr (.inl pz))), (ad 4, .inl (G.2.1 2, 16, .inr (.inl gr))), (ad 5, .inl (G.2.1 2, 16, .inr (.inl ou))), (ad 6, .inl (G.2.1 2, 12, .inr (.inl fx))), (ad 7, .inl (G.2.1 2, 12, .inr (.inl fy))), (ad 8, .inl (G.2.1 1, 8, .inl od)), (ad 9, .inl (G.2.1 1, 12, .inl cr)), (ad 10, .inl (G.2.1 1, 200, .inl ty)), (ad 11, .inl (G.2.1 1, 48, .inl to_)), (ad 12, .inl (G.2.1 1, 48, .inl dr))]) := by
  refine gx_start (by decide +kernel) (Nat.le_of_ble_eq_true rfl) ?_
  intro p e s m args below meth c A ls C hr hnm hW hl
  have gX := C.x
  have gB := C.b
  have hl : lv_has ls 3 [(0, .ref (ad 0)), (1, .int (nI a))] := hl
  refine lv_iconst (v := 0) gX gB dX6_next_0 (by decide) ?_
  refine lv_istore_n (lv' := [(2, .int 0), (0, .ref (ad 0)), (1, .int (nI a))]) gX gB dX6_next_1 rfl hl (by decide) rfl (fun ls hl => ?_)
  have hl : lv_has ls 3 [(2, .int (nI 0)), (0, .ref (ad 0)), (1, .int (nI a))] := hl
  have loop : ∀ (fu : Nat) (k : Nat), (fn - k < fu) → (k ≤ fn) → (∀ j, j < k → ¬ sd_up fx fy a j fn) → ∀ (H : Heap) (locs : List Loc), gx_W G A s ([(ad 0, .inr (11, [.int cd, .int (nI pn), .ref (ad 1), .ref (ad 2), .ref (ad 3), .ref (ad 4), .ref (ad 5), .int (nI fn), .ref (ad 6), .ref (ad 7), .int (nI dn), .ref (ad 8), .long ex, .long ey, .long eg, .int (nI cn), .ref (ad 9), .ref (ad 10), .int (nI sn), .int at0, .int fl, .int (nI tn), .ref (ad 11), .ref (ad 12)])), (ad 1, .inl (G.2.1 2, 16, .inr (.inl px))), (ad 2, .inl (G.2.1 2, 16, .inr (.inl py))), (ad 3, .inl (G.2.1 2, 16, .inr (.inl pz))), (ad 4, .inl (G.2.1 2, 16, .inr (.inl gr))), (ad 5, .inl (G.2.1 2, 16, .inr (.inl ou))), (ad 6, .inl (G.2.1 2, 12, .inr (.inl fx))), (ad 7, .inl (G.2.1 2, 12, .inr (.inl fy))), (ad 8, .inl (G.2.1 1, 8, .inl od)), (ad 9, .inl (G.2.1 1, 12, .inl cr)), (ad 10, .inl (G.2.1 1, 200, .inl ty)), (ad 11, .inl (G.2.1 1, 48, .inl to_)), (ad 12, .inl (G.2.1 1, 48, .inl dr))]) H locs → ∀ ls : Array Slot, lv_has ls 3 [(2, .int (nI k)), (1, .int (nI a)), (0, .ref (ad 0))] → W p l e ({ frames := 2, cells := 0, slots := 0, locals := 56 } : Room) s m args below meth c H locs 0 0 (MQ below (gx_Q G A (fun v u => ∃ k : Nat, nx_is fx fy fn a k ∧ v = some (.int (nI k)) ∧ u = [(ad 0, .inr (11, [.int cd, .int (nI pn), .ref (ad 1), .ref (ad 2), .ref (ad 3), .ref (ad 4), .ref (ad 5), .int (nI fn), .ref (ad 6), .ref (ad 7), .int (nI dn), .ref (ad 8), .long ex, .long ey, .long eg, .int (nI cn), .ref (ad 9), .ref (ad 10), .int (nI sn), .int at0, .int fl, .int (nI tn), .ref (ad 11), .ref (ad 12)])), (ad 1, .inl (G.2.1 2, 16, .inr (.inl px))), (ad 2, .inl (G.2.1 2, 16, .inr (.inl py))), (ad 3, .inl (G.2.1 2, 16, .inr (.inl pz))), (ad 4, .inl (G.2.1 2, 16, .inr (.inl gr))), (ad 5, .inl (G.2.1 2, 16, .inr (.inl ou))), (ad 6, .inl (G.2.1 2, 12, .inr (.inl fx))), (ad 7, .inl (G.2.1 2, 12, .inr (.inl fy))), (ad 8, .inl (G.2.1 1, 8, .inl od)), (ad 9, .inl (G.2.1 1, 12, .inl cr)), (ad 10, .inl (G.2.1 1, 200, .inl ty)), (ad 11, .inl (G.2.1 1, 48, .inl to_)), (ad 12, .inl (G.2.1 1, 48, .inl dr))])) args s (({ frames := 2, cells := 0, slots := 0, locals := 56 } : Room)).cells (({ frames := 2, cells := 0, slots := 0, locals := 56 } : Room)).slots A) (F0 m 2 ls []) := by
    intro fu
    induction fu with
    | zero => intro k hfu hi hno H locs hW ls hl; exact absurd hfu (Nat.not_lt_zero _)
    | succ fu ih =>
      intro k hfu hi hno H locs hW ls hl
      rcases Nat.lt_or_ge k fn with hik | hik
      · refine lv_iload_n gX gB dX6_next_2 rfl (lv_at hl 0 rfl) ?_
        refine lv_aload_n gX gB dX6_next_3 rfl (lv_at hl 2 rfl) ?_
        refine gx_get C hW fX6_68 ⟨0, rfl⟩ rfl dX6_next_4 ?_
        refine lv_icmp_ge (tgt := 27) gX gB dX6_next_7 (by decide) (fun h9 => absurd (show (nI fn) ≤ (nI k) from h9) (nI_ge hik (by omega))) (fun _ => ?_)
        refine lv_aload_n gX gB dX6_next_10 rfl (lv_at hl 2 rfl) ?_
        refine lv_iload_n gX gB dX6_next_11 rfl (lv_at hl 1 rfl) ?_
        refine lv_iload_n gX gB dX6_next_12 rfl (lv_at hl 0 rfl) ?_
        refine gx_callV (wr := []) (rest := []) C hW sX6_91 (kX6_isSide l G ad cd pn fn dn cn sn tn ex ey eg at0 fl px py pz gr ou fx fy od cr ty to_ dr hfn a k ha (by omega)) ⟨0, rfl⟩ rfl rfl ⟨(Nat.le_of_ble_eq_true rfl), (Nat.le_of_ble_eq_true rfl)⟩ hl.1 rfl (Nat.le_of_ble_eq_true rfl) dX6_next_13 ⟨(Nat.le_of_ble_eq_true rfl), (Nat.le_of_ble_eq_true rfl)⟩ (fun v9 u9 H locs hp hW => ?_)
        obtain ⟨b9, hb9, rfl, hu⟩ := hp
        rw [hu] at hW
        have hW : gx_W G A s ([(ad 0, .inr (11, [.int cd, .int (nI pn), .ref (ad 1), .ref (ad 2), .ref (ad 3), .ref (ad 4), .ref (ad 5), .int (nI fn), .ref (ad 6), .ref (ad 7), .int (nI dn), .ref (ad 8), .long ex, .long ey, .long eg, .int (nI cn), .ref (ad 9), .ref (ad 10), .int (nI sn), .int at0, .int fl, .int (nI tn), .ref (ad 11), .ref (ad 12)])), (ad 1, .inl (G.2.1 2, 16, .inr (.inl px))), (ad 2, .inl (G.2.1 2, 16, .inr (.inl py))), (ad 3, .inl (G.2.1 2, 16, .inr (.inl pz))), (ad 4, .inl (G.2.1 2, 16, .inr (.inl gr))), (ad 5, .inl (G.2.1 2, 16, .inr (.inl ou))), (ad 6, .inl (G.2.1 2, 12, .inr (.inl fx))), (ad 7, .inl (G.2.1 2, 12, .inr (.inl fy))), (ad 8, .inl (G.2.1 1, 8, .inl od)), (ad 9, .inl (G.2.1 1, 12, .inl cr)), (ad 10, .inl (G.2.1 1, 200, .inl ty)), (ad 11, .inl (G.2.1 1, 48, .inl to_)), (ad 12, .inl (G.2.1 1, 48, .inl dr))]) H locs := hW
        refine W.eq (g2 := F0 m 16 ls [.int b9]) rfl ?_
        refine W.widen (k := 0) (n := 0) (Nat.le_of_ble_eq_true rfl) (Nat.le_of_ble_eq_true rfl) ?_
        rcases hb9 with ⟨hb1, hup⟩ | ⟨hb1, hup⟩
        · refine lv_if_eq (tgt := 21) gX gB dX6_next_16 (by decide) (fun h9 => absurd (show b9 = (0 : Int32) from h9) (by rw [hb1]; decide)) (fun _ => ?_)
          refine lv_iload_n gX gB dX6_next_19 rfl (lv_at hl 0 rfl) ?_
          exact gx_iret C hr hW (⟨k, Or.inl ⟨hik, hup, hno⟩, rfl, rfl⟩) (Nat.le_of_ble_eq_true rfl) (Nat.le_of_ble_eq_true rfl) dX6_next_20
        · refine lv_if_eq (tgt := 21) gX gB dX6_next_16 (by decide) (fun _ => ?_) (fun h9 => absurd (show b9 = (0 : Int32) from hb1) h9)
          refine lv_iinc (v := nI (k + 1)) (lv' := [(2, .int (nI (k + 1))), (1, .int (nI a)), (0, .ref (ad 0))]) gX gB dX6_next_21 hl (k := 0) rfl (by exact nI_1 k) (by decide) rfl (fun ls hl => ?_)
          refine lv_goto (tgt := 2) gX gB dX6_next_24 (by decide) ?_
          exact ih (k + 1) (by omega) (by omega) (fun j hj => (Nat.lt_succ_iff_lt_or_eq.mp hj).elim (hno j) (fun z => by rw [z]; exact hup)) _ _ hW ls (lv_sub hl [0, 1, 2] rfl)
      · refine lv_iload_n gX gB dX6_next_2 rfl (lv_at hl 0 rfl) ?_
        refine lv_aload_n gX gB dX6_next_3 rfl (lv_at hl 2 rfl) ?_
        refine gx_get C hW fX6_68 ⟨0, rfl⟩ rfl dX6_next_4 ?_
        refine lv_icmp_ge (tgt := 27) gX gB dX6_next_7 (by decide) (fun _ => ?_) (fun h9 => absurd (show (nI fn) ≤ (nI k) from nI_le hik (by omega)) h9)
        refine lv_iload_n gX gB dX6_next_27 rfl (lv_at hl 1 rfl) ?_
        exact gx_iret C hr hW (⟨a, Or.inr ⟨rfl, fun j hj => hno j (by omega)⟩, rfl, rfl⟩) (Nat.le_of_ble_eq_true rfl) (Nat.le_of_ble_eq_true rfl) dX6_next_28
  exact loop (fn + 1) 0 (by omega) (Nat.zero_le _) (fun _ h => absurd h (Nat.not_lt_zero _)) _ _ hW ls (lv_sub hl [0, 2, 1] rfl)
theorem cr_up {cr1 : Nat → Int32} {F : Nat → Nat} {j : Nat} (h : ∀ z, z < j → cr1 z = nI (F z)) : ∀ z, z < j + 1 → upd cr1 j (nI (F j)) z = nI (F z) := by
  intro z hz
  unfold upd
  by_cases e : z = j
  · rw [if_pos e, e]
  · rw [if_neg e, h z (by omega)]
set_option maxHeartbeats 4000000 in
set_option maxRecDepth 100000 in
theorem kX6_wind (l : Launch) (G : gx_T) (ad : Nat → Nat) (cd : Int32) (pn fn dn cn sn tn : Nat) (ex ey eg : Int64) (at0 fl : Int32) (px py pz gr ou fx fy : Nat → Int64) (od cr ty to_ dr : Nat → Int32) (hfn1 : 1 ≤ fn) (hfn : fn ≤ 12) (nx : Nat → Nat) (N : Nat) (hwd : wd_ok fx fy fn nx N) : gx_M l G yX6_wind cX6_wind 4 none ({ frames := 3, cells := 0, slots := 0, locals := 78 } : Room) [.ref (ad 0)] ([(ad 0, .inr (11, [.int cd, .int (nI pn), .ref (ad 1), .ref (ad 2), .ref (ad 3), .ref (ad 4), .ref (ad 5), .int (nI fn), .ref (ad 6), .ref (ad 7), .int (nI dn), .ref (ad 8), .long ex, .long ey, .long eg, .int (nI cn), .ref (ad 9), .ref (ad 10), .int (nI sn), .int at0, .int fl, .int (nI tn), .ref (ad 11), .ref (ad 12)])), (ad 1, .inl (G.2.1 2, 16, .inr (.inl px))), (ad 2, .inl (G.2.1 2, 16, .inr (.inl py))), (ad 3, .inl (G.2.1 2, 16, .inr (.inl pz))), (ad 4, .inl (G.2.1 2, 16, .inr (.inl gr))), (ad 5, .inl (G.2.1 2, 16, .inr (.inl ou))), (ad 6, .inl (G.2.1 2, 12, .inr (.inl fx))), (ad 7, .inl (G.2.1 2, 12, .inr (.inl fy))), (ad 8, .inl (G.2.1 1, 8, .inl od)), (ad 9, .inl (G.2.1 1, 12, .inl cr)), (ad 10, .inl (G.2.1 1, 200, .inl ty)), (ad 11, .inl (G.2.1 1, 48, .inl to_)), (ad 12, .inl (G.2.1 1, 48, .inl dr))]) (fun v u => v = none ∧ ∃ cr1 : Nat → Int32, (∀ z, z < N → cr1 z = nI (nx_it nx (fi_at fx fy fn) z)) ∧ u = [(ad 0, .inr (11, [.int cd, .int (nI pn), .ref (ad 1), .ref (ad 2), .ref (ad 3), .ref (ad 4), .ref (ad 5), .int (nI fn), .ref (ad 6), .ref (ad 7), .int (nI dn), .ref (ad 8), .long ex, .long ey, .long eg, .int (nI N), .ref (ad 9), .ref (ad 10), .int (nI sn), .int at0, .int fl, .int (nI tn), .ref (ad 11), .ref (ad 12)])), (ad 1, .inl (G.2.1 2, 16, .inr (.inl px))), (ad 2, .inl (G.2.1 2, 16, .inr (.inl py))), (ad 3, .inl (G.2.1 2, 16, .inr (.inl pz))), (ad 4, .inl (G.2.1 2, 16, .inr (.inl gr))), (ad 5, .inl (G.2.1 2, 16, .inr (.inl ou))), (ad 6, .inl (G.2.1 2, 12, .inr (.inl fx))), (ad 7, .inl (G.2.1 2, 12, .inr (.inl fy))), (ad 8, .inl (G.2.1 1, 8, .inl od)), (ad 9, .inl (G.2.1 1, 12, .inl cr1)), (ad 10, .inl (G.2.1 1, 200, .inl ty)), (ad 11, .inl (G.2.1 1, 48, .inl to_)), (ad 12, .inl (G.2.1 1, 48, .inl dr))]) := by
  obtain ⟨hN0, hN12, hnx, hlt, hne, hNN⟩ := hwd
  refine gx_start (by decide +kernel) (Nat.le_of_ble_eq_true rfl) ?_
  intro p e s m args below meth c A ls C hr hnm hW hl
  have gX := C.x
  have gB := C.b
  have hl : lv_has ls 4 [(0, .ref (ad 0))] := hl
  refine lv_iconst (v := 0) gX gB dX6_wind_0 (by decide) ?_
  refine lv_istore_n (lv' := [(1, .int 0), (0, .ref (ad 0))]) gX gB dX6_wind_1 rfl hl (by decide) rfl (fun ls hl => ?_)
  refine lv_iconst (v := 1) gX gB dX6_wind_2 (by decide) ?_
  refine lv_istore_n (lv' := [(2, .int 1), (1, .int 0), (0, .ref (ad 0))]) gX gB dX6_wind_3 rfl hl (by decide) rfl (fun ls hl => ?_)
  have hl : lv_has ls 4 [(2, .int (nI 1)), (1, .int (nI (fi_at fx fy 1))), (0, .ref (ad 0))] := hl
  have loop : ∀ (fu : Nat) (i : Nat), (fn - i < fu) → (1 ≤ i) → (i ≤ fn) → ∀ (H : Heap) (locs : List Loc), gx_W G A s ([(ad 0, .inr (11, [.int cd, .int (nI pn), .ref (ad 1), .ref (ad 2), .ref (ad 3), .ref (ad 4), .ref (ad 5), .int (nI fn), .ref (ad 6), .ref (ad 7), .int (nI dn), .ref (ad 8), .long ex, .long ey, .long eg, .int (nI cn), .ref (ad 9), .ref (ad 10), .int (nI sn), .int at0, .int fl, .int (nI tn), .ref (ad 11), .ref (ad 12)])), (ad 1, .inl (G.2.1 2, 16, .inr (.inl px))), (ad 2, .inl (G.2.1 2, 16, .inr (.inl py))), (ad 3, .inl (G.2.1 2, 16, .inr (.inl pz))), (ad 4, .inl (G.2.1 2, 16, .inr (.inl gr))), (ad 5, .inl (G.2.1 2, 16, .inr (.inl ou))), (ad 6, .inl (G.2.1 2, 12, .inr (.inl fx))), (ad 7, .inl (G.2.1 2, 12, .inr (.inl fy))), (ad 8, .inl (G.2.1 1, 8, .inl od)), (ad 9, .inl (G.2.1 1, 12, .inl cr)), (ad 10, .inl (G.2.1 1, 200, .inl ty)), (ad 11, .inl (G.2.1 1, 48, .inl to_)), (ad 12, .inl (G.2.1 1, 48, .inl dr))]) H locs → ∀ ls : Array Slot, lv_has ls 4 [(1, .int (nI (fi_at fx fy i))), (2, .int (nI i)), (0, .ref (ad 0))] → W p l e ({ frames := 3, cells := 0, slots := 0, locals := 78 } : Room) s m args below meth c H locs 0 0 (MQ below (gx_Q G A (fun v u => v = none ∧ ∃ cr1 : Nat → Int32, (∀ z, z < N → cr1 z = nI (nx_it nx (fi_at fx fy fn) z)) ∧ u = [(ad 0, .inr (11, [.int cd, .int (nI pn), .ref (ad 1), .ref (ad 2), .ref (ad 3), .ref (ad 4), .ref (ad 5), .int (nI fn), .ref (ad 6), .ref (ad 7), .int (nI dn), .ref (ad 8), .long ex, .long ey, .long eg, .int (nI N), .ref (ad 9), .ref (ad 10), .int (nI sn), .int at0, .int fl, .int (nI tn), .ref (ad 11), .ref (ad 12)])), (ad 1, .inl (G.2.1 2, 16, .inr (.inl px))), (ad 2, .inl (G.2.1 2, 16, .inr (.inl py))), (ad 3, .inl (G.2.1 2, 16, .inr (.inl pz))), (ad 4, .inl (G.2.1 2, 16, .inr (.inl gr))), (ad 5, .inl (G.2.1 2, 16, .inr (.inl ou))), (ad 6, .inl (G.2.1 2, 12, .inr (.inl fx))), (ad 7, .inl (G.2.1 2, 12, .inr (.inl fy))), (ad 8, .inl (G.2.1 1, 8, .inl od)), (ad 9, .inl (G.2.1 1, 12, .inl cr1)), (ad 10, .inl (G.2.1 1, 200, .inl ty)), (ad 11, .inl (G.2.1 1, 48, .inl to_)), (ad 12, .inl (G.2.1 1, 48, .inl dr))])) args s (({ frames := 3, cells := 0, slots := 0, locals := 78 } : Room)).cells (({ frames := 3, cells := 0, slots := 0, locals := 78 } : Room)).slots A) (F0 m 4 ls []) := by
    intro fu
    induction fu with
    | zero => intro i hfu hi1 hi H locs hW ls hl; exact absurd hfu (Nat.not_lt_zero _)
    | succ fu ih =>
      intro i hfu hi1 hi H locs hW ls hl
      rcases Nat.lt_or_ge i fn with hin | hin
      · have hfi : fi_at fx fy i < 12 := by have := fi_le fx fy i hi1; omega
        refine lv_iload_n gX gB dX6_wind_4 rfl (lv_at hl 1 rfl) ?_
        refine lv_aload_n gX gB dX6_wind_5 rfl (lv_at hl 2 rfl) ?_
        refine gx_get C hW fX6_68 ⟨0, rfl⟩ rfl dX6_wind_6 ?_
        refine lv_icmp_ge (tgt := 72) gX gB dX6_wind_9 (by decide) (fun h9 => absurd (show (nI fn) ≤ (nI i) from h9) (nI_ge hin (by omega))) (fun _ => ?_)
        refine lv_aload_n gX gB dX6_wind_12 rfl (lv_at hl 2 rfl) ?_
        refine gx_get C hW fX6_25 ⟨0, rfl⟩ rfl dX6_wind_13 ?_
        refine lv_iload_n gX gB dX6_wind_16 rfl (lv_at hl 1 rfl) ?_
        refine gx_lald C hW ⟨6, rfl⟩ (j := i) rfl (by omega) (by omega) dX6_wind_17 ?_
        refine lv_aload_n gX gB dX6_wind_18 rfl (lv_at hl 2 rfl) ?_
        refine gx_get C hW fX6_25 ⟨0, rfl⟩ rfl dX6_wind_19 ?_
        refine lv_iload_n gX gB dX6_wind_22 rfl (lv_at hl 0 rfl) ?_
        refine gx_lald C hW ⟨6, rfl⟩ (j := (fi_at fx fy i)) rfl hfi (by omega) dX6_wind_23 ?_
        refine gx_lc_lt (tgt := 60) C dX6_wind_24 dX6_wind_25 (by decide) (fun c24 => ?_) (fun c24 => ?_)
        · refine lv_iload_n gX gB dX6_wind_60 rfl (lv_at hl 1 rfl) ?_
          refine lv_goto (tgt := 65) gX gB dX6_wind_61 (by decide) ?_
          refine gx_topi (show (nI i) = nI (fi_at fx fy (i + 1)) from congrArg nI (fi_1 hi1 (Or.inl c24)).symm) ?_
          refine lv_istore_n (lv' := [(1, .int (nI (fi_at fx fy (i + 1)))), (2, .int (nI i)), (0, .ref (ad 0))]) gX gB dX6_wind_65 rfl hl (by decide) rfl (fun ls hl => ?_)
          refine lv_iinc (v := nI (i + 1)) (lv' := [(2, .int (nI (i + 1))), (1, .int (nI (fi_at fx fy (i + 1)))), (0, .ref (ad 0))]) gX gB dX6_wind_66 hl (k := 1) rfl (by exact nI_1 i) (by decide) rfl (fun ls hl => ?_)
          refine lv_goto (tgt := 4) gX gB dX6_wind_69 (by decide) ?_
          exact ih (i + 1) (by omega) (by omega) (by omega) _ _ hW ls (lv_sub hl [1, 0, 2] rfl)
        · refine lv_aload_n gX gB dX6_wind_28 rfl (lv_at hl 2 rfl) ?_
          refine gx_get C hW fX6_25 ⟨0, rfl⟩ rfl dX6_wind_29 ?_
          refine lv_iload_n gX gB dX6_wind_32 rfl (lv_at hl 1 rfl) ?_
          refine gx_lald C hW ⟨6, rfl⟩ (j := i) rfl (by omega) (by omega) dX6_wind_33 ?_
          refine lv_aload_n gX gB dX6_wind_34 rfl (lv_at hl 2 rfl) ?_
          refine gx_get C hW fX6_25 ⟨0, rfl⟩ rfl dX6_wind_35 ?_
          refine lv_iload_n gX gB dX6_wind_38 rfl (lv_at hl 0 rfl) ?_
          refine gx_lald C hW ⟨6, rfl⟩ (j := (fi_at fx fy i)) rfl hfi (by omega) dX6_wind_39 ?_
          refine gx_lc_ne (tgt := 64) C dX6_wind_40 dX6_wind_41 (by decide) (fun c40 => ?_) (fun c40 => ?_)
          · refine lv_iload_n gX gB dX6_wind_64 rfl (lv_at hl 0 rfl) ?_
            refine gx_topi (show (nI (fi_at fx fy i)) = nI (fi_at fx fy (i + 1)) from congrArg nI (fi_0 hi1 (fun zz => zz.elim c24 (fun z2 => c40 z2.1))).symm) ?_
            refine lv_istore_n (lv' := [(1, .int (nI (fi_at fx fy (i + 1)))), (2, .int (nI i)), (0, .ref (ad 0))]) gX gB dX6_wind_65 rfl hl (by decide) rfl (fun ls hl => ?_)
            refine lv_iinc (v := nI (i + 1)) (lv' := [(2, .int (nI (i + 1))), (1, .int (nI (fi_at fx fy (i + 1)))), (0, .ref (ad 0))]) gX gB dX6_wind_66 hl (k := 1) rfl (by exact nI_1 i) (by decide) rfl (fun ls hl => ?_)
            refine lv_goto (tgt := 4) gX gB dX6_wind_69 (by decide) ?_
            exact ih (i + 1) (by omega) (by omega) (by omega) _ _ hW ls (lv_sub hl [1, 0, 2] rfl)
          · refine lv_aload_n gX gB dX6_wind_44 rfl (lv_at hl 2 rfl) ?_
            refine gx_get C hW fX6_28 ⟨0, rfl⟩ rfl dX6_wind_45 ?_
            refine lv_iload_n gX gB dX6_wind_48 rfl (lv_at hl 1 rfl) ?_
            refine gx_lald C hW ⟨7, rfl⟩ (j := i) rfl (by omega) (by omega) dX6_wind_49 ?_
            refine lv_aload_n gX gB dX6_wind_50 rfl (lv_at hl 2 rfl) ?_
            refine gx_get C hW fX6_28 ⟨0, rfl⟩ rfl dX6_wind_51 ?_
            refine lv_iload_n gX gB dX6_wind_54 rfl (lv_at hl 0 rfl) ?_
            refine gx_lald C hW ⟨7, rfl⟩ (j := (fi_at fx fy i)) rfl hfi (by omega) dX6_wind_55 ?_
            refine gx_lc_ge (tgt := 64) C dX6_wind_56 dX6_wind_57 (by decide) (fun c56 => ?_) (fun c56 => ?_)
            · refine lv_iload_n gX gB dX6_wind_64 rfl (lv_at hl 0 rfl) ?_
              refine gx_topi (show (nI (fi_at fx fy i)) = nI (fi_at fx fy (i + 1)) from congrArg nI (fi_0 hi1 (fun zz => zz.elim c24 (fun z2 => Int64.not_lt.mpr c56 z2.2))).symm) ?_
              refine lv_istore_n (lv' := [(1, .int (nI (fi_at fx fy (i + 1)))), (2, .int (nI i)), (0, .ref (ad 0))]) gX gB dX6_wind_65 rfl hl (by decide) rfl (fun ls hl => ?_)
              refine lv_iinc (v := nI (i + 1)) (lv' := [(2, .int (nI (i + 1))), (1, .int (nI (fi_at fx fy (i + 1)))), (0, .ref (ad 0))]) gX gB dX6_wind_66 hl (k := 1) rfl (by exact nI_1 i) (by decide) rfl (fun ls hl => ?_)
              refine lv_goto (tgt := 4) gX gB dX6_wind_69 (by decide) ?_
              exact ih (i + 1) (by omega) (by omega) (by omega) _ _ hW ls (lv_sub hl [1, 0, 2] rfl)
            · refine lv_iload_n gX gB dX6_wind_60 rfl (lv_at hl 1 rfl) ?_
              refine lv_goto (tgt := 65) gX gB dX6_wind_61 (by decide) ?_
              refine gx_topi (show (nI i) = nI (fi_at fx fy (i + 1)) from congrArg nI (fi_1 hi1 (Or.inr ⟨c40, Int64.not_le.mp c56⟩)).symm) ?_
              refine lv_istore_n (lv' := [(1, .int (nI (fi_at fx fy (i + 1)))), (2, .int (nI i)), (0, .ref (ad 0))]) gX gB dX6_wind_65 rfl hl (by decide) rfl (fun ls hl => ?_)
              refine lv_iinc (v := nI (i + 1)) (lv' := [(2, .int (nI (i + 1))), (1, .int (nI (fi_at fx fy (i + 1)))), (0, .ref (ad 0))]) gX gB dX6_wind_66 hl (k := 1) rfl (by exact nI_1 i) (by decide) rfl (fun ls hl => ?_)
              refine lv_goto (tgt := 4) gX gB dX6_wind_69 (by decide) ?_
              exact ih (i + 1) (by omega) (by omega) (by omega) _ _ hW ls (lv_sub hl [1, 0, 2] rfl)
      · have e9 : i = fn := by omega
        rw [e9] at hl
        refine lv_iload_n gX gB dX6_wind_4 rfl (lv_at hl 1 rfl) ?_
        refine lv_aload_n gX gB dX6_wind_5 rfl (lv_at hl 2 rfl) ?_
        refine gx_get C hW fX6_68 ⟨0, rfl⟩ rfl dX6_wind_6 ?_
        refine lv_icmp_ge (tgt := 72) gX gB dX6_wind_9 (by decide) (fun _ => ?_) (fun h9 => absurd (show (nI fn) ≤ (nI fn) from Int32.le_refl _) h9)
        refine lv_aload_n gX gB dX6_wind_72 rfl (lv_at hl 2 rfl) ?_
        refine lv_iconst (v := 0) gX gB dX6_wind_73 (by decide) ?_
        refine gx_putE C hW clX6 fX6_95 0 rfl (Or.inl rfl) rfl rfl (Nat.le_of_ble_eq_true rfl) dX6_wind_74 (fun H locs hW => ?_)
        have hW : gx_W G A s ([(ad 0, .inr (11, [.int cd, .int (nI pn), .ref (ad 1), .ref (ad 2), .ref (ad 3), .ref (ad 4), .ref (ad 5), .int (nI fn), .ref (ad 6), .ref (ad 7), .int (nI dn), .ref (ad 8), .long ex, .long ey, .long eg, .int 0, .ref (ad 9), .ref (ad 10), .int (nI sn), .int at0, .int fl, .int (nI tn), .ref (ad 11), .ref (ad 12)])), (ad 1, .inl (G.2.1 2, 16, .inr (.inl px))), (ad 2, .inl (G.2.1 2, 16, .inr (.inl py))), (ad 3, .inl (G.2.1 2, 16, .inr (.inl pz))), (ad 4, .inl (G.2.1 2, 16, .inr (.inl gr))), (ad 5, .inl (G.2.1 2, 16, .inr (.inl ou))), (ad 6, .inl (G.2.1 2, 12, .inr (.inl fx))), (ad 7, .inl (G.2.1 2, 12, .inr (.inl fy))), (ad 8, .inl (G.2.1 1, 8, .inl od)), (ad 9, .inl (G.2.1 1, 12, .inl cr)), (ad 10, .inl (G.2.1 1, 200, .inl ty)), (ad 11, .inl (G.2.1 1, 48, .inl to_)), (ad 12, .inl (G.2.1 1, 48, .inl dr))]) H locs := hW
        refine lv_iload_n gX gB dX6_wind_77 rfl (lv_at hl 0 rfl) ?_
        refine lv_istore_n (lv' := [(2, .int (nI (fi_at fx fy fn))), (1, .int (nI (fi_at fx fy fn))), (0, .ref (ad 0))]) gX gB dX6_wind_78 rfl hl (by decide) rfl (fun ls hl => ?_)
        refine lv_iconst (v := 1) gX gB dX6_wind_79 (by decide) ?_
        refine lv_istore_n (lv' := [(3, .int 1), (2, .int (nI (fi_at fx fy fn))), (1, .int (nI (fi_at fx fy fn))), (0, .ref (ad 0))]) gX gB dX6_wind_80 rfl hl (by decide) rfl (fun ls hl => ?_)
        have hl : lv_has ls 4 [(3, .int 1), (2, .int (nI (nx_it nx (fi_at fx fy fn) 0))), (1, .int (nI (fi_at fx fy fn))), (0, .ref (ad 0))] := hl
        have loop2 : ∀ (fu : Nat) (j : Nat) (b9 : Int32) (cr1 : Nat → Int32), (N - j < fu) → (j ≤ N) → ((b9 = 1 ∧ j < N) ∨ (b9 = 0 ∧ j = N)) → (∀ z, z < j → cr1 z = nI (nx_it nx (fi_at fx fy fn) z)) → ∀ (H : Heap) (locs : List Loc), gx_W G A s ([(ad 0, .inr (11, [.int cd, .int (nI pn), .ref (ad 1), .ref (ad 2), .ref (ad 3), .ref (ad 4), .ref (ad 5), .int (nI fn), .ref (ad 6), .ref (ad 7), .int (nI dn), .ref (ad 8), .long ex, .long ey, .long eg, .int (nI j), .ref (ad 9), .ref (ad 10), .int (nI sn), .int at0, .int fl, .int (nI tn), .ref (ad 11), .ref (ad 12)])), (ad 1, .inl (G.2.1 2, 16, .inr (.inl px))), (ad 2, .inl (G.2.1 2, 16, .inr (.inl py))), (ad 3, .inl (G.2.1 2, 16, .inr (.inl pz))), (ad 4, .inl (G.2.1 2, 16, .inr (.inl gr))), (ad 5, .inl (G.2.1 2, 16, .inr (.inl ou))), (ad 6, .inl (G.2.1 2, 12, .inr (.inl fx))), (ad 7, .inl (G.2.1 2, 12, .inr (.inl fy))), (ad 8, .inl (G.2.1 1, 8, .inl od)), (ad 9, .inl (G.2.1 1, 12, .inl cr1)), (ad 10, .inl (G.2.1 1, 200, .inl ty)), (ad 11, .inl (G.2.1 1, 48, .inl to_)), (ad 12, .inl (G.2.1 1, 48, .inl dr))]) H locs → ∀ ls : Array Slot, lv_has ls 4 [(1, .int (nI (fi_at fx fy fn))), (2, .int (nI (nx_it nx (fi_at fx fy fn) j))), (3, .int b9), (0, .ref (ad 0))] → W p l e ({ frames := 3, cells := 0, slots := 0, locals := 78 } : Room) s m args below meth c H locs 0 0 (MQ below (gx_Q G A (fun v u => v = none ∧ ∃ cr1 : Nat → Int32, (∀ z, z < N → cr1 z = nI (nx_it nx (fi_at fx fy fn) z)) ∧ u = [(ad 0, .inr (11, [.int cd, .int (nI pn), .ref (ad 1), .ref (ad 2), .ref (ad 3), .ref (ad 4), .ref (ad 5), .int (nI fn), .ref (ad 6), .ref (ad 7), .int (nI dn), .ref (ad 8), .long ex, .long ey, .long eg, .int (nI N), .ref (ad 9), .ref (ad 10), .int (nI sn), .int at0, .int fl, .int (nI tn), .ref (ad 11), .ref (ad 12)])), (ad 1, .inl (G.2.1 2, 16, .inr (.inl px))), (ad 2, .inl (G.2.1 2, 16, .inr (.inl py))), (ad 3, .inl (G.2.1 2, 16, .inr (.inl pz))), (ad 4, .inl (G.2.1 2, 16, .inr (.inl gr))), (ad 5, .inl (G.2.1 2, 16, .inr (.inl ou))), (ad 6, .inl (G.2.1 2, 12, .inr (.inl fx))), (ad 7, .inl (G.2.1 2, 12, .inr (.inl fy))), (ad 8, .inl (G.2.1 1, 8, .inl od)), (ad 9, .inl (G.2.1 1, 12, .inl cr1)), (ad 10, .inl (G.2.1 1, 200, .inl ty)), (ad 11, .inl (G.2.1 1, 48, .inl to_)), (ad 12, .inl (G.2.1 1, 48, .inl dr))])) args s (({ frames := 3, cells := 0, slots := 0, locals := 78 } : Room)).cells (({ frames := 3, cells := 0, slots := 0, locals := 78 } : Room)).slots A) (F0 m 81 ls []) := by
          intro fu
          induction fu with
          | zero => intro j b9 cr1 hfu hj hb9 hcr H locs hW ls hl; exact absurd hfu (Nat.not_lt_zero _)
          | succ fu ih =>
            intro j b9 cr1 hfu hj hb9 hcr H locs hW ls hl
            rcases hb9 with ⟨hb1, hb2⟩ | ⟨hb1, hb2⟩
            · refine lv_iload_n gX gB dX6_wind_81 rfl (lv_at hl 2 rfl) ?_
              refine lv_if_eq (tgt := 125) gX gB dX6_wind_82 (by decide) (fun h9 => absurd (show b9 = (0 : Int32) from h9) (by rw [hb1]; decide)) (fun _ => ?_)
              refine lv_aload_n gX gB dX6_wind_85 rfl (lv_at hl 3 rfl) ?_
              refine gx_get C hW fX6_35 ⟨0, rfl⟩ rfl dX6_wind_86 ?_
              refine lv_aload_n gX gB dX6_wind_89 rfl (lv_at hl 3 rfl) ?_
              refine gx_get C hW fX6_95 ⟨0, rfl⟩ rfl dX6_wind_90 ?_
              refine lv_iload_n gX gB dX6_wind_93 rfl (lv_at hl 1 rfl) ?_
              refine gx_iastE C hW 9 (j := j) rfl rfl (by omega) (by omega) dX6_wind_94 (fun H locs hW => ?_)
              have hW : gx_W G A s ([(ad 0, .inr (11, [.int cd, .int (nI pn), .ref (ad 1), .ref (ad 2), .ref (ad 3), .ref (ad 4), .ref (ad 5), .int (nI fn), .ref (ad 6), .ref (ad 7), .int (nI dn), .ref (ad 8), .long ex, .long ey, .long eg, .int (nI j), .ref (ad 9), .ref (ad 10), .int (nI sn), .int at0, .int fl, .int (nI tn), .ref (ad 11), .ref (ad 12)])), (ad 1, .inl (G.2.1 2, 16, .inr (.inl px))), (ad 2, .inl (G.2.1 2, 16, .inr (.inl py))), (ad 3, .inl (G.2.1 2, 16, .inr (.inl pz))), (ad 4, .inl (G.2.1 2, 16, .inr (.inl gr))), (ad 5, .inl (G.2.1 2, 16, .inr (.inl ou))), (ad 6, .inl (G.2.1 2, 12, .inr (.inl fx))), (ad 7, .inl (G.2.1 2, 12, .inr (.inl fy))), (ad 8, .inl (G.2.1 1, 8, .inl od)), (ad 9, .inl (G.2.1 1, 12, .inl (upd cr1 j (nI (nx_it nx (fi_at fx fy fn) j))))), (ad 10, .inl (G.2.1 1, 200, .inl ty)), (ad 11, .inl (G.2.1 1, 48, .inl to_)), (ad 12, .inl (G.2.1 1, 48, .inl dr))]) H locs := hW
              refine lv_aload_n gX gB dX6_wind_95 rfl (lv_at hl 3 rfl) ?_
              refine lv_dup gX gB dX6_wind_96 rfl ?_
              refine gx_get C hW fX6_95 ⟨0, rfl⟩ rfl dX6_wind_97 ?_
              refine lv_iconst (v := 1) gX gB dX6_wind_100 (by decide) ?_
              refine lv_iadd gX gB dX6_wind_101 ?_
              refine gx_topi (show ((nI j) + 1) = nI (j + 1) from nI_1 j) ?_
              refine gx_putE C hW clX6 fX6_95 0 rfl (Or.inl rfl) rfl rfl (Nat.le_of_ble_eq_true rfl) dX6_wind_102 (fun H locs hW => ?_)
              have hW : gx_W G A s ([(ad 0, .inr (11, [.int cd, .int (nI pn), .ref (ad 1), .ref (ad 2), .ref (ad 3), .ref (ad 4), .ref (ad 5), .int (nI fn), .ref (ad 6), .ref (ad 7), .int (nI dn), .ref (ad 8), .long ex, .long ey, .long eg, .int (nI (j + 1)), .ref (ad 9), .ref (ad 10), .int (nI sn), .int at0, .int fl, .int (nI tn), .ref (ad 11), .ref (ad 12)])), (ad 1, .inl (G.2.1 2, 16, .inr (.inl px))), (ad 2, .inl (G.2.1 2, 16, .inr (.inl py))), (ad 3, .inl (G.2.1 2, 16, .inr (.inl pz))), (ad 4, .inl (G.2.1 2, 16, .inr (.inl gr))), (ad 5, .inl (G.2.1 2, 16, .inr (.inl ou))), (ad 6, .inl (G.2.1 2, 12, .inr (.inl fx))), (ad 7, .inl (G.2.1 2, 12, .inr (.inl fy))), (ad 8, .inl (G.2.1 1, 8, .inl od)), (ad 9, .inl (G.2.1 1, 12, .inl (upd cr1 j (nI (nx_it nx (fi_at fx fy fn) j))))), (ad 10, .inl (G.2.1 1, 200, .inl ty)), (ad 11, .inl (G.2.1 1, 48, .inl to_)), (ad 12, .inl (G.2.1 1, 48, .inl dr))]) H locs := hW
              refine lv_aload_n gX gB dX6_wind_105 rfl (lv_at hl 3 rfl) ?_
              refine lv_iload_n gX gB dX6_wind_106 rfl (lv_at hl 1 rfl) ?_
              refine gx_callV (wr := []) (rest := []) C hW sX6_98 (kX6_next l G ad cd pn fn dn (j + 1) sn tn ex ey eg at0 fl px py pz gr ou fx fy od (upd cr1 j (nI (nx_it nx (fi_at fx fy fn) j))) ty to_ dr hfn (nx_it nx (fi_at fx fy fn) j) (by have := hlt j; omega)) ⟨0, rfl⟩ rfl rfl ⟨(Nat.le_of_ble_eq_true rfl), (Nat.le_of_ble_eq_true rfl)⟩ hl.1 rfl (Nat.le_of_ble_eq_true rfl) dX6_wind_107 ⟨(Nat.le_of_ble_eq_true rfl), (Nat.le_of_ble_eq_true rfl)⟩ (fun v9 u9 H locs hp hW => ?_)
              obtain ⟨k, hk, rfl, hu⟩ := hp
              rw [hu] at hW
              have hW : gx_W G A s ([(ad 0, .inr (11, [.int cd, .int (nI pn), .ref (ad 1), .ref (ad 2), .ref (ad 3), .ref (ad 4), .ref (ad 5), .int (nI fn), .ref (ad 6), .ref (ad 7), .int (nI dn), .ref (ad 8), .long ex, .long ey, .long eg, .int (nI (j + 1)), .ref (ad 9), .ref (ad 10), .int (nI sn), .int at0, .int fl, .int (nI tn), .ref (ad 11), .ref (ad 12)])), (ad 1, .inl (G.2.1 2, 16, .inr (.inl px))), (ad 2, .inl (G.2.1 2, 16, .inr (.inl py))), (ad 3, .inl (G.2.1 2, 16, .inr (.inl pz))), (ad 4, .inl (G.2.1 2, 16, .inr (.inl gr))), (ad 5, .inl (G.2.1 2, 16, .inr (.inl ou))), (ad 6, .inl (G.2.1 2, 12, .inr (.inl fx))), (ad 7, .inl (G.2.1 2, 12, .inr (.inl fy))), (ad 8, .inl (G.2.1 1, 8, .inl od)), (ad 9, .inl (G.2.1 1, 12, .inl (upd cr1 j (nI (nx_it nx (fi_at fx fy fn) j))))), (ad 10, .inl (G.2.1 1, 200, .inl ty)), (ad 11, .inl (G.2.1 1, 48, .inl to_)), (ad 12, .inl (G.2.1 1, 48, .inl dr))]) H locs := hW
              refine W.eq (g2 := F0 m 110 ls [.int (nI k)]) rfl ?_
              refine W.widen (k := 0) (n := 0) (Nat.le_of_ble_eq_true rfl) (Nat.le_of_ble_eq_true rfl) ?_
              have e8 : k = nx_it nx (fi_at fx fy fn) (j + 1) := hnx _ _ (hlt j) hk
              subst e8
              rcases (by omega : j + 1 = N ∨ j + 1 < N) with hjN | hjN
              · refine lv_istore_n (lv' := [(2, .int (nI (nx_it nx (fi_at fx fy fn) (j + 1)))), (1, .int (nI (fi_at fx fy fn))), (3, .int b9), (0, .ref (ad 0))]) gX gB dX6_wind_110 rfl hl (by decide) rfl (fun ls hl => ?_)
                refine lv_iload_n gX gB dX6_wind_111 rfl (lv_at hl 0 rfl) ?_
                refine lv_iload_n gX gB dX6_wind_112 rfl (lv_at hl 1 rfl) ?_
                refine lv_icmp_eq (tgt := 120) gX gB dX6_wind_113 (by decide) (fun _ => ?_) (fun h9 => absurd (show (nI (nx_it nx (fi_at fx fy fn) (j + 1))) = (nI (fi_at fx fy fn)) from by rw [hjN, hNN]) h9)
                refine lv_iconst (v := 0) gX gB dX6_wind_120 (by decide) ?_
                refine lv_istore_n (lv' := [(3, .int 0), (2, .int (nI (nx_it nx (fi_at fx fy fn) (j + 1)))), (1, .int (nI (fi_at fx fy fn))), (0, .ref (ad 0))]) gX gB dX6_wind_121 rfl hl (by decide) rfl (fun ls hl => ?_)
                refine lv_goto (tgt := 81) gX gB dX6_wind_122 (by decide) ?_
                exact ih (j + 1) 0 (upd cr1 j (nI (nx_it nx (fi_at fx fy fn) j))) (by omega) (by omega) (Or.inr ⟨rfl, hjN⟩) (cr_up hcr) _ _ hW ls (lv_sub hl [2, 1, 0, 3] rfl)
              · refine lv_istore_n (lv' := [(2, .int (nI (nx_it nx (fi_at fx fy fn) (j + 1)))), (1, .int (nI (fi_at fx fy fn))), (3, .int b9), (0, .ref (ad 0))]) gX gB dX6_wind_110 rfl hl (by decide) rfl (fun ls hl => ?_)
                refine lv_iload_n gX gB dX6_wind_111 rfl (lv_at hl 0 rfl) ?_
                refine lv_iload_n gX gB dX6_wind_112 rfl (lv_at hl 1 rfl) ?_
                refine lv_icmp_eq (tgt := 120) gX gB dX6_wind_113 (by decide) (fun h9 => absurd (show (nI (nx_it nx (fi_at fx fy fn) (j + 1))) = (nI (fi_at fx fy fn)) from h9) (fun zz => hne (j + 1) (by omega) hjN ((nI_eq (by have := hlt (j + 1); omega) (by have := fi_le fx fy fn hfn1; omega)).mp zz))) (fun _ => ?_)
                refine lv_iconst (v := 1) gX gB dX6_wind_116 (by decide) ?_
                refine lv_goto (tgt := 121) gX gB dX6_wind_117 (by decide) ?_
                refine lv_istore_n (lv' := [(3, .int 1), (2, .int (nI (nx_it nx (fi_at fx fy fn) (j + 1)))), (1, .int (nI (fi_at fx fy fn))), (0, .ref (ad 0))]) gX gB dX6_wind_121 rfl hl (by decide) rfl (fun ls hl => ?_)
                refine lv_goto (tgt := 81) gX gB dX6_wind_122 (by decide) ?_
                exact ih (j + 1) 1 (upd cr1 j (nI (nx_it nx (fi_at fx fy fn) j))) (by omega) (by omega) (Or.inl ⟨rfl, hjN⟩) (cr_up hcr) _ _ hW ls (lv_sub hl [2, 1, 0, 3] rfl)
            · refine lv_iload_n gX gB dX6_wind_81 rfl (lv_at hl 2 rfl) ?_
              refine lv_if_eq (tgt := 125) gX gB dX6_wind_82 (by decide) (fun _ => ?_) (fun h9 => absurd (show b9 = (0 : Int32) from hb1) h9)
              exact gx_vret C hr hW (⟨rfl, cr1, by rw [← hb2]; exact hcr, by rw [← hb2]⟩) (Nat.le_of_ble_eq_true rfl) (Nat.le_of_ble_eq_true rfl) dX6_wind_125
        exact loop2 (N + 1) 0 1 cr (by omega) (Nat.zero_le _) (Or.inl ⟨rfl, hN0⟩) (fun _ h => absurd h (Nat.not_lt_zero _)) _ _ hW ls (lv_sub hl [2, 1, 0, 3] rfl)
  exact loop (fn + 1) 1 (by omega) (Nat.le_refl _) (by omega) _ _ hW ls (lv_sub hl [1, 0, 2] rfl)
set_option maxHeartbeats 4000000 in
set_option maxRecDepth 100000 in
theorem kX6_foot (l : Launch) (G : gx_T) (ad : Nat → Nat) (cd : Int32) (pn fn dn cn sn tn : Nat) (ex ey eg : Int64) (at0 fl : Int32) (px py pz gr ou fx fy : Nat → Int64) (od cr ty to_ dr : Nat → Int32) (hfn : fn ≤ 12) (x y : Int64) (nx : Nat → Nat) (N : Nat) (hwd : fn < 12 → wd_ok (vp_updL fx fn x) (vp_updL fy fn y) (fn + 1) nx N) : gx_M l G yX6_foot cX6_foot 5 (some .boolean) ({ frames := 4, cells := 0, slots := 0, locals := 101 } : Room) [.ref (ad 0), .long x, .long y] ([(ad 0, .inr (11, [.int cd, .int (nI pn), .ref (ad 1), .ref (ad 2), .ref (ad 3), .ref (ad 4), .ref (ad 5), .int (nI fn), .ref (ad 6), .ref (ad 7), .int (nI dn), .ref (ad 8), .long ex, .long ey, .long eg, .int (nI cn), .ref (ad 9), .ref (ad 10), .int (nI sn), .int at0, .int fl, .int (nI tn), .ref (ad 11), .ref (ad 12)])), (ad 1, .inl (G.2.1 2, 16, .inr (.inl px))), (ad 2, .inl (G.2.1 2, 16, .inr (.inl py))), (ad 3, .inl (G.2.1 2, 16, .inr (.inl pz))), (ad 4, .inl (G.2.1 2, 16, .inr (.inl gr))), (ad 5, .inl (G.2.1 2, 16, .inr (.inl ou))), (ad 6, .inl (G.2.1 2, 12, .inr (.inl fx))), (ad 7, .inl (G.2.1 2, 12, .inr (.inl fy))), (ad 8, .inl (G.2.1 1, 8, .inl od)), (ad 9, .inl (G.2.1 1, 12, .inl cr)), (ad 10, .inl (G.2.1 1, 200, .inl ty)), (ad 11, .inl (G.2.1 1, 48, .inl to_)), (ad 12, .inl (G.2.1 1, 48, .inl dr))]) (fun v u => (fo_code x y = 0 ∧ ((fn = 12 ∧ v = some (.int 0) ∧ u = [(ad 0, .inr (11, [.int 0, .int (nI pn), .ref (ad 1), .ref (ad 2), .ref (ad 3), .ref (ad 4), .ref (ad 5), .int (nI fn), .ref (ad 6), .ref (ad 7), .int (nI dn), .ref (ad 8), .long ex, .long ey, .long eg, .int (nI cn), .ref (ad 9), .ref (ad 10), .int (nI sn), .int at0, .int fl, .int (nI tn), .ref (ad 11), .ref (ad 12)])), (ad 1, .inl (G.2.1 2, 16, .inr (.inl px))), (ad 2, .inl (G.2.1 2, 16, .inr (.inl py))), (ad 3, .inl (G.2.1 2, 16, .inr (.inl pz))), (ad 4, .inl (G.2.1 2, 16, .inr (.inl gr))), (ad 5, .inl (G.2.1 2, 16, .inr (.inl ou))), (ad 6, .inl (G.2.1 2, 12, .inr (.inl fx))), (ad 7, .inl (G.2.1 2, 12, .inr (.inl fy))), (ad 8, .inl (G.2.1 1, 8, .inl od)), (ad 9, .inl (G.2.1 1, 12, .inl cr)), (ad 10, .inl (G.2.1 1, 200, .inl ty)), (ad 11, .inl (G.2.1 1, 48, .inl to_)), (ad 12, .inl (G.2.1 1, 48, .inl dr))]) ∨ (fn < 12 ∧ v = some (.int 1) ∧ ∃ cr1 : Nat → Int32, (∀ z, z < N → cr1 z = nI (nx_it nx (fi_at (vp_updL fx fn x) (vp_updL fy fn y) (fn + 1)) z)) ∧ u = [(ad 0, .inr (11, [.int 0, .int (nI pn), .ref (ad 1), .ref (ad 2), .ref (ad 3), .ref (ad 4), .ref (ad 5), .int (nI (fn + 1)), .ref (ad 6), .ref (ad 7), .int (nI dn), .ref (ad 8), .long ex, .long ey, .long eg, .int (nI N), .ref (ad 9), .ref (ad 10), .int (nI sn), .int at0, .int fl, .int (nI tn), .ref (ad 11), .ref (ad 12)])), (ad 1, .inl (G.2.1 2, 16, .inr (.inl px))), (ad 2, .inl (G.2.1 2, 16, .inr (.inl py))), (ad 3, .inl (G.2.1 2, 16, .inr (.inl pz))), (ad 4, .inl (G.2.1 2, 16, .inr (.inl gr))), (ad 5, .inl (G.2.1 2, 16, .inr (.inl ou))), (ad 6, .inl (G.2.1 2, 12, .inr (.inl (vp_updL fx fn x)))), (ad 7, .inl (G.2.1 2, 12, .inr (.inl (vp_updL fy fn y)))), (ad 8, .inl (G.2.1 1, 8, .inl od)), (ad 9, .inl (G.2.1 1, 12, .inl cr1)), (ad 10, .inl (G.2.1 1, 200, .inl ty)), (ad 11, .inl (G.2.1 1, 48, .inl to_)), (ad 12, .inl (G.2.1 1, 48, .inl dr))]))) ∨ (fo_code x y = 1 ∧ v = some (.int 0) ∧ u = [(ad 0, .inr (11, [.int 1, .int (nI pn), .ref (ad 1), .ref (ad 2), .ref (ad 3), .ref (ad 4), .ref (ad 5), .int (nI fn), .ref (ad 6), .ref (ad 7), .int (nI dn), .ref (ad 8), .long ex, .long ey, .long eg, .int (nI cn), .ref (ad 9), .ref (ad 10), .int (nI sn), .int at0, .int fl, .int (nI tn), .ref (ad 11), .ref (ad 12)])), (ad 1, .inl (G.2.1 2, 16, .inr (.inl px))), (ad 2, .inl (G.2.1 2, 16, .inr (.inl py))), (ad 3, .inl (G.2.1 2, 16, .inr (.inl pz))), (ad 4, .inl (G.2.1 2, 16, .inr (.inl gr))), (ad 5, .inl (G.2.1 2, 16, .inr (.inl ou))), (ad 6, .inl (G.2.1 2, 12, .inr (.inl fx))), (ad 7, .inl (G.2.1 2, 12, .inr (.inl fy))), (ad 8, .inl (G.2.1 1, 8, .inl od)), (ad 9, .inl (G.2.1 1, 12, .inl cr)), (ad 10, .inl (G.2.1 1, 200, .inl ty)), (ad 11, .inl (G.2.1 1, 48, .inl to_)), (ad 12, .inl (G.2.1 1, 48, .inl dr))])) := by
  refine gx_start (by decide +kernel) (Nat.le_of_ble_eq_true rfl) ?_
  intro p e s m args below meth c A ls C hr hnm hW hl
  have gX := C.x
  have gB := C.b
  have hl : lv_has ls 5 [(0, .ref (ad 0)), (1, .long x), (3, .long y)] := hl
  refine lv_aload_n gX gB dX6_foot_0 rfl (lv_at hl 0 rfl) ?_
  refine lv_lload_n gX gB dX6_foot_1 rfl (lv_at hl 1 rfl) ?_
  refine gx_callS (wr := []) (rest := [.ref (ad 0)]) C hW sX6_55 (kX6_isPlace l G ([(ad 0, .inr (11, [.int cd, .int (nI pn), .ref (ad 1), .ref (ad 2), .ref (ad 3), .ref (ad 4), .ref (ad 5), .int (nI fn), .ref (ad 6), .ref (ad 7), .int (nI dn), .ref (ad 8), .long ex, .long ey, .long eg, .int (nI cn), .ref (ad 9), .ref (ad 10), .int (nI sn), .int at0, .int fl, .int (nI tn), .ref (ad 11), .ref (ad 12)])), (ad 1, .inl (G.2.1 2, 16, .inr (.inl px))), (ad 2, .inl (G.2.1 2, 16, .inr (.inl py))), (ad 3, .inl (G.2.1 2, 16, .inr (.inl pz))), (ad 4, .inl (G.2.1 2, 16, .inr (.inl gr))), (ad 5, .inl (G.2.1 2, 16, .inr (.inl ou))), (ad 6, .inl (G.2.1 2, 12, .inr (.inl fx))), (ad 7, .inl (G.2.1 2, 12, .inr (.inl fy))), (ad 8, .inl (G.2.1 1, 8, .inl od)), (ad 9, .inl (G.2.1 1, 12, .inl cr)), (ad 10, .inl (G.2.1 1, 200, .inl ty)), (ad 11, .inl (G.2.1 1, 48, .inl to_)), (ad 12, .inl (G.2.1 1, 48, .inl dr))]) x) rfl ⟨(Nat.le_of_ble_eq_true rfl), (Nat.le_of_ble_eq_true rfl)⟩ hl.1 rfl (Nat.le_of_ble_eq_true rfl) dX6_foot_2 ⟨(Nat.le_of_ble_eq_true rfl), (Nat.le_of_ble_eq_true rfl)⟩ (fun v9 u9 H locs hp hW => ?_)
  obtain ⟨rfl, hu⟩ := hp
  rw [hu] at hW
  have hW : gx_W G A s ([(ad 0, .inr (11, [.int cd, .int (nI pn), .ref (ad 1), .ref (ad 2), .ref (ad 3), .ref (ad 4), .ref (ad 5), .int (nI fn), .ref (ad 6), .ref (ad 7), .int (nI dn), .ref (ad 8), .long ex, .long ey, .long eg, .int (nI cn), .ref (ad 9), .ref (ad 10), .int (nI sn), .int at0, .int fl, .int (nI tn), .ref (ad 11), .ref (ad 12)])), (ad 1, .inl (G.2.1 2, 16, .inr (.inl px))), (ad 2, .inl (G.2.1 2, 16, .inr (.inl py))), (ad 3, .inl (G.2.1 2, 16, .inr (.inl pz))), (ad 4, .inl (G.2.1 2, 16, .inr (.inl gr))), (ad 5, .inl (G.2.1 2, 16, .inr (.inl ou))), (ad 6, .inl (G.2.1 2, 12, .inr (.inl fx))), (ad 7, .inl (G.2.1 2, 12, .inr (.inl fy))), (ad 8, .inl (G.2.1 1, 8, .inl od)), (ad 9, .inl (G.2.1 1, 12, .inl cr)), (ad 10, .inl (G.2.1 1, 200, .inl ty)), (ad 11, .inl (G.2.1 1, 48, .inl to_)), (ad 12, .inl (G.2.1 1, 48, .inl dr))]) H locs := hW
  refine W.eq (g2 := F0 m 5 ls [.int (gx_b (pl_ok x)), .ref (ad 0)]) rfl ?_
  refine W.widen (k := 0) (n := 0) (Nat.le_of_ble_eq_true rfl) (Nat.le_of_ble_eq_true rfl) ?_
  refine lv_if_eq (tgt := 19) gX gB dX6_foot_5 (by decide) (fun c5 => ?_) (fun c5 => ?_)
  · refine lv_iconst (v := 1) gX gB dX6_foot_19 (by decide) ?_
    refine gx_putE C hW clX6 fX6_47 0 rfl (Or.inl rfl) rfl rfl (Nat.le_of_ble_eq_true rfl) dX6_foot_20 (fun H locs hW => ?_)
    have hW : gx_W G A s ([(ad 0, .inr (11, [.int 1, .int (nI pn), .ref (ad 1), .ref (ad 2), .ref (ad 3), .ref (ad 4), .ref (ad 5), .int (nI fn), .ref (ad 6), .ref (ad 7), .int (nI dn), .ref (ad 8), .long ex, .long ey, .long eg, .int (nI cn), .ref (ad 9), .ref (ad 10), .int (nI sn), .int at0, .int fl, .int (nI tn), .ref (ad 11), .ref (ad 12)])), (ad 1, .inl (G.2.1 2, 16, .inr (.inl px))), (ad 2, .inl (G.2.1 2, 16, .inr (.inl py))), (ad 3, .inl (G.2.1 2, 16, .inr (.inl pz))), (ad 4, .inl (G.2.1 2, 16, .inr (.inl gr))), (ad 5, .inl (G.2.1 2, 16, .inr (.inl ou))), (ad 6, .inl (G.2.1 2, 12, .inr (.inl fx))), (ad 7, .inl (G.2.1 2, 12, .inr (.inl fy))), (ad 8, .inl (G.2.1 1, 8, .inl od)), (ad 9, .inl (G.2.1 1, 12, .inl cr)), (ad 10, .inl (G.2.1 1, 200, .inl ty)), (ad 11, .inl (G.2.1 1, 48, .inl to_)), (ad 12, .inl (G.2.1 1, 48, .inl dr))]) H locs := hW
    refine lv_aload_n gX gB dX6_foot_23 rfl (lv_at hl 0 rfl) ?_
    refine gx_get C hW fX6_47 ⟨0, rfl⟩ rfl dX6_foot_24 ?_
    refine lv_if_gt (tgt := 39) gX gB dX6_foot_27 (by decide) (fun _ => ?_) (fun h9 => absurd (show (0 : Int32) < 1 from by decide) h9)
    refine lv_iconst (v := 0) gX gB dX6_foot_39 (by decide) ?_
    exact gx_zret C hr (by decide) hW (Or.inr ⟨by rw [fo_1 (fun zz => gx_b0.mp c5 zz.1)], rfl, rfl⟩) (Nat.le_of_ble_eq_true rfl) (Nat.le_of_ble_eq_true rfl) dX6_foot_40
  · refine lv_lload_n gX gB dX6_foot_8 rfl (lv_at hl 2 rfl) ?_
    refine gx_callS (wr := []) (rest := [.ref (ad 0)]) C hW sX6_55 (kX6_isPlace l G ([(ad 0, .inr (11, [.int cd, .int (nI pn), .ref (ad 1), .ref (ad 2), .ref (ad 3), .ref (ad 4), .ref (ad 5), .int (nI fn), .ref (ad 6), .ref (ad 7), .int (nI dn), .ref (ad 8), .long ex, .long ey, .long eg, .int (nI cn), .ref (ad 9), .ref (ad 10), .int (nI sn), .int at0, .int fl, .int (nI tn), .ref (ad 11), .ref (ad 12)])), (ad 1, .inl (G.2.1 2, 16, .inr (.inl px))), (ad 2, .inl (G.2.1 2, 16, .inr (.inl py))), (ad 3, .inl (G.2.1 2, 16, .inr (.inl pz))), (ad 4, .inl (G.2.1 2, 16, .inr (.inl gr))), (ad 5, .inl (G.2.1 2, 16, .inr (.inl ou))), (ad 6, .inl (G.2.1 2, 12, .inr (.inl fx))), (ad 7, .inl (G.2.1 2, 12, .inr (.inl fy))), (ad 8, .inl (G.2.1 1, 8, .inl od)), (ad 9, .inl (G.2.1 1, 12, .inl cr)), (ad 10, .inl (G.2.1 1, 200, .inl ty)), (ad 11, .inl (G.2.1 1, 48, .inl to_)), (ad 12, .inl (G.2.1 1, 48, .inl dr))]) y) rfl ⟨(Nat.le_of_ble_eq_true rfl), (Nat.le_of_ble_eq_true rfl)⟩ hl.1 rfl (Nat.le_of_ble_eq_true rfl) dX6_foot_9 ⟨(Nat.le_of_ble_eq_true rfl), (Nat.le_of_ble_eq_true rfl)⟩ (fun v9 u9 H locs hp hW => ?_)
    obtain ⟨rfl, hu⟩ := hp
    rw [hu] at hW
    have hW : gx_W G A s ([(ad 0, .inr (11, [.int cd, .int (nI pn), .ref (ad 1), .ref (ad 2), .ref (ad 3), .ref (ad 4), .ref (ad 5), .int (nI fn), .ref (ad 6), .ref (ad 7), .int (nI dn), .ref (ad 8), .long ex, .long ey, .long eg, .int (nI cn), .ref (ad 9), .ref (ad 10), .int (nI sn), .int at0, .int fl, .int (nI tn), .ref (ad 11), .ref (ad 12)])), (ad 1, .inl (G.2.1 2, 16, .inr (.inl px))), (ad 2, .inl (G.2.1 2, 16, .inr (.inl py))), (ad 3, .inl (G.2.1 2, 16, .inr (.inl pz))), (ad 4, .inl (G.2.1 2, 16, .inr (.inl gr))), (ad 5, .inl (G.2.1 2, 16, .inr (.inl ou))), (ad 6, .inl (G.2.1 2, 12, .inr (.inl fx))), (ad 7, .inl (G.2.1 2, 12, .inr (.inl fy))), (ad 8, .inl (G.2.1 1, 8, .inl od)), (ad 9, .inl (G.2.1 1, 12, .inl cr)), (ad 10, .inl (G.2.1 1, 200, .inl ty)), (ad 11, .inl (G.2.1 1, 48, .inl to_)), (ad 12, .inl (G.2.1 1, 48, .inl dr))]) H locs := hW
    refine W.eq (g2 := F0 m 12 ls [.int (gx_b (pl_ok y)), .ref (ad 0)]) rfl ?_
    refine W.widen (k := 0) (n := 0) (Nat.le_of_ble_eq_true rfl) (Nat.le_of_ble_eq_true rfl) ?_
    refine lv_if_eq (tgt := 19) gX gB dX6_foot_12 (by decide) (fun c12 => ?_) (fun c12 => ?_)
    · refine lv_iconst (v := 1) gX gB dX6_foot_19 (by decide) ?_
      refine gx_putE C hW clX6 fX6_47 0 rfl (Or.inl rfl) rfl rfl (Nat.le_of_ble_eq_true rfl) dX6_foot_20 (fun H locs hW => ?_)
      have hW : gx_W G A s ([(ad 0, .inr (11, [.int 1, .int (nI pn), .ref (ad 1), .ref (ad 2), .ref (ad 3), .ref (ad 4), .ref (ad 5), .int (nI fn), .ref (ad 6), .ref (ad 7), .int (nI dn), .ref (ad 8), .long ex, .long ey, .long eg, .int (nI cn), .ref (ad 9), .ref (ad 10), .int (nI sn), .int at0, .int fl, .int (nI tn), .ref (ad 11), .ref (ad 12)])), (ad 1, .inl (G.2.1 2, 16, .inr (.inl px))), (ad 2, .inl (G.2.1 2, 16, .inr (.inl py))), (ad 3, .inl (G.2.1 2, 16, .inr (.inl pz))), (ad 4, .inl (G.2.1 2, 16, .inr (.inl gr))), (ad 5, .inl (G.2.1 2, 16, .inr (.inl ou))), (ad 6, .inl (G.2.1 2, 12, .inr (.inl fx))), (ad 7, .inl (G.2.1 2, 12, .inr (.inl fy))), (ad 8, .inl (G.2.1 1, 8, .inl od)), (ad 9, .inl (G.2.1 1, 12, .inl cr)), (ad 10, .inl (G.2.1 1, 200, .inl ty)), (ad 11, .inl (G.2.1 1, 48, .inl to_)), (ad 12, .inl (G.2.1 1, 48, .inl dr))]) H locs := hW
      refine lv_aload_n gX gB dX6_foot_23 rfl (lv_at hl 0 rfl) ?_
      refine gx_get C hW fX6_47 ⟨0, rfl⟩ rfl dX6_foot_24 ?_
      refine lv_if_gt (tgt := 39) gX gB dX6_foot_27 (by decide) (fun _ => ?_) (fun h9 => absurd (show (0 : Int32) < 1 from by decide) h9)
      refine lv_iconst (v := 0) gX gB dX6_foot_39 (by decide) ?_
      exact gx_zret C hr (by decide) hW (Or.inr ⟨by rw [fo_1 (fun zz => gx_b0.mp c12 zz.2)], rfl, rfl⟩) (Nat.le_of_ble_eq_true rfl) (Nat.le_of_ble_eq_true rfl) dX6_foot_40
    · refine lv_iconst (v := 0) gX gB dX6_foot_15 (by decide) ?_
      refine lv_goto (tgt := 20) gX gB dX6_foot_16 (by decide) ?_
      refine gx_putE C hW clX6 fX6_47 0 rfl (Or.inl rfl) rfl rfl (Nat.le_of_ble_eq_true rfl) dX6_foot_20 (fun H locs hW => ?_)
      have hW : gx_W G A s ([(ad 0, .inr (11, [.int 0, .int (nI pn), .ref (ad 1), .ref (ad 2), .ref (ad 3), .ref (ad 4), .ref (ad 5), .int (nI fn), .ref (ad 6), .ref (ad 7), .int (nI dn), .ref (ad 8), .long ex, .long ey, .long eg, .int (nI cn), .ref (ad 9), .ref (ad 10), .int (nI sn), .int at0, .int fl, .int (nI tn), .ref (ad 11), .ref (ad 12)])), (ad 1, .inl (G.2.1 2, 16, .inr (.inl px))), (ad 2, .inl (G.2.1 2, 16, .inr (.inl py))), (ad 3, .inl (G.2.1 2, 16, .inr (.inl pz))), (ad 4, .inl (G.2.1 2, 16, .inr (.inl gr))), (ad 5, .inl (G.2.1 2, 16, .inr (.inl ou))), (ad 6, .inl (G.2.1 2, 12, .inr (.inl fx))), (ad 7, .inl (G.2.1 2, 12, .inr (.inl fy))), (ad 8, .inl (G.2.1 1, 8, .inl od)), (ad 9, .inl (G.2.1 1, 12, .inl cr)), (ad 10, .inl (G.2.1 1, 200, .inl ty)), (ad 11, .inl (G.2.1 1, 48, .inl to_)), (ad 12, .inl (G.2.1 1, 48, .inl dr))]) H locs := hW
      refine lv_aload_n gX gB dX6_foot_23 rfl (lv_at hl 0 rfl) ?_
      refine gx_get C hW fX6_47 ⟨0, rfl⟩ rfl dX6_foot_24 ?_
      refine lv_if_gt (tgt := 39) gX gB dX6_foot_27 (by decide) (fun h9 => absurd (show (0 : Int32) < 0 from h9) (by decide)) (fun _ => ?_)
      refine lv_aload_n gX gB dX6_foot_30 rfl (lv_at hl 0 rfl) ?_
      refine gx_get C hW fX6_68 ⟨0, rfl⟩ rfl dX6_foot_31 ?_
      refine lv_bipush (v := 12) gX gB dX6_foot_34 (by decide) ?_
      rcases (by omega : fn = 12 ∨ fn < 12) with hf12 | hf12
      · refine lv_icmp_ne (tgt := 41) gX gB dX6_foot_36 (by decide) (fun h9 => absurd (show ¬ (nI fn) = (12 : Int32) from h9) (fun zz => zz (congrArg nI hf12))) (fun _ => ?_)
        refine lv_iconst (v := 0) gX gB dX6_foot_39 (by decide) ?_
        exact gx_zret C hr (by decide) hW (Or.inl ⟨fo_0 ⟨gx_b1.mp c5, gx_b1.mp c12⟩, Or.inl ⟨hf12, rfl, rfl⟩⟩) (Nat.le_of_ble_eq_true rfl) (Nat.le_of_ble_eq_true rfl) dX6_foot_40
      · refine lv_icmp_ne (tgt := 41) gX gB dX6_foot_36 (by decide) (fun _ => ?_) (fun h9 => absurd h9 (show ¬ (nI fn) = (12 : Int32) from fun zz => absurd ((nI_eq (b := 12) (by omega) (by decide)).mp zz) (by omega)))
        refine lv_aload_n gX gB dX6_foot_41 rfl (lv_at hl 0 rfl) ?_
        refine gx_get C hW fX6_25 ⟨0, rfl⟩ rfl dX6_foot_42 ?_
        refine lv_aload_n gX gB dX6_foot_45 rfl (lv_at hl 0 rfl) ?_
        refine gx_get C hW fX6_68 ⟨0, rfl⟩ rfl dX6_foot_46 ?_
        refine lv_lload_n gX gB dX6_foot_49 rfl (lv_at hl 1 rfl) ?_
        refine gx_lastE C hW 6 (j := fn) rfl rfl (by omega) (by decide) dX6_foot_50 (fun H locs hW => ?_)
        have hW : gx_W G A s ([(ad 0, .inr (11, [.int 0, .int (nI pn), .ref (ad 1), .ref (ad 2), .ref (ad 3), .ref (ad 4), .ref (ad 5), .int (nI fn), .ref (ad 6), .ref (ad 7), .int (nI dn), .ref (ad 8), .long ex, .long ey, .long eg, .int (nI cn), .ref (ad 9), .ref (ad 10), .int (nI sn), .int at0, .int fl, .int (nI tn), .ref (ad 11), .ref (ad 12)])), (ad 1, .inl (G.2.1 2, 16, .inr (.inl px))), (ad 2, .inl (G.2.1 2, 16, .inr (.inl py))), (ad 3, .inl (G.2.1 2, 16, .inr (.inl pz))), (ad 4, .inl (G.2.1 2, 16, .inr (.inl gr))), (ad 5, .inl (G.2.1 2, 16, .inr (.inl ou))), (ad 6, .inl (G.2.1 2, 12, .inr (.inl (vp_updL fx fn x)))), (ad 7, .inl (G.2.1 2, 12, .inr (.inl fy))), (ad 8, .inl (G.2.1 1, 8, .inl od)), (ad 9, .inl (G.2.1 1, 12, .inl cr)), (ad 10, .inl (G.2.1 1, 200, .inl ty)), (ad 11, .inl (G.2.1 1, 48, .inl to_)), (ad 12, .inl (G.2.1 1, 48, .inl dr))]) H locs := hW
        refine lv_aload_n gX gB dX6_foot_51 rfl (lv_at hl 0 rfl) ?_
        refine gx_get C hW fX6_28 ⟨0, rfl⟩ rfl dX6_foot_52 ?_
        refine lv_aload_n gX gB dX6_foot_55 rfl (lv_at hl 0 rfl) ?_
        refine gx_get C hW fX6_68 ⟨0, rfl⟩ rfl dX6_foot_56 ?_
        refine lv_lload_n gX gB dX6_foot_59 rfl (lv_at hl 2 rfl) ?_
        refine gx_lastE C hW 7 (j := fn) rfl rfl (by omega) (by decide) dX6_foot_60 (fun H locs hW => ?_)
        have hW : gx_W G A s ([(ad 0, .inr (11, [.int 0, .int (nI pn), .ref (ad 1), .ref (ad 2), .ref (ad 3), .ref (ad 4), .ref (ad 5), .int (nI fn), .ref (ad 6), .ref (ad 7), .int (nI dn), .ref (ad 8), .long ex, .long ey, .long eg, .int (nI cn), .ref (ad 9), .ref (ad 10), .int (nI sn), .int at0, .int fl, .int (nI tn), .ref (ad 11), .ref (ad 12)])), (ad 1, .inl (G.2.1 2, 16, .inr (.inl px))), (ad 2, .inl (G.2.1 2, 16, .inr (.inl py))), (ad 3, .inl (G.2.1 2, 16, .inr (.inl pz))), (ad 4, .inl (G.2.1 2, 16, .inr (.inl gr))), (ad 5, .inl (G.2.1 2, 16, .inr (.inl ou))), (ad 6, .inl (G.2.1 2, 12, .inr (.inl (vp_updL fx fn x)))), (ad 7, .inl (G.2.1 2, 12, .inr (.inl (vp_updL fy fn y)))), (ad 8, .inl (G.2.1 1, 8, .inl od)), (ad 9, .inl (G.2.1 1, 12, .inl cr)), (ad 10, .inl (G.2.1 1, 200, .inl ty)), (ad 11, .inl (G.2.1 1, 48, .inl to_)), (ad 12, .inl (G.2.1 1, 48, .inl dr))]) H locs := hW
        refine lv_aload_n gX gB dX6_foot_61 rfl (lv_at hl 0 rfl) ?_
        refine lv_dup gX gB dX6_foot_62 rfl ?_
        refine gx_get C hW fX6_68 ⟨0, rfl⟩ rfl dX6_foot_63 ?_
        refine lv_iconst (v := 1) gX gB dX6_foot_66 (by decide) ?_
        refine lv_iadd gX gB dX6_foot_67 ?_
        refine gx_topi (show ((nI fn) + 1) = nI (fn + 1) from nI_1 fn) ?_
        refine gx_putE C hW clX6 fX6_68 0 rfl (Or.inl rfl) rfl rfl (Nat.le_of_ble_eq_true rfl) dX6_foot_68 (fun H locs hW => ?_)
        have hW : gx_W G A s ([(ad 0, .inr (11, [.int 0, .int (nI pn), .ref (ad 1), .ref (ad 2), .ref (ad 3), .ref (ad 4), .ref (ad 5), .int (nI (fn + 1)), .ref (ad 6), .ref (ad 7), .int (nI dn), .ref (ad 8), .long ex, .long ey, .long eg, .int (nI cn), .ref (ad 9), .ref (ad 10), .int (nI sn), .int at0, .int fl, .int (nI tn), .ref (ad 11), .ref (ad 12)])), (ad 1, .inl (G.2.1 2, 16, .inr (.inl px))), (ad 2, .inl (G.2.1 2, 16, .inr (.inl py))), (ad 3, .inl (G.2.1 2, 16, .inr (.inl pz))), (ad 4, .inl (G.2.1 2, 16, .inr (.inl gr))), (ad 5, .inl (G.2.1 2, 16, .inr (.inl ou))), (ad 6, .inl (G.2.1 2, 12, .inr (.inl (vp_updL fx fn x)))), (ad 7, .inl (G.2.1 2, 12, .inr (.inl (vp_updL fy fn y)))), (ad 8, .inl (G.2.1 1, 8, .inl od)), (ad 9, .inl (G.2.1 1, 12, .inl cr)), (ad 10, .inl (G.2.1 1, 200, .inl ty)), (ad 11, .inl (G.2.1 1, 48, .inl to_)), (ad 12, .inl (G.2.1 1, 48, .inl dr))]) H locs := hW
        refine lv_aload_n gX gB dX6_foot_71 rfl (lv_at hl 0 rfl) ?_
        refine gx_callV (wr := []) (rest := []) C hW sX6_71 (kX6_wind l G ad 0 pn (fn + 1) dn cn sn tn ex ey eg at0 fl px py pz gr ou (vp_updL fx fn x) (vp_updL fy fn y) od cr ty to_ dr (by omega) (by omega) nx N (hwd hf12)) ⟨0, rfl⟩ rfl rfl ⟨(Nat.le_of_ble_eq_true rfl), (Nat.le_of_ble_eq_true rfl)⟩ hl.1 rfl (Nat.le_of_ble_eq_true rfl) dX6_foot_72 ⟨(Nat.le_of_ble_eq_true rfl), (Nat.le_of_ble_eq_true rfl)⟩ (fun v9 u9 H locs hp hW => ?_)
        obtain ⟨rfl, cr1, hcr, hu⟩ := hp
        rw [hu] at hW
        have hW : gx_W G A s ([(ad 0, .inr (11, [.int 0, .int (nI pn), .ref (ad 1), .ref (ad 2), .ref (ad 3), .ref (ad 4), .ref (ad 5), .int (nI (fn + 1)), .ref (ad 6), .ref (ad 7), .int (nI dn), .ref (ad 8), .long ex, .long ey, .long eg, .int (nI N), .ref (ad 9), .ref (ad 10), .int (nI sn), .int at0, .int fl, .int (nI tn), .ref (ad 11), .ref (ad 12)])), (ad 1, .inl (G.2.1 2, 16, .inr (.inl px))), (ad 2, .inl (G.2.1 2, 16, .inr (.inl py))), (ad 3, .inl (G.2.1 2, 16, .inr (.inl pz))), (ad 4, .inl (G.2.1 2, 16, .inr (.inl gr))), (ad 5, .inl (G.2.1 2, 16, .inr (.inl ou))), (ad 6, .inl (G.2.1 2, 12, .inr (.inl (vp_updL fx fn x)))), (ad 7, .inl (G.2.1 2, 12, .inr (.inl (vp_updL fy fn y)))), (ad 8, .inl (G.2.1 1, 8, .inl od)), (ad 9, .inl (G.2.1 1, 12, .inl cr1)), (ad 10, .inl (G.2.1 1, 200, .inl ty)), (ad 11, .inl (G.2.1 1, 48, .inl to_)), (ad 12, .inl (G.2.1 1, 48, .inl dr))]) H locs := hW
        refine W.eq (g2 := F0 m 75 ls []) rfl ?_
        refine W.widen (k := 0) (n := 0) (Nat.le_of_ble_eq_true rfl) (Nat.le_of_ble_eq_true rfl) ?_
        refine lv_iconst (v := 1) gX gB dX6_foot_75 (by decide) ?_
        exact gx_zret C hr (by decide) hW (Or.inl ⟨fo_0 ⟨gx_b1.mp c5, gx_b1.mp c12⟩, Or.inr ⟨hf12, rfl, cr1, hcr, rfl⟩⟩) (Nat.le_of_ble_eq_true rfl) (Nat.le_of_ble_eq_true rfl) dX6_foot_76
