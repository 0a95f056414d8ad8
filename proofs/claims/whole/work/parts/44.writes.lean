/-! STANDTESTS: part, person, drawer. -/
abbrev pl_ok (x : Int64) : Prop := in_rng (-100000) 100000 x
abbrev gm_ok (x : Int64) : Prop := in_rng 0 1000000 x
def pt_code (np : Nat) (x y z g : Int64) : Int32 := if ¬ nI np < 16 then 1 else if pl_ok x ∧ pl_ok y ∧ pl_ok z ∧ gm_ok g then 0 else 2
def pe_code (x y g : Int64) : Int32 := if pl_ok x ∧ pl_ok y ∧ gm_ok g then 0 else 1
def dr_code (np : Nat) (k : Int32) (o : Int64) : Int32 := if k < 0 ∨ ¬ k < nI np then 1 else if in_rng 1 100000 o then 0 else 2
theorem ld_is.el {L : List Nat} {f : Nat → va_E} {a : Nat} {d : ld_T} (h : ld_is L f a d) : gx_el L f a := ⟨h.1, 6, 6, _, RX1, TX1, h.2, rfl, List.mem_of_getElem? (i := 1) (by decide +kernel)⟩
theorem ld_is.kept {L L' : List Nat} {f f' : Nat → va_E} {a : Nat} {d : ld_T} (h : ld_is L f a d) (hL : a ∈ L') (hf : f' a = f a) : ld_is L' f' a d := ⟨hL, by rw [hf]; exact h.2⟩
/-- an object other than a list isn't a list's head or row -/
theorem ls_at.apart {G : gx_T} {L : List Nat} {f : Nat → va_E} {q : Nat} {b : Option Nat} {xs : List Nat} (h : ls_at G L f q b xs) {a ci : Nat} {vs : List Value} (ha : f a = .inr (ci, vs)) (hc : ci ≠ 4) : a ≠ q ∧ some a ≠ b := by
  obtain ⟨mc, r, hq⟩ := h.head
  refine ⟨fun z => ?_, fun z => ?_⟩
  · rw [z, hq] at ha
    injection ha with ha
    injection ha with ha
    exact hc ha.symm
  · obtain ⟨-, mc, h2⟩ := h
    rw [← z] at h2
    obtain ⟨-, -, n, g, hg, -⟩ := h2
    rw [ha] at hg
    cases hg
/-- a list at q has one element more, the new object v; nothing else old has changed -/
def cs_grown (G : gx_T) (L : List Nat) (f : Nat → va_E) (q : Nat) (b : Option Nat) (xs : List Nat) (v : Nat) (L' : List Nat) (f' : Nat → va_E) (b' : Nat) : Prop := ls_at G L' f' q (some b') (xs ++ [v]) ∧ v ∉ L ∧ (b = some b' ∨ b' ∉ L) ∧ (∀ a ∈ L, a ∈ L') ∧ ∀ a ∈ L, a ≠ q → some a ≠ b → f' a = f a
theorem ls_added.grown {G : gx_T} {L : List Nat} {f : Nat → va_E} {q : Nat} {b : Option Nat} {xs : List Nat} {v : Nat} {e1 : va_E} {u : va_W} (hv : v ∉ L) (h : ls_added G (L ++ [v]) (va_up f v e1) q b xs v u) (hvq : v ≠ q) (hvb : some v ≠ b) : ∃ (L' : List Nat) (f' : Nat → va_E) (b' : Nat), u = va_pl L' f' ∧ cs_grown G L f q b xs v L' f' b' ∧ v ∈ L' ∧ f' v = e1 := by
  obtain ⟨L', f', b', hu, h1, h2, h3⟩ := h
  have hv1 : v ∈ L ++ [v] := List.mem_append_right _ List.mem_cons_self
  have hsub : ∀ a ∈ L ++ [v], a ∈ L' := by
    intro a ha
    rcases h2 with ⟨-, rfl⟩ | ⟨-, rfl⟩
    · exact ha
    · exact List.mem_append_left _ ha
  refine ⟨L', f', b', hu, ⟨h1, hv, ?_, fun a ha => hsub a (List.mem_append_left _ ha), fun a ha k1 k2 => ?_⟩, hsub v hv1, ?_⟩
  · rcases h2 with ⟨h2, -⟩ | ⟨h2, -⟩
    · exact Or.inl h2
    · exact Or.inr (fun z => h2 (List.mem_append_left _ z))
  · rw [h3 a (List.mem_append_left _ ha) k1 k2, va_up_ne _ _ (fun z => hv (by rw [← z]; exact ha))]
  · rw [h3 v hv1 hvq hvb, va_up_self]
theorem pt_2 {np : Nat} {x y z g : Int64} (h : nI np < 16) (h2 : ¬ (pl_ok x ∧ pl_ok y ∧ pl_ok z ∧ gm_ok g)) : pt_code np x y z g = 2 := by
  unfold pt_code
  rw [if_neg (fun z => z h), if_neg h2]
theorem pt_0 {np : Nat} {x y z g : Int64} (h : nI np < 16) (h2 : pl_ok x ∧ pl_ok y ∧ pl_ok z ∧ gm_ok g) : pt_code np x y z g = 0 := by
  unfold pt_code
  rw [if_neg (fun z => z h), if_pos h2]
theorem pt_1 {np : Nat} {x y z g : Int64} (h : ¬ nI np < 16) : pt_code np x y z g = 1 := by
  unfold pt_code
  rw [if_pos h]
theorem gx_snoc_el {L : List Nat} {f : Nat → va_E} {q : Nat} {e1 : va_E} (ci N : Nat) (vs : List Value) (K : String) (T : u_T) (he : e1 = .inr (ci, vs)) (hc : vwCl[ci]? = some (K, T, N)) (hw : Cond.castable K "java/lang/Object" ∈ gx_nW) : gx_el (L ++ [q]) (va_up f q e1) q := ⟨List.mem_append_right _ List.mem_cons_self, ci, N, vs, K, T, by rw [va_up_self]; exact he, hc, hw⟩
set_option maxHeartbeats 4000000 in
set_option maxRecDepth 100000 in
theorem kX5_part (l : Launch) (hfl : l.flags = flags0) (G : gx_T) (L : List Nat) (f : Nat → va_E) (x P F S X N T E : Nat) (dc : Int32) (hx : x ∈ L) (fx : f x = .inr (10, [.ref P, .ref F, .ref S, .ref X, .ref N, .ref T, .ref E, .int dc])) (bP : Option Nat) (pa : List Nat) (ps : Nat → ld_T) (hlp : ls_at G L f P bP pa) (hld : ∀ i (h : i < pa.length), ld_is L f pa[i] (ps i)) (hp16 : pa.length ≤ 16) (px0 py0 pz0 pg0 : Int64) : gx_MX l G yX5_part cX5_part 9 (some .int) ({ frames := 7, cells := 7, slots := 60, locals := 207 } : Room) [.ref x, .long px0, .long py0, .long pz0, .long pg0] (va_pl L f) (fun v u => v = some (.int (nI pa.length)) ∧ pt_code pa.length px0 py0 pz0 pg0 = 0 ∧ ∃ (L1 : List Nat) (f1 : Nat → va_E) (b1 q : Nat), u = va_pl L1 f1 ∧ cs_grown G L f P bP pa q L1 f1 b1 ∧ ld_is L1 f1 q (px0, py0, pz0, pg0, -1, 0)) (fun Ex u => u = va_pl L f ∧ px2 gx_E1 gx_E2 (pt_code pa.length px0 py0 pz0 pg0) Ex) := by
  have hel9 : ∀ y ∈ pa, gx_el L f y := fun y hy => by
    obtain ⟨i, hi, rfl⟩ := List.mem_iff_getElem.mp hy
    exact (hld i hi).el
  have hne9 : ∀ y ∈ pa, y ≠ P := fun y hy => by
    obtain ⟨i, hi, rfl⟩ := List.mem_iff_getElem.mp hy
    exact (hlp.apart (hld i hi).2 (by decide)).1
  refine gx_startX (by decide +kernel) (Nat.le_of_ble_eq_true rfl) ?_
  intro p e s m args below meth c A ls C hr hno hW hl
  have gX := C.x
  have gB := C.b
  have hl : lv_has ls 9 [(0, .ref x), (1, .long px0), (3, .long py0), (5, .long pz0), (7, .long pg0)] := hl
  refine lv_aload_n gX gB dX5_part_0 rfl (lv_at hl 0 rfl) ?_
  refine gx_get C hW fX5_10 (gx_pl hx fx) rfl dX5_part_1 ?_
  refine gx_callV (wr := []) (rest := []) C hW sX5_48 (kL_size l G L f P bP pa hlp) (gx_pl hlp.1 (ls_at.head hlp).choose_spec.choose_spec) rfl rfl ⟨(Nat.le_of_ble_eq_true rfl), (Nat.le_of_ble_eq_true rfl)⟩ hl.1 rfl (Nat.le_of_ble_eq_true rfl) dX5_part_4 ⟨(Nat.le_of_ble_eq_true rfl), (Nat.le_of_ble_eq_true rfl)⟩ (fun v9 u9 H locs hp hW => ?_)
  obtain ⟨rfl, hu⟩ := hp
  rw [hu] at hW
  have hW : gx_W G A s (va_pl L f) H locs := hW
  refine W.eq (g2 := F0 m 7 ls [.int (nI pa.length)]) rfl ?_
  refine W.widen (k := 0) (n := 0) (Nat.le_of_ble_eq_true rfl) (Nat.le_of_ble_eq_true rfl) ?_
  refine lv_bipush (v := 16) gX gB dX5_part_7 (by decide) ?_
  refine lv_icmp_lt (tgt := 22) gX gB dX5_part_9 (by decide) (fun c9 => ?_) (fun c9 => ?_)
  · refine lv_lload_n gX gB dX5_part_22 rfl (lv_at hl 1 rfl) ?_
    refine gx_callSX (wr := []) (rest := []) C hW sX5_59 (kX5_needPlace l hfl G (va_pl L f) px0) rfl ⟨(Nat.le_of_ble_eq_true rfl), (Nat.le_of_ble_eq_true rfl)⟩ hl.1 rfl (Nat.le_of_ble_eq_true rfl) dX5_part_23 ⟨(Nat.le_of_ble_eq_true rfl), (Nat.le_of_ble_eq_true rfl)⟩ (fun E ce q9 u9 H locs hpx hW hce hcv hcl => gx_out C hno hW hce hcv hcl (⟨hpx.2.1, Or.inr ⟨hpx.1, pt_2 c9 (fun zz => hpx.2.2 zz.1)⟩⟩) (Nat.le_of_ble_eq_true rfl) (Nat.le_of_ble_eq_true rfl)) (fun v9 u9 H locs hp hW => ?_)
    obtain ⟨rfl, hu, n1⟩ := hp
    rw [hu] at hW
    have hW : gx_W G A s (va_pl L f) H locs := hW
    refine W.eq (g2 := F0 m 26 ls []) rfl ?_
    refine W.widen (k := 1) (n := 6) (Nat.le_of_ble_eq_true rfl) (Nat.le_of_ble_eq_true rfl) ?_
    refine lv_lload_n gX gB dX5_part_26 rfl (lv_at hl 2 rfl) ?_
    refine gx_callSX (wr := []) (rest := []) C hW sX5_59 (kX5_needPlace l hfl G (va_pl L f) py0) rfl ⟨(Nat.le_of_ble_eq_true rfl), (Nat.le_of_ble_eq_true rfl)⟩ hl.1 rfl (Nat.le_of_ble_eq_true rfl) dX5_part_27 ⟨(Nat.le_of_ble_eq_true rfl), (Nat.le_of_ble_eq_true rfl)⟩ (fun E ce q9 u9 H locs hpx hW hce hcv hcl => gx_out C hno hW hce hcv hcl (⟨hpx.2.1, Or.inr ⟨hpx.1, pt_2 c9 (fun zz => hpx.2.2 zz.2.1)⟩⟩) (Nat.le_of_ble_eq_true rfl) (Nat.le_of_ble_eq_true rfl)) (fun v9 u9 H locs hp hW => ?_)
    obtain ⟨rfl, hu, n2⟩ := hp
    rw [hu] at hW
    have hW : gx_W G A s (va_pl L f) H locs := hW
    refine W.eq (g2 := F0 m 30 ls []) rfl ?_
    refine W.widen (k := 2) (n := 12) (Nat.le_of_ble_eq_true rfl) (Nat.le_of_ble_eq_true rfl) ?_
    refine lv_lload gX gB dX5_part_30 (lv_at hl 3 rfl) ?_
    refine gx_callSX (wr := []) (rest := []) C hW sX5_59 (kX5_needPlace l hfl G (va_pl L f) pz0) rfl ⟨(Nat.le_of_ble_eq_true rfl), (Nat.le_of_ble_eq_true rfl)⟩ hl.1 rfl (Nat.le_of_ble_eq_true rfl) dX5_part_32 ⟨(Nat.le_of_ble_eq_true rfl), (Nat.le_of_ble_eq_true rfl)⟩ (fun E ce q9 u9 H locs hpx hW hce hcv hcl => gx_out C hno hW hce hcv hcl (⟨hpx.2.1, Or.inr ⟨hpx.1, pt_2 c9 (fun zz => hpx.2.2 zz.2.2.1)⟩⟩) (Nat.le_of_ble_eq_true rfl) (Nat.le_of_ble_eq_true rfl)) (fun v9 u9 H locs hp hW => ?_)
    obtain ⟨rfl, hu, n3⟩ := hp
    rw [hu] at hW
    have hW : gx_W G A s (va_pl L f) H locs := hW
    refine W.eq (g2 := F0 m 35 ls []) rfl ?_
    refine W.widen (k := 3) (n := 18) (Nat.le_of_ble_eq_true rfl) (Nat.le_of_ble_eq_true rfl) ?_
    refine lv_lload gX gB dX5_part_35 (lv_at hl 4 rfl) ?_
    refine gx_callSX (wr := []) (rest := []) C hW sX5_63 (kX5_needGrams l hfl G (va_pl L f) pg0) rfl ⟨(Nat.le_of_ble_eq_true rfl), (Nat.le_of_ble_eq_true rfl)⟩ hl.1 rfl (Nat.le_of_ble_eq_true rfl) dX5_part_37 ⟨(Nat.le_of_ble_eq_true rfl), (Nat.le_of_ble_eq_true rfl)⟩ (fun E ce q9 u9 H locs hpx hW hce hcv hcl => gx_out C hno hW hce hcv hcl (⟨hpx.2.1, Or.inr ⟨hpx.1, pt_2 c9 (fun zz => hpx.2.2 zz.2.2.2)⟩⟩) (Nat.le_of_ble_eq_true rfl) (Nat.le_of_ble_eq_true rfl)) (fun v9 u9 H locs hp hW => ?_)
    obtain ⟨rfl, hu, n4⟩ := hp
    rw [hu] at hW
    have hW : gx_W G A s (va_pl L f) H locs := hW
    refine W.eq (g2 := F0 m 40 ls []) rfl ?_
    refine W.widen (k := 4) (n := 24) (Nat.le_of_ble_eq_true rfl) (Nat.le_of_ble_eq_true rfl) ?_
    refine lv_aload_n gX gB dX5_part_40 rfl (lv_at hl 0 rfl) ?_
    refine gx_get C hW fX5_10 (gx_pl hx fx) rfl dX5_part_41 ?_
    refine gx_new (ci := 6) C hW clX1 inX1 rfl (tq_1 99 (by decide +kernel) rfl) (tq_1 100 (by decide +kernel) rfl) (tq_1 9 (by decide +kernel) rfl) dfX1 (Nat.le_of_ble_eq_true rfl) (Nat.le_of_ble_eq_true rfl) dX5_part_44 (fun q H hq hW => ?_)
    refine W.widen (k := 5) (n := 30) (Nat.le_of_ble_eq_true rfl) (Nat.le_of_ble_eq_true rfl) ?_
    obtain ⟨f11, hf11⟩ : ∃ zz, zz = va_up f q (.inr (6, [.long 0, .long 0, .long 0, .long 0, .int 0, .long 0])) := ⟨_, rfl⟩
    have hW := hW
    rw [← hf11] at hW
    have m11_x : x ∈ L ++ [q] := List.mem_append_left _ (hx)
    have f11_x : f11 x = .inr (10, [.ref P, .ref F, .ref S, .ref X, .ref N, .ref T, .ref E, .int dc]) := by rw [hf11, va_up_ne _ _ (fun zz => hq (by rw [← zz]; exact hx))]; exact fx
    have m11_q : q ∈ L ++ [q] := List.mem_append_right _ List.mem_cons_self
    have f11_q : f11 q = .inr (6, [.long 0, .long 0, .long 0, .long 0, .int 0, .long 0]) := by rw [hf11]; exact va_up_self _ _ _
    refine lv_dup gX gB dX5_part_47 rfl ?_
    refine lv_lload_n gX gB dX5_part_48 rfl (lv_at hl 1 rfl) ?_
    refine lv_lload_n gX gB dX5_part_49 rfl (lv_at hl 2 rfl) ?_
    refine lv_lload gX gB dX5_part_50 (lv_at hl 3 rfl) ?_
    refine lv_lload gX gB dX5_part_52 (lv_at hl 4 rfl) ?_
    refine gx_callIN (wr := []) (rest := [.ref q, .ref P]) C hW sX5_31n (kX1_init l G (L ++ [q]) f11 q px0 py0 pz0 pg0 m11_q f11_q) rfl ⟨(Nat.le_of_ble_eq_true rfl), (Nat.le_of_ble_eq_true rfl)⟩ hl.1 rfl (Nat.le_of_ble_eq_true rfl) dX5_part_54 ⟨(Nat.le_of_ble_eq_true rfl), (Nat.le_of_ble_eq_true rfl)⟩ (fun v9 u9 H locs hp hW => ?_)
    obtain ⟨rfl, hu⟩ := hp
    rw [hu] at hW
    have hW : gx_W G A s (va_pl (L ++ [q]) (va_up f11 q (.inr (6, [.long px0, .long py0, .long pz0, .long pg0, .int (-1), .long 0])))) H locs := hW
    refine W.eq (g2 := F0 m 57 ls [.ref q, .ref P]) rfl ?_
    refine W.widen (k := 5) (n := 30) (Nat.le_of_ble_eq_true rfl) (Nat.le_of_ble_eq_true rfl) ?_
    rw [hf11, bx_uu] at hW
    have hxq : x ≠ q := fun zz => hq (by rw [← zz]; exact hx)
    have hPq : P ≠ q := fun zz => hq (by rw [← zz]; exact hlp.1)
    have hbq : ∀ b9, bP = some b9 → b9 ≠ q := fun b9 h9 zz => hq (by rw [← zz]; obtain ⟨-, mc, h2⟩ := hlp; rw [h9] at h2; exact h2.1)
    have hlp2 : ls_at G (L ++ [q]) (va_up f q (.inr (6, [.long px0, .long py0, .long pz0, .long pg0, .int (-1), .long 0]))) P bP pa := hlp.kept (fun a ha => List.mem_append_left _ ha) (va_up_ne _ _ hPq) (fun b9 h9 => va_up_ne _ _ (hbq b9 h9))
    have hW : gx_W G A s (va_pl (L ++ [q]) (va_up f q (.inr (6, [.long px0, .long py0, .long pz0, .long pg0, .int (-1), .long 0])))) H locs := hW
    refine gx_callV (wr := []) (rest := []) C hW sX5_66 (kL_add l G (L ++ [q]) (va_up f q (.inr (6, [.long px0, .long py0, .long pz0, .long pg0, .int (-1), .long 0]))) P bP pa hlp2 q (gx_snoc_el 6 6 _ RX1 TX1 rfl rfl (List.mem_of_getElem? (i := 1) (by decide +kernel))) (fun zz => hPq zz.symm) (fun y hy => ⟨(hel9 y hy).push hq, hne9 y hy⟩) (by omega)) (gx_pl hlp2.1 hlp2.head.choose_spec.choose_spec) rfl rfl ⟨(Nat.le_of_ble_eq_true rfl), (Nat.le_of_ble_eq_true rfl)⟩ hl.1 rfl (Nat.le_of_ble_eq_true rfl) dX5_part_57 ⟨(Nat.le_of_ble_eq_true rfl), (Nat.le_of_ble_eq_true rfl)⟩ (fun v9 u9 H locs hp hW => ?_)
    obtain ⟨rfl, hadd⟩ := hp
    have hW : gx_W G A s (u9) H locs := hW
    refine W.eq (g2 := F0 m 60 ls [.int 1]) rfl ?_
    refine W.widen (k := 6) (n := 54) (Nat.le_of_ble_eq_true rfl) (Nat.le_of_ble_eq_true rfl) ?_
    obtain ⟨L1, f1, b1, hu, hgr, hqL, hfq⟩ := ls_added.grown hq hadd (fun zz => hPq zz.symm) (fun zz => hbq q zz.symm rfl)
    rw [hu] at hW
    have fx1 : f1 x = .inr (10, [.ref P, .ref F, .ref S, .ref X, .ref N, .ref T, .ref E, .int dc]) := by rw [hgr.2.2.2.2 x hx (hlp.apart fx (by decide)).1 (hlp.apart fx (by decide)).2]; exact fx
    have hW : gx_W G A s (va_pl L1 f1) H locs := hW
    refine lv_pop gX gB dX5_part_60 rfl ?_
    refine lv_aload_n gX gB dX5_part_61 rfl (lv_at hl 0 rfl) ?_
    refine gx_get C hW fX5_10 (gx_pl (hgr.2.2.2.1 x hx) fx1) rfl dX5_part_62 ?_
    refine gx_callV (wr := []) (rest := []) C hW sX5_48 (kL_size l G L1 f1 P (some b1) (pa ++ [q]) hgr.1) (gx_pl hgr.1.1 hgr.1.head.choose_spec.choose_spec) rfl rfl ⟨(Nat.le_of_ble_eq_true rfl), (Nat.le_of_ble_eq_true rfl)⟩ hl.1 rfl (Nat.le_of_ble_eq_true rfl) dX5_part_65 ⟨(Nat.le_of_ble_eq_true rfl), (Nat.le_of_ble_eq_true rfl)⟩ (fun v9 u9 H locs hp hW => ?_)
    obtain ⟨rfl, hu⟩ := hp
    rw [hu] at hW
    have hW : gx_W G A s (va_pl L1 f1) H locs := hW
    refine W.eq (g2 := F0 m 68 ls [.int (nI (pa ++ [q]).length)]) rfl ?_
    refine W.widen (k := 6) (n := 54) (Nat.le_of_ble_eq_true rfl) (Nat.le_of_ble_eq_true rfl) ?_
    refine lv_iconst (v := 1) gX gB dX5_part_68 (by decide) ?_
    refine lv_isub gX gB dX5_part_69 ?_
    refine gx_topi (show ((nI (pa ++ [q]).length) - 1) = nI pa.length from by rw [List.length_append]; exact nI_pred _) ?_
    refine vx_ret ?_
    exact gx_iret C hr hW (⟨rfl, pt_0 c9 ⟨n1, n2, n3, n4⟩, L1, f1, b1, q, rfl, hgr, ⟨hqL, hfq⟩⟩) (Nat.le_of_ble_eq_true rfl) (Nat.le_of_ble_eq_true rfl) dX5_part_70
  · exact gx_throw (text := "no room for a part") hfl C hno hW gx_thr1 (by decide +kernel) (tq_3 191 (by decide +kernel) rfl) (tq_1 14 (by decide +kernel) rfl) (tr_3 200 (by decide +kernel)) hl.1 dX5_part_12 dX5_part_15 dX5_part_16 dX5_part_18 dX5_part_21 (Nat.le_of_ble_eq_true rfl) (Nat.le_of_ble_eq_true rfl) (Nat.le_of_ble_eq_true rfl) (Nat.le_of_ble_eq_true rfl) (⟨rfl, Or.inl ⟨rfl, pt_1 c9⟩⟩) (Nat.le_of_ble_eq_true rfl) (Nat.le_of_ble_eq_true rfl)
theorem pe_1 {x y g : Int64} (h2 : ¬ (pl_ok x ∧ pl_ok y ∧ gm_ok g)) : pe_code x y g = 1 := if_neg h2
theorem pe_0 {x y g : Int64} (h2 : pl_ok x ∧ pl_ok y ∧ gm_ok g) : pe_code x y g = 0 := if_pos h2
set_option maxHeartbeats 4000000 in
set_option maxRecDepth 100000 in
theorem kX5_person (l : Launch) (hfl : l.flags = flags0) (G : gx_T) (L : List Nat) (f : Nat → va_E) (x P F S X N T E : Nat) (dc : Int32) (hx : x ∈ L) (fx : f x = .inr (10, [.ref P, .ref F, .ref S, .ref X, .ref N, .ref T, .ref E, .int dc])) (dw : ld_T) (hE : ld_is L f E dw) (px0 py0 pg0 : Int64) : gx_MX l G yX5_person cX5_person 7 (some .boolean) ({ frames := 7, cells := 4, slots := 24, locals := 111 } : Room) [.ref x, .long px0, .long py0, .long pg0] (va_pl L f) (fun v u => pe_code px0 py0 pg0 = 0 ∧ ((v = some (.int 0) ∧ u = va_pl L f ∧ dw.1 = px0 ∧ dw.2.1 = py0 ∧ dw.2.2.2.1 = pg0) ∨ (v = some (.int 1) ∧ ¬ (dw.1 = px0 ∧ dw.2.1 = py0 ∧ dw.2.2.2.1 = pg0) ∧ ∃ q : Nat, q ∉ L ∧ u = va_pl (L ++ [q]) (va_up (va_up f q (.inr (6, [.long px0, .long py0, .long 0, .long pg0, .int (-1), .long 0]))) x (.inr (10, [.ref P, .ref F, .ref S, .ref X, .ref N, .ref T, .ref q, .int dc])))))) (fun Ex u => u = va_pl L f ∧ px1 gx_E2 (pe_code px0 py0 pg0) Ex) := by
  refine gx_startX (by decide +kernel) (Nat.le_of_ble_eq_true rfl) ?_
  intro p e s m args below meth c A ls C hr hno hW hl
  have gX := C.x
  have gB := C.b
  have hl : lv_has ls 7 [(0, .ref x), (1, .long px0), (3, .long py0), (5, .long pg0)] := hl
  refine lv_lload_n gX gB dX5_person_0 rfl (lv_at hl 1 rfl) ?_
  refine gx_callSX (wr := []) (rest := []) C hW sX5_59 (kX5_needPlace l hfl G (va_pl L f) px0) rfl ⟨(Nat.le_of_ble_eq_true rfl), (Nat.le_of_ble_eq_true rfl)⟩ hl.1 rfl (Nat.le_of_ble_eq_true rfl) dX5_person_1 ⟨(Nat.le_of_ble_eq_true rfl), (Nat.le_of_ble_eq_true rfl)⟩ (fun E ce q9 u9 H locs hpx hW hce hcv hcl => gx_out C hno hW hce hcv hcl (⟨hpx.2.1, hpx.1, pe_1 (fun zz => hpx.2.2 zz.1)⟩) (Nat.le_of_ble_eq_true rfl) (Nat.le_of_ble_eq_true rfl)) (fun v9 u9 H locs hp hW => ?_)
  obtain ⟨rfl, hu, n1⟩ := hp
  rw [hu] at hW
  have hW : gx_W G A s (va_pl L f) H locs := hW
  refine W.eq (g2 := F0 m 4 ls []) rfl ?_
  refine W.widen (k := 1) (n := 6) (Nat.le_of_ble_eq_true rfl) (Nat.le_of_ble_eq_true rfl) ?_
  refine lv_lload_n gX gB dX5_person_4 rfl (lv_at hl 2 rfl) ?_
  refine gx_callSX (wr := []) (rest := []) C hW sX5_59 (kX5_needPlace l hfl G (va_pl L f) py0) rfl ⟨(Nat.le_of_ble_eq_true rfl), (Nat.le_of_ble_eq_true rfl)⟩ hl.1 rfl (Nat.le_of_ble_eq_true rfl) dX5_person_5 ⟨(Nat.le_of_ble_eq_true rfl), (Nat.le_of_ble_eq_true rfl)⟩ (fun E ce q9 u9 H locs hpx hW hce hcv hcl => gx_out C hno hW hce hcv hcl (⟨hpx.2.1, hpx.1, pe_1 (fun zz => hpx.2.2 zz.2.1)⟩) (Nat.le_of_ble_eq_true rfl) (Nat.le_of_ble_eq_true rfl)) (fun v9 u9 H locs hp hW => ?_)
  obtain ⟨rfl, hu, n2⟩ := hp
  rw [hu] at hW
  have hW : gx_W G A s (va_pl L f) H locs := hW
  refine W.eq (g2 := F0 m 8 ls []) rfl ?_
  refine W.widen (k := 2) (n := 12) (Nat.le_of_ble_eq_true rfl) (Nat.le_of_ble_eq_true rfl) ?_
  refine lv_lload gX gB dX5_person_8 (lv_at hl 3 rfl) ?_
  refine gx_callSX (wr := []) (rest := []) C hW sX5_63 (kX5_needGrams l hfl G (va_pl L f) pg0) rfl ⟨(Nat.le_of_ble_eq_true rfl), (Nat.le_of_ble_eq_true rfl)⟩ hl.1 rfl (Nat.le_of_ble_eq_true rfl) dX5_person_10 ⟨(Nat.le_of_ble_eq_true rfl), (Nat.le_of_ble_eq_true rfl)⟩ (fun E ce q9 u9 H locs hpx hW hce hcv hcl => gx_out C hno hW hce hcv hcl (⟨hpx.2.1, hpx.1, pe_1 (fun zz => hpx.2.2 zz.2.2)⟩) (Nat.le_of_ble_eq_true rfl) (Nat.le_of_ble_eq_true rfl)) (fun v9 u9 H locs hp hW => ?_)
  obtain ⟨rfl, hu, n4⟩ := hp
  rw [hu] at hW
  have hW : gx_W G A s (va_pl L f) H locs := hW
  refine W.eq (g2 := F0 m 13 ls []) rfl ?_
  refine W.widen (k := 3) (n := 18) (Nat.le_of_ble_eq_true rfl) (Nat.le_of_ble_eq_true rfl) ?_
  refine lv_aload_n gX gB dX5_person_13 rfl (lv_at hl 0 rfl) ?_
  refine gx_get C hW fX5_41 (gx_pl hx fx) rfl dX5_person_14 ?_
  refine gx_getN C hW fX5_106n (gx_pl hE.1 hE.2) rfl dX5_person_17 ?_
  refine lv_lload_n gX gB dX5_person_20 rfl (lv_at hl 1 rfl) ?_
  refine gx_lc_ne (tgt := 52) C dX5_person_21 dX5_person_22 (by decide) (fun c21 => ?_) (fun c21 => ?_)
  · refine lv_aload_n gX gB dX5_person_52 rfl (lv_at hl 0 rfl) ?_
    refine gx_new (ci := 6) C hW clX1 inX1 rfl (tq_1 99 (by decide +kernel) rfl) (tq_1 100 (by decide +kernel) rfl) (tq_1 9 (by decide +kernel) rfl) dfX1 (Nat.le_of_ble_eq_true rfl) (Nat.le_of_ble_eq_true rfl) dX5_person_53 (fun q H hq hW => ?_)
    refine W.widen (k := 4) (n := 24) (Nat.le_of_ble_eq_true rfl) (Nat.le_of_ble_eq_true rfl) ?_
    obtain ⟨f12, hf12⟩ : ∃ zz, zz = va_up f q (.inr (6, [.long 0, .long 0, .long 0, .long 0, .int 0, .long 0])) := ⟨_, rfl⟩
    have hW := hW
    rw [← hf12] at hW
    have m12_x : x ∈ L ++ [q] := List.mem_append_left _ (hx)
    have f12_x : f12 x = .inr (10, [.ref P, .ref F, .ref S, .ref X, .ref N, .ref T, .ref E, .int dc]) := by rw [hf12, va_up_ne _ _ (fun zz => hq (by rw [← zz]; exact hx))]; exact fx
    have m12_E : E ∈ L ++ [q] := List.mem_append_left _ (hE.1)
    have f12_E : f12 E = .inr (6, [.long dw.1, .long dw.2.1, .long dw.2.2.1, .long dw.2.2.2.1, .int dw.2.2.2.2.1, .long dw.2.2.2.2.2]) := by rw [hf12, va_up_ne _ _ (fun zz => hq (by rw [← zz]; exact hE.1))]; exact hE.2
    have m12_q : q ∈ L ++ [q] := List.mem_append_right _ List.mem_cons_self
    have f12_q : f12 q = .inr (6, [.long 0, .long 0, .long 0, .long 0, .int 0, .long 0]) := by rw [hf12]; exact va_up_self _ _ _
    refine lv_dup gX gB dX5_person_56 rfl ?_
    refine lv_lload_n gX gB dX5_person_57 rfl (lv_at hl 1 rfl) ?_
    refine lv_lload_n gX gB dX5_person_58 rfl (lv_at hl 2 rfl) ?_
    refine lv_lconst (v := 0) gX gB dX5_person_59 (by decide) ?_
    refine lv_lload gX gB dX5_person_60 (lv_at hl 3 rfl) ?_
    refine gx_callIN (wr := []) (rest := [.ref q, .ref x]) C hW sX5_31n (kX1_init l G (L ++ [q]) f12 q px0 py0 0 pg0 m12_q f12_q) rfl ⟨(Nat.le_of_ble_eq_true rfl), (Nat.le_of_ble_eq_true rfl)⟩ hl.1 rfl (Nat.le_of_ble_eq_true rfl) dX5_person_62 ⟨(Nat.le_of_ble_eq_true rfl), (Nat.le_of_ble_eq_true rfl)⟩ (fun v9 u9 H locs hp hW => ?_)
    obtain ⟨rfl, hu⟩ := hp
    rw [hu] at hW
    have hW : gx_W G A s (va_pl (L ++ [q]) (va_up f12 q (.inr (6, [.long px0, .long py0, .long 0, .long pg0, .int (-1), .long 0])))) H locs := hW
    refine W.eq (g2 := F0 m 65 ls [.ref q, .ref x]) rfl ?_
    refine W.widen (k := 4) (n := 24) (Nat.le_of_ble_eq_true rfl) (Nat.le_of_ble_eq_true rfl) ?_
    rw [hf12, bx_uu] at hW
    obtain ⟨f1, hf1⟩ : ∃ zz, zz = va_up f q (.inr (6, [.long px0, .long py0, .long 0, .long pg0, .int (-1), .long 0])) := ⟨_, rfl⟩
    rw [← hf1] at hW
    have hxq : x ≠ q := fun zz => hq (by rw [← zz]; exact hx)
    have fx1 : f1 x = .inr (10, [.ref P, .ref F, .ref S, .ref X, .ref N, .ref T, .ref E, .int dc]) := by rw [hf1, va_up_ne _ _ hxq]; exact fx
    have hx1 : x ∈ L ++ [q] := List.mem_append_left _ hx
    have hW : gx_W G A s (va_pl (L ++ [q]) f1) H locs := hW
    refine gx_put C hW clX5 fX5_41 hx1 fx1 (Or.inl rfl) rfl rfl (Nat.le_of_ble_eq_true rfl) dX5_person_65 (fun H locs hW => ?_)
    obtain ⟨f13, hf13⟩ : ∃ zz, zz = va_up f1 x (.inr (10, [.ref P, .ref F, .ref S, .ref X, .ref N, .ref T, .ref q, .int dc])) := ⟨_, rfl⟩
    have hW : gx_W G A s (va_pl (L ++ [q]) f13) H locs := by rw [hf13]; exact hW
    have f13_x : f13 x = .inr (10, [.ref P, .ref F, .ref S, .ref X, .ref N, .ref T, .ref q, .int dc]) := by rw [hf13]; exact va_up_self _ _ _
    refine lv_iconst (v := 1) gX gB dX5_person_68 (by decide) ?_
    refine vx_ret ?_
    exact gx_zret C hr (by decide) hW (⟨pe_0 ⟨n1, n2, n4⟩, Or.inr ⟨rfl, fun zz => absurd zz.1 c21, q, hq, by rw [hf13, hf1]⟩⟩) (Nat.le_of_ble_eq_true rfl) (Nat.le_of_ble_eq_true rfl) dX5_person_69
  · refine lv_aload_n gX gB dX5_person_25 rfl (lv_at hl 0 rfl) ?_
    refine gx_get C hW fX5_41 (gx_pl hx fx) rfl dX5_person_26 ?_
    refine gx_getN C hW fX5_109n (gx_pl hE.1 hE.2) rfl dX5_person_29 ?_
    refine lv_lload_n gX gB dX5_person_32 rfl (lv_at hl 2 rfl) ?_
    refine gx_lc_ne (tgt := 52) C dX5_person_33 dX5_person_34 (by decide) (fun c33 => ?_) (fun c33 => ?_)
    · refine lv_aload_n gX gB dX5_person_52 rfl (lv_at hl 0 rfl) ?_
      refine gx_new (ci := 6) C hW clX1 inX1 rfl (tq_1 99 (by decide +kernel) rfl) (tq_1 100 (by decide +kernel) rfl) (tq_1 9 (by decide +kernel) rfl) dfX1 (Nat.le_of_ble_eq_true rfl) (Nat.le_of_ble_eq_true rfl) dX5_person_53 (fun q H hq hW => ?_)
      refine W.widen (k := 4) (n := 24) (Nat.le_of_ble_eq_true rfl) (Nat.le_of_ble_eq_true rfl) ?_
      obtain ⟨f14, hf14⟩ : ∃ zz, zz = va_up f q (.inr (6, [.long 0, .long 0, .long 0, .long 0, .int 0, .long 0])) := ⟨_, rfl⟩
      have hW := hW
      rw [← hf14] at hW
      have m14_x : x ∈ L ++ [q] := List.mem_append_left _ (hx)
      have f14_x : f14 x = .inr (10, [.ref P, .ref F, .ref S, .ref X, .ref N, .ref T, .ref E, .int dc]) := by rw [hf14, va_up_ne _ _ (fun zz => hq (by rw [← zz]; exact hx))]; exact fx
      have m14_E : E ∈ L ++ [q] := List.mem_append_left _ (hE.1)
      have f14_E : f14 E = .inr (6, [.long dw.1, .long dw.2.1, .long dw.2.2.1, .long dw.2.2.2.1, .int dw.2.2.2.2.1, .long dw.2.2.2.2.2]) := by rw [hf14, va_up_ne _ _ (fun zz => hq (by rw [← zz]; exact hE.1))]; exact hE.2
      have m14_q : q ∈ L ++ [q] := List.mem_append_right _ List.mem_cons_self
      have f14_q : f14 q = .inr (6, [.long 0, .long 0, .long 0, .long 0, .int 0, .long 0]) := by rw [hf14]; exact va_up_self _ _ _
      refine lv_dup gX gB dX5_person_56 rfl ?_
      refine lv_lload_n gX gB dX5_person_57 rfl (lv_at hl 1 rfl) ?_
      refine lv_lload_n gX gB dX5_person_58 rfl (lv_at hl 2 rfl) ?_
      refine lv_lconst (v := 0) gX gB dX5_person_59 (by decide) ?_
      refine lv_lload gX gB dX5_person_60 (lv_at hl 3 rfl) ?_
      refine gx_callIN (wr := []) (rest := [.ref q, .ref x]) C hW sX5_31n (kX1_init l G (L ++ [q]) f14 q px0 py0 0 pg0 m14_q f14_q) rfl ⟨(Nat.le_of_ble_eq_true rfl), (Nat.le_of_ble_eq_true rfl)⟩ hl.1 rfl (Nat.le_of_ble_eq_true rfl) dX5_person_62 ⟨(Nat.le_of_ble_eq_true rfl), (Nat.le_of_ble_eq_true rfl)⟩ (fun v9 u9 H locs hp hW => ?_)
      obtain ⟨rfl, hu⟩ := hp
      rw [hu] at hW
      have hW : gx_W G A s (va_pl (L ++ [q]) (va_up f14 q (.inr (6, [.long px0, .long py0, .long 0, .long pg0, .int (-1), .long 0])))) H locs := hW
      refine W.eq (g2 := F0 m 65 ls [.ref q, .ref x]) rfl ?_
      refine W.widen (k := 4) (n := 24) (Nat.le_of_ble_eq_true rfl) (Nat.le_of_ble_eq_true rfl) ?_
      rw [hf14, bx_uu] at hW
      obtain ⟨f1, hf1⟩ : ∃ zz, zz = va_up f q (.inr (6, [.long px0, .long py0, .long 0, .long pg0, .int (-1), .long 0])) := ⟨_, rfl⟩
      rw [← hf1] at hW
      have hxq : x ≠ q := fun zz => hq (by rw [← zz]; exact hx)
      have fx1 : f1 x = .inr (10, [.ref P, .ref F, .ref S, .ref X, .ref N, .ref T, .ref E, .int dc]) := by rw [hf1, va_up_ne _ _ hxq]; exact fx
      have hx1 : x ∈ L ++ [q] := List.mem_append_left _ hx
      have hW : gx_W G A s (va_pl (L ++ [q]) f1) H locs := hW
      refine gx_put C hW clX5 fX5_41 hx1 fx1 (Or.inl rfl) rfl rfl (Nat.le_of_ble_eq_true rfl) dX5_person_65 (fun H locs hW => ?_)
      obtain ⟨f15, hf15⟩ : ∃ zz, zz = va_up f1 x (.inr (10, [.ref P, .ref F, .ref S, .ref X, .ref N, .ref T, .ref q, .int dc])) := ⟨_, rfl⟩
      have hW : gx_W G A s (va_pl (L ++ [q]) f15) H locs := by rw [hf15]; exact hW
      have f15_x : f15 x = .inr (10, [.ref P, .ref F, .ref S, .ref X, .ref N, .ref T, .ref q, .int dc]) := by rw [hf15]; exact va_up_self _ _ _
      refine lv_iconst (v := 1) gX gB dX5_person_68 (by decide) ?_
      refine vx_ret ?_
      exact gx_zret C hr (by decide) hW (⟨pe_0 ⟨n1, n2, n4⟩, Or.inr ⟨rfl, fun zz => absurd zz.2.1 c33, q, hq, by rw [hf15, hf1]⟩⟩) (Nat.le_of_ble_eq_true rfl) (Nat.le_of_ble_eq_true rfl) dX5_person_69
    · refine lv_aload_n gX gB dX5_person_37 rfl (lv_at hl 0 rfl) ?_
      refine gx_get C hW fX5_41 (gx_pl hx fx) rfl dX5_person_38 ?_
      refine gx_getN C hW fX5_112n (gx_pl hE.1 hE.2) rfl dX5_person_41 ?_
      refine lv_lload gX gB dX5_person_44 (lv_at hl 3 rfl) ?_
      refine gx_lc_ne (tgt := 52) C dX5_person_46 dX5_person_47 (by decide) (fun c46 => ?_) (fun c46 => ?_)
      · refine lv_aload_n gX gB dX5_person_52 rfl (lv_at hl 0 rfl) ?_
        refine gx_new (ci := 6) C hW clX1 inX1 rfl (tq_1 99 (by decide +kernel) rfl) (tq_1 100 (by decide +kernel) rfl) (tq_1 9 (by decide +kernel) rfl) dfX1 (Nat.le_of_ble_eq_true rfl) (Nat.le_of_ble_eq_true rfl) dX5_person_53 (fun q H hq hW => ?_)
        refine W.widen (k := 4) (n := 24) (Nat.le_of_ble_eq_true rfl) (Nat.le_of_ble_eq_true rfl) ?_
        obtain ⟨f16, hf16⟩ : ∃ zz, zz = va_up f q (.inr (6, [.long 0, .long 0, .long 0, .long 0, .int 0, .long 0])) := ⟨_, rfl⟩
        have hW := hW
        rw [← hf16] at hW
        have m16_x : x ∈ L ++ [q] := List.mem_append_left _ (hx)
        have f16_x : f16 x = .inr (10, [.ref P, .ref F, .ref S, .ref X, .ref N, .ref T, .ref E, .int dc]) := by rw [hf16, va_up_ne _ _ (fun zz => hq (by rw [← zz]; exact hx))]; exact fx
        have m16_E : E ∈ L ++ [q] := List.mem_append_left _ (hE.1)
        have f16_E : f16 E = .inr (6, [.long dw.1, .long dw.2.1, .long dw.2.2.1, .long dw.2.2.2.1, .int dw.2.2.2.2.1, .long dw.2.2.2.2.2]) := by rw [hf16, va_up_ne _ _ (fun zz => hq (by rw [← zz]; exact hE.1))]; exact hE.2
        have m16_q : q ∈ L ++ [q] := List.mem_append_right _ List.mem_cons_self
        have f16_q : f16 q = .inr (6, [.long 0, .long 0, .long 0, .long 0, .int 0, .long 0]) := by rw [hf16]; exact va_up_self _ _ _
        refine lv_dup gX gB dX5_person_56 rfl ?_
        refine lv_lload_n gX gB dX5_person_57 rfl (lv_at hl 1 rfl) ?_
        refine lv_lload_n gX gB dX5_person_58 rfl (lv_at hl 2 rfl) ?_
        refine lv_lconst (v := 0) gX gB dX5_person_59 (by decide) ?_
        refine lv_lload gX gB dX5_person_60 (lv_at hl 3 rfl) ?_
        refine gx_callIN (wr := []) (rest := [.ref q, .ref x]) C hW sX5_31n (kX1_init l G (L ++ [q]) f16 q px0 py0 0 pg0 m16_q f16_q) rfl ⟨(Nat.le_of_ble_eq_true rfl), (Nat.le_of_ble_eq_true rfl)⟩ hl.1 rfl (Nat.le_of_ble_eq_true rfl) dX5_person_62 ⟨(Nat.le_of_ble_eq_true rfl), (Nat.le_of_ble_eq_true rfl)⟩ (fun v9 u9 H locs hp hW => ?_)
        obtain ⟨rfl, hu⟩ := hp
        rw [hu] at hW
        have hW : gx_W G A s (va_pl (L ++ [q]) (va_up f16 q (.inr (6, [.long px0, .long py0, .long 0, .long pg0, .int (-1), .long 0])))) H locs := hW
        refine W.eq (g2 := F0 m 65 ls [.ref q, .ref x]) rfl ?_
        refine W.widen (k := 4) (n := 24) (Nat.le_of_ble_eq_true rfl) (Nat.le_of_ble_eq_true rfl) ?_
        rw [hf16, bx_uu] at hW
        obtain ⟨f1, hf1⟩ : ∃ zz, zz = va_up f q (.inr (6, [.long px0, .long py0, .long 0, .long pg0, .int (-1), .long 0])) := ⟨_, rfl⟩
        rw [← hf1] at hW
        have hxq : x ≠ q := fun zz => hq (by rw [← zz]; exact hx)
        have fx1 : f1 x = .inr (10, [.ref P, .ref F, .ref S, .ref X, .ref N, .ref T, .ref E, .int dc]) := by rw [hf1, va_up_ne _ _ hxq]; exact fx
        have hx1 : x ∈ L ++ [q] := List.mem_append_left _ hx
        have hW : gx_W G A s (va_pl (L ++ [q]) f1) H locs := hW
        refine gx_put C hW clX5 fX5_41 hx1 fx1 (Or.inl rfl) rfl rfl (Nat.le_of_ble_eq_true rfl) dX5_person_65 (fun H locs hW => ?_)
        obtain ⟨f17, hf17⟩ : ∃ zz, zz = va_up f1 x (.inr (10, [.ref P, .ref F, .ref S, .ref X, .ref N, .ref T, .ref q, .int dc])) := ⟨_, rfl⟩
        have hW : gx_W G A s (va_pl (L ++ [q]) f17) H locs := by rw [hf17]; exact hW
        have f17_x : f17 x = .inr (10, [.ref P, .ref F, .ref S, .ref X, .ref N, .ref T, .ref q, .int dc]) := by rw [hf17]; exact va_up_self _ _ _
        refine lv_iconst (v := 1) gX gB dX5_person_68 (by decide) ?_
        refine vx_ret ?_
        exact gx_zret C hr (by decide) hW (⟨pe_0 ⟨n1, n2, n4⟩, Or.inr ⟨rfl, fun zz => absurd zz.2.2 c46, q, hq, by rw [hf17, hf1]⟩⟩) (Nat.le_of_ble_eq_true rfl) (Nat.le_of_ble_eq_true rfl) dX5_person_69
      · refine lv_iconst (v := 0) gX gB dX5_person_50 (by decide) ?_
        refine vx_ret ?_
        exact gx_zret C hr (by decide) hW (⟨pe_0 ⟨n1, n2, n4⟩, Or.inl ⟨rfl, rfl, c21, c33, c46⟩⟩) (Nat.le_of_ble_eq_true rfl) (Nat.le_of_ble_eq_true rfl) dX5_person_51
