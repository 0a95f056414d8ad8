/-! STANDTESTS: foot. -/
def fo_code (x y : Int64) : Int32 := if pl_ok x ∧ pl_ok y then 0 else 1
theorem fo_1 {x y : Int64} (h2 : ¬ (pl_ok x ∧ pl_ok y)) : fo_code x y = 1 := if_neg h2
theorem fo_0 {x y : Int64} (h2 : pl_ok x ∧ pl_ok y) : fo_code x y = 0 := if_pos h2
def ft_snoc (fd : Nat → ft_T) (n : Nat) (p : ft_T) (i : Nat) : ft_T := if i = n then p else fd i
theorem ft_snoc_old {fd : Nat → ft_T} {n i : Nat} {p : ft_T} (h : i < n) : ft_snoc fd n p i = fd i := if_neg (by omega)
theorem ft_snoc_new {fd : Nat → ft_T} {n : Nat} {p : ft_T} : ft_snoc fd n p n = p := if_pos rfl
theorem snoc_last {fa : List Nat} {q : Nat} (h : fa.length < (fa ++ [q]).length) : (fa ++ [q])[fa.length] = q := by
  rw [List.getElem_append_right (Nat.le_refl _)]
  simp
theorem ls_at.far {G : gx_T} {L : List Nat} {f : Nat → va_E} {q h2 : Nat} {b b2 : Option Nat} {xs x2 : List Nat} (h : ls_at G L f q b xs) (hl : ls_at G L f h2 b2 x2) (hne : q ≠ h2) (hb : ∀ b9, b = some b9 → ¬ b2 = some b9) : (q ≠ h2 ∧ some q ≠ b2) ∧ ∀ b9, b = some b9 → b9 ≠ h2 ∧ some b9 ≠ b2 := by
  refine ⟨⟨hne, ?_⟩, fun b9 h9 => ⟨fun z => ?_, fun z => hb b9 h9 z.symm⟩⟩
  · obtain ⟨mc, r9, h9⟩ := h.head
    exact hl.obj h9
  · obtain ⟨mc, r9, h8⟩ := hl.head
    exact h.obj h8 (by rw [h9, z])
theorem ls_at.grown {G : gx_T} {L : List Nat} {f : Nat → va_E} {q : Nat} {b : Option Nat} {xs : List Nat} (hl : ls_at G L f q b xs) {v : Nat} {L' : List Nat} {f' : Nat → va_E} {b' : Nat} (hg : cs_grown G L f q b xs v L' f' b') {h2 : Nat} {b2 : Option Nat} {x2 : List Nat} (h : ls_at G L f h2 b2 x2) (hne : h2 ≠ q) (hb : ∀ b9, b2 = some b9 → ¬ b = some b9) : ls_at G L' f' h2 b2 x2 := h.kept hg.2.2.2.1 (hg.2.2.2.2 h2 h.1 (h.far hl hne hb).1.1 (h.far hl hne hb).1.2) (fun b9 h9 => hg.2.2.2.2 b9 (h.row b9 h9) ((h.far hl hne hb).2 b9 h9).1 ((h.far hl hne hb).2 b9 h9).2)
set_option maxHeartbeats 4000000 in
set_option maxRecDepth 100000 in
theorem kX5_foot (l : Launch) (hfl : l.flags = flags0) (G : gx_T) (L : List Nat) (f : Nat → va_E) (x P F S X N T E : Nat) (dc : Int32) (hx : x ∈ L) (fx : f x = .inr (10, [.ref P, .ref F, .ref S, .ref X, .ref N, .ref T, .ref E, .int dc])) (bF : Option Nat) (fa : List Nat) (fd : Nat → ft_T) (hlF : ls_at G L f F bF fa) (hfd : ∀ i (h : i < fa.length), ft_is L f fa[i] (nI i) (fd i)) (hF12 : fa.length ≤ 12) (bS : Option Nat) (sa : List Nat) (hlS : ls_at G L f S bS sa) (hFS : F ≠ S) (hFb : ∀ b9, bF = some b9 → ¬ bS = some b9) (px0 py0 : Int64) : gx_MX l G yX5_foot cX5_foot 6 (some .boolean) ({ frames := 9, cells := 41, slots := 651, locals := 256 } : Room) [.ref x, .long px0, .long py0] (va_pl L f) (fun v u => fo_code px0 py0 = 0 ∧ ((v = some (.int 0) ∧ u = va_pl L f ∧ ¬ fa.length < 12) ∨ (v = some (.int 1) ∧ fa.length < 12 ∧ ∃ (q : Nat) (L1 : List Nat) (f1 : Nat → va_E) (b1 : Nat) (L2 : List Nat) (f2 : Nat → va_E) (b2 : Option Nat) (sb : List Nat), u = va_pl L2 f2 ∧ cs_grown G L f F bF fa q L1 f1 b1 ∧ ft_is L1 f1 q (nI fa.length) (px0, py0) ∧ sl_at G L1 f1 S bS b2 sb L2 f2 ∧ sb.length = (if (co_of (ft_snoc fd fa.length (px0, py0)) (fa ++ [q]).length fa.length).length < 3 then 0 else (co_of (ft_snoc fd fa.length (px0, py0)) (fa ++ [q]).length fa.length).length) ∧ ∀ j (h : j < sb.length), sd_is L2 f2 sb[j] (sd_of (ft_snoc fd fa.length (px0, py0)) (co_of (ft_snoc fd fa.length (px0, py0)) (fa ++ [q]).length fa.length) j)))) (fun Ex u => u = va_pl L f ∧ px1 gx_E2 (fo_code px0 py0) Ex) := by
  refine gx_startX (by decide +kernel) (Nat.le_of_ble_eq_true rfl) ?_
  intro p e s m args below meth c A ls C hr hno hW hl
  have gX := C.x
  have gB := C.b
  have hl : lv_has ls 6 [(0, .ref x), (1, .long px0), (3, .long py0)] := hl
  refine lv_lload_n gX gB dX5_foot_0 rfl (lv_at hl 1 rfl) ?_
  refine gx_callSX (wr := []) (rest := []) C hW sX5_59 (kX5_needPlace l hfl G (va_pl L f) px0) rfl ⟨(Nat.le_of_ble_eq_true rfl), (Nat.le_of_ble_eq_true rfl)⟩ hl.1 rfl (Nat.le_of_ble_eq_true rfl) dX5_foot_1 ⟨(Nat.le_of_ble_eq_true rfl), (Nat.le_of_ble_eq_true rfl)⟩ (fun E ce q9 u9 H locs hpx hW hce hcv hcl => gx_out C hno hW hce hcv hcl (⟨hpx.2.1, hpx.1, fo_1 (fun zz => hpx.2.2 zz.1)⟩) (Nat.le_of_ble_eq_true rfl) (Nat.le_of_ble_eq_true rfl)) (fun v9 u9 H locs hp hW => ?_)
  obtain ⟨rfl, hu, n1⟩ := hp
  rw [hu] at hW
  have hW : gx_W G A s (va_pl L f) H locs := hW
  refine W.eq (g2 := F0 m 4 ls []) rfl ?_
  refine W.widen (k := 1) (n := 6) (Nat.le_of_ble_eq_true rfl) (Nat.le_of_ble_eq_true rfl) ?_
  refine lv_lload_n gX gB dX5_foot_4 rfl (lv_at hl 2 rfl) ?_
  refine gx_callSX (wr := []) (rest := []) C hW sX5_59 (kX5_needPlace l hfl G (va_pl L f) py0) rfl ⟨(Nat.le_of_ble_eq_true rfl), (Nat.le_of_ble_eq_true rfl)⟩ hl.1 rfl (Nat.le_of_ble_eq_true rfl) dX5_foot_5 ⟨(Nat.le_of_ble_eq_true rfl), (Nat.le_of_ble_eq_true rfl)⟩ (fun E ce q9 u9 H locs hpx hW hce hcv hcl => gx_out C hno hW hce hcv hcl (⟨hpx.2.1, hpx.1, fo_1 (fun zz => hpx.2.2 zz.2)⟩) (Nat.le_of_ble_eq_true rfl) (Nat.le_of_ble_eq_true rfl)) (fun v9 u9 H locs hp hW => ?_)
  obtain ⟨rfl, hu, n2⟩ := hp
  rw [hu] at hW
  have hW : gx_W G A s (va_pl L f) H locs := hW
  refine W.eq (g2 := F0 m 8 ls []) rfl ?_
  refine W.widen (k := 2) (n := 12) (Nat.le_of_ble_eq_true rfl) (Nat.le_of_ble_eq_true rfl) ?_
  refine lv_aload_n gX gB dX5_foot_8 rfl (lv_at hl 0 rfl) ?_
  refine gx_get C hW fX5_16 (gx_pl hx fx) rfl dX5_foot_9 ?_
  refine gx_callV (wr := []) (rest := []) C hW sX5_48 (kL_size l G L f F bF fa hlF) (gx_pl hlF.1 (ls_at.head hlF).choose_spec.choose_spec) rfl rfl ⟨(Nat.le_of_ble_eq_true rfl), (Nat.le_of_ble_eq_true rfl)⟩ hl.1 rfl (Nat.le_of_ble_eq_true rfl) dX5_foot_12 ⟨(Nat.le_of_ble_eq_true rfl), (Nat.le_of_ble_eq_true rfl)⟩ (fun v9 u9 H locs hp hW => ?_)
  obtain ⟨rfl, hu⟩ := hp
  rw [hu] at hW
  have hW : gx_W G A s (va_pl L f) H locs := hW
  refine W.eq (g2 := F0 m 15 ls [.int (nI fa.length)]) rfl ?_
  refine W.widen (k := 2) (n := 12) (Nat.le_of_ble_eq_true rfl) (Nat.le_of_ble_eq_true rfl) ?_
  refine lv_bipush (v := 12) gX gB dX5_foot_15 (by decide) ?_
  refine lv_icmp_lt (tgt := 22) gX gB dX5_foot_17 (by decide) (fun c17 => ?_) (fun c17 => ?_)
  · refine gx_new (ci := 5) C hW clX0 inX0 rfl (tq_3 231 (by decide +kernel) rfl) (tq_3 232 (by decide +kernel) rfl) (tq_1 20 (by decide +kernel) rfl) dfX0 (Nat.le_of_ble_eq_true rfl) (Nat.le_of_ble_eq_true rfl) dX5_foot_22 (fun q H hq hW => ?_)
    refine W.widen (k := 3) (n := 15) (Nat.le_of_ble_eq_true rfl) (Nat.le_of_ble_eq_true rfl) ?_
    obtain ⟨f11, hf11⟩ : ∃ zz, zz = va_up f q (.inr (5, [.int 0, .long 0, .long 0])) := ⟨_, rfl⟩
    have hW := hW
    rw [← hf11] at hW
    have m11_x : x ∈ L ++ [q] := List.mem_append_left _ (hx)
    have f11_x : f11 x = .inr (10, [.ref P, .ref F, .ref S, .ref X, .ref N, .ref T, .ref E, .int dc]) := by rw [hf11, va_up_ne _ _ (fun zz => hq (by rw [← zz]; exact hx))]; exact fx
    have m11_q : q ∈ L ++ [q] := List.mem_append_right _ List.mem_cons_self
    have f11_q : f11 q = .inr (5, [.int 0, .long 0, .long 0]) := by rw [hf11]; exact va_up_self _ _ _
    refine lv_dup gX gB dX5_foot_25 rfl ?_
    refine lv_aload_n gX gB dX5_foot_26 rfl (lv_at hl 0 rfl) ?_
    refine gx_get C hW fX5_16 (gx_pl m11_x f11_x) rfl dX5_foot_27 ?_
    have hF3 : ls_at G (L ++ [q]) f11 F bF fa := by rw [hf11]; exact hlF.newo hq
    refine gx_callV (wr := []) (rest := [.ref q, .ref q]) C hW sX5_48 (kL_size l G (L ++ [q]) f11 F bF fa hF3) (gx_pl hF3.1 (ls_at.head hF3).choose_spec.choose_spec) rfl rfl ⟨(Nat.le_of_ble_eq_true rfl), (Nat.le_of_ble_eq_true rfl)⟩ hl.1 rfl (Nat.le_of_ble_eq_true rfl) dX5_foot_30 ⟨(Nat.le_of_ble_eq_true rfl), (Nat.le_of_ble_eq_true rfl)⟩ (fun v9 u9 H locs hp hW => ?_)
    obtain ⟨rfl, hu⟩ := hp
    rw [hu] at hW
    have hW : gx_W G A s (va_pl (L ++ [q]) f11) H locs := hW
    refine W.eq (g2 := F0 m 33 ls [.int (nI fa.length), .ref q, .ref q]) rfl ?_
    refine W.widen (k := 3) (n := 15) (Nat.le_of_ble_eq_true rfl) (Nat.le_of_ble_eq_true rfl) ?_
    refine lv_lload_n gX gB dX5_foot_33 rfl (lv_at hl 1 rfl) ?_
    refine lv_lload_n gX gB dX5_foot_34 rfl (lv_at hl 2 rfl) ?_
    refine gx_callIN (wr := []) (rest := [.ref q]) C hW sX5_72n (kX0_init l G (L ++ [q]) f11 q (nI fa.length) px0 py0 m11_q f11_q) rfl ⟨(Nat.le_of_ble_eq_true rfl), (Nat.le_of_ble_eq_true rfl)⟩ hl.1 rfl (Nat.le_of_ble_eq_true rfl) dX5_foot_35 ⟨(Nat.le_of_ble_eq_true rfl), (Nat.le_of_ble_eq_true rfl)⟩ (fun v9 u9 H locs hp hW => ?_)
    obtain ⟨rfl, hu⟩ := hp
    rw [hu] at hW
    have hW : gx_W G A s (va_pl (L ++ [q]) (va_up f11 q (.inr (5, [.int (nI fa.length), .long px0, .long py0])))) H locs := hW
    refine W.eq (g2 := F0 m 38 ls [.ref q]) rfl ?_
    refine W.widen (k := 3) (n := 15) (Nat.le_of_ble_eq_true rfl) (Nat.le_of_ble_eq_true rfl) ?_
    rw [hf11, bx_uu] at hW
    have hF4 : ls_at G (L ++ [q]) (va_up f q (.inr (5, [.int (nI fa.length), .long px0, .long py0]))) F bF fa := hlF.newo hq
    have hxq : x ≠ q := fun zz => hq (by rw [← zz]; exact hx)
    have hW : gx_W G A s (va_pl (L ++ [q]) (va_up f q (.inr (5, [.int (nI fa.length), .long px0, .long py0])))) H locs := hW
    refine lv_astore (lv' := [(5, .ref q), (0, .ref x), (1, .long px0), (3, .long py0)]) gX gB dX5_foot_38 hl (by decide) rfl (fun ls hl => ?_)
    refine lv_aload_n gX gB dX5_foot_40 rfl (lv_at hl 1 rfl) ?_
    refine gx_get C hW fX5_16 (gx_pl (List.mem_append_left _ hx) ((va_up_ne _ _ hxq).trans fx)) rfl dX5_foot_41 ?_
    refine lv_aload gX gB dX5_foot_44 (lv_at hl 0 rfl) ?_
    have hqF : q ≠ F := fun zz => hq (by rw [zz]; exact hlF.1)
    have hqb : some q ≠ bF := fun zz => hq (hlF.row q zz.symm)
    have hel9 : ∀ y ∈ fa, gx_el (L ++ [q]) (va_up f q (.inr (5, [.int (nI fa.length), .long px0, .long py0]))) y ∧ y ≠ F := fun y hy => by
      obtain ⟨i, hi, rfl⟩ := List.mem_iff_getElem.mp hy
      exact ⟨(hfd i hi).el.push hq, (hlF.apart (hfd i hi).2 (by decide)).1⟩
    refine gx_callV (wr := []) (rest := []) C hW sX5_66 (kL_add l G (L ++ [q]) (va_up f q (.inr (5, [.int (nI fa.length), .long px0, .long py0]))) F bF fa hF4 q (gx_snoc_el 5 3 _ RX0 TX0 rfl rfl (List.mem_of_getElem? (i := 0) (by decide +kernel))) hqF hel9 (by omega)) (gx_pl hF4.1 (ls_at.head hF4).choose_spec.choose_spec) rfl rfl ⟨(Nat.le_of_ble_eq_true rfl), (Nat.le_of_ble_eq_true rfl)⟩ hl.1 rfl (Nat.le_of_ble_eq_true rfl) dX5_foot_46 ⟨(Nat.le_of_ble_eq_true rfl), (Nat.le_of_ble_eq_true rfl)⟩ (fun v9 u9 H locs hp hW => ?_)
    obtain ⟨rfl, hadd⟩ := hp
    have hW : gx_W G A s (u9) H locs := hW
    refine W.eq (g2 := F0 m 49 ls [.int 1]) rfl ?_
    refine W.widen (k := 4) (n := 39) (Nat.le_of_ble_eq_true rfl) (Nat.le_of_ble_eq_true rfl) ?_
    obtain ⟨L1, f1, b1, hu, hgr, hqL, hfq⟩ := ls_added.grown hq hadd hqF hqb
    rw [hu] at hW
    have hxF := hlF.apart fx (by decide)
    have hx1 : x ∈ L1 := hgr.2.2.2.1 x hx
    have fx1 : f1 x = .inr (10, [.ref P, .ref F, .ref S, .ref X, .ref N, .ref T, .ref E, .int dc]) := (hgr.2.2.2.2 x hx hxF.1 hxF.2).trans fx
    have hq1 : ft_is L1 f1 q (nI fa.length) (px0, py0) := ⟨hqL, hfq⟩
    have hfd1 : ∀ i (h : i < (fa ++ [q]).length), ft_is L1 f1 (fa ++ [q])[i] (nI i) (ft_snoc fd fa.length (px0, py0) i) := ls_snocP (P := fun a i => ft_is L1 f1 a (nI i) (ft_snoc fd fa.length (px0, py0) i)) (fun i h => by rw [ft_snoc_old h]; exact (hfd i h).grown hlF hgr) (by rw [ft_snoc_new]; exact hq1)
    have hlS1 : ls_at G L1 f1 S bS sa := hlF.grown hgr hlS (fun zz => hFS zz.symm) (fun b9 h9 zz => hFb b9 zz h9)
    have hFb1 : ∀ b9, some b1 = some b9 → ¬ bS = some b9 := fun b9 h9 zz => by
      injection h9 with h9
      rcases hgr.2.2.1 with h8 | h8
      · exact hFb b9 (by rw [h8, h9]) zz
      · exact h8 (by rw [h9]; exact hlS.row b9 zz)
    have hn0 : (fa ++ [q]).length = fa.length + 1 := by rw [List.length_append]; rfl
    have hb0 : fa.length < (fa ++ [q]).length := by omega
    have h12 : fa.length < 12 := (nI_ltI (b := 12) (by omega) (by decide)).mp (c17)
    have hW : gx_W G A s (va_pl L1 f1) H locs := hW
    refine lv_pop gX gB dX5_foot_49 rfl ?_
    refine lv_aload_n gX gB dX5_foot_50 rfl (lv_at hl 1 rfl) ?_
    refine lv_aload gX gB dX5_foot_51 (lv_at hl 0 rfl) ?_
    have hlay := kX5_layOutSides l G L1 f1 x P F S X N T E dc hx1 fx1 (some b1) (fa ++ [q]) (ft_snoc fd fa.length (px0, py0)) hgr.1 hfd1 (by omega) bS sa hlS1 hFS hFb1 fa.length hb0
    rw [snoc_last hb0] at hlay
    refine gx_callV (wr := []) (rest := []) C hW sX5_75 (hlay) (gx_pl hx1 fx1) rfl rfl ⟨(Nat.le_of_ble_eq_true rfl), (Nat.le_of_ble_eq_true rfl)⟩ hl.1 rfl (Nat.le_of_ble_eq_true rfl) dX5_foot_53 ⟨(Nat.le_of_ble_eq_true rfl), (Nat.le_of_ble_eq_true rfl)⟩ (fun v9 u9 H locs hp hW => ?_)
    obtain ⟨rfl, L2, f2, b2, sb, hu, hsl, hsbn, hsd⟩ := hp
    rw [hu] at hW
    have hW : gx_W G A s (va_pl L2 f2) H locs := hW
    refine W.eq (g2 := F0 m 56 ls []) rfl ?_
    refine W.widen (k := 41) (n := 651) (Nat.le_of_ble_eq_true rfl) (Nat.le_of_ble_eq_true rfl) ?_
    refine lv_iconst (v := 1) gX gB dX5_foot_56 (by decide) ?_
    refine vx_ret ?_
    exact gx_zret C hr (by decide) hW (⟨fo_0 ⟨n1, n2⟩, Or.inr ⟨rfl, h12, q, L1, f1, b1, L2, f2, b2, sb, rfl, hgr, hq1, hsl, hsbn, hsd⟩⟩) (Nat.le_of_ble_eq_true rfl) (Nat.le_of_ble_eq_true rfl) dX5_foot_57
  · refine lv_iconst (v := 0) gX gB dX5_foot_20 (by decide) ?_
    refine vx_ret ?_
    exact gx_zret C hr (by decide) hW (⟨fo_0 ⟨n1, n2⟩, Or.inl ⟨rfl, rfl, fun zz => (c17) ((nI_ltI (b := 12) (by omega) (by decide)).mpr zz)⟩⟩) (Nat.le_of_ble_eq_true rfl) (Nat.le_of_ble_eq_true rfl) dX5_foot_21
