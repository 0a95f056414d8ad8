/-! STANDTESTS: layOutSides. -/
theorem ls_at.obj {G : gx_T} {L : List Nat} {f : Nat → va_E} {q : Nat} {b : Option Nat} {xs : List Nat} (h : ls_at G L f q b xs) {a ci : Nat} {vs : List Value} (ha : f a = .inr (ci, vs)) : some a ≠ b := by
  intro z
  obtain ⟨-, mc, h2⟩ := h
  rw [← z] at h2
  obtain ⟨-, -, n, g, hg, -⟩ := h2
  rw [ha] at hg
  cases hg
theorem ls_at.newo {G : gx_T} {L : List Nat} {f : Nat → va_E} {q : Nat} {b : Option Nat} {xs : List Nat} (h : ls_at G L f q b xs) {v : Nat} {e1 : va_E} (hv : v ∉ L) : ls_at G (L ++ [v]) (va_up f v e1) q b xs := h.kept (fun a ha => List.mem_append_left _ ha) (va_up_ne _ _ (fun z => hv (by rw [← z]; exact h.1))) (fun b9 h9 => va_up_ne _ _ (fun z => hv (by rw [← z]; exact h.row b9 h9)))
theorem ft_is.newo {L : List Nat} {f : Nat → va_E} {a : Nat} {n : Int32} {p : ft_T} (h : ft_is L f a n p) {v : Nat} {e1 : va_E} (hv : v ∉ L) : ft_is (L ++ [v]) (va_up f v e1) a n p := h.kept (List.mem_append_left _ h.1) (va_up_ne _ _ (fun z => hv (by rw [← z]; exact h.1)))
theorem sd_is.el {L : List Nat} {f : Nat → va_E} {a : Nat} {d : sd_T} (h : sd_is L f a d) : gx_el L f a := by
  obtain ⟨u, v, n2, h1, h2, -⟩ := h
  exact ⟨h1, 7, 2, _, RX2, TX2, h2, rfl, List.mem_of_getElem? (i := 2) (by decide +kernel)⟩
theorem ft_is.grown {G : gx_T} {L : List Nat} {f : Nat → va_E} {q : Nat} {b : Option Nat} {xs : List Nat} (hl : ls_at G L f q b xs) {v : Nat} {L' : List Nat} {f' : Nat → va_E} {b' : Nat} (hg : cs_grown G L f q b xs v L' f' b') {a : Nat} {n : Int32} {p : ft_T} (h : ft_is L f a n p) : ft_is L' f' a n p := h.kept (hg.2.2.2.1 a h.1) (hg.2.2.2.2 a h.1 (hl.apart h.2 (by decide)).1 (hl.apart h.2 (by decide)).2)
theorem sd_is.grown {G : gx_T} {L : List Nat} {f : Nat → va_E} {q : Nat} {b : Option Nat} {xs : List Nat} (hl : ls_at G L f q b xs) {v : Nat} {L' : List Nat} {f' : Nat → va_E} {b' : Nat} (hg : cs_grown G L f q b xs v L' f' b') {a : Nat} {d : sd_T} (h : sd_is L f a d) : sd_is L' f' a d := by
  obtain ⟨u, w, n2, h1, h2, h3, h4⟩ := h
  exact ⟨u, w, n2, hg.2.2.2.1 a h1, by rw [hg.2.2.2.2 a h1 (hl.apart h2 (by decide)).1 (hl.apart h2 (by decide)).2]; exact h2, h3.grown hl hg, h4.grown hl hg⟩
/-- the list S, laid anew over an old world -/
def sl_at (G : gx_T) (L1 : List Nat) (f1 : Nat → va_E) (S : Nat) (bS b2 : Option Nat) (sb : List Nat) (L2 : List Nat) (f2 : Nat → va_E) : Prop := ls_at G L2 f2 S b2 sb ∧ (b2 = bS ∨ ∀ b9, b2 = some b9 → b9 ∉ L1) ∧ (∀ a ∈ L1, a ∈ L2) ∧ ∀ a ∈ L1, a ≠ S → some a ≠ bS → f2 a = f1 a
theorem sl_new {G : gx_T} {L1 : List Nat} {f1 : Nat → va_E} {S : Nat} {bS : Option Nat} {sb : List Nat} (h : ls_at G L1 f1 S bS sb) : sl_at G L1 f1 S bS bS sb L1 f1 := ⟨h, Or.inl rfl, fun _ h => h, fun _ _ _ _ => rfl⟩
theorem sl_at.add {G : gx_T} {L1 : List Nat} {f1 : Nat → va_E} {S : Nat} {bS b2 : Option Nat} {sb : List Nat} {L2 : List Nat} {f2 : Nat → va_E} (h : sl_at G L1 f1 S bS b2 sb L2 f2) {v : Nat} {L' : List Nat} {f' : Nat → va_E} {b' : Nat} (hg : cs_grown G L2 f2 S b2 sb v L' f' b') : sl_at G L1 f1 S bS (some b') (sb ++ [v]) L' f' := by
  obtain ⟨h1, h2, h3, h4⟩ := h
  obtain ⟨g1, -, g3, g4, g5⟩ := hg
  refine ⟨g1, ?_, fun a ha => g4 a (h3 a ha), fun a ha k1 k2 => ?_⟩
  · rcases g3 with g3 | g3
    · rcases h2 with h2 | h2
      · exact Or.inl (by rw [← g3]; exact h2)
      · exact Or.inr (fun b9 e9 => h2 b9 (by rw [g3]; exact e9))
    · exact Or.inr (fun b9 e9 z => g3 (by injection e9 with e9; rw [e9]; exact h3 _ z))
  · rw [g5 a (h3 a ha) k1 ?_]
    · exact h4 a ha k1 k2
    · rcases h2 with h2 | h2
      · rw [h2]; exact k2
      · exact fun z => h2 a z.symm ha
theorem sl_at.ls {G : gx_T} {L1 : List Nat} {f1 : Nat → va_E} {S : Nat} {bS b2 : Option Nat} {sb : List Nat} {L2 : List Nat} {f2 : Nat → va_E} (h : sl_at G L1 f1 S bS b2 sb L2 f2) {q : Nat} {b : Option Nat} {xs : List Nat} (hl : ls_at G L1 f1 q b xs) (hq : q ≠ S) (hqb : some q ≠ bS) (hb : ∀ b9, b = some b9 → b9 ≠ S ∧ some b9 ≠ bS) : ls_at G L2 f2 q b xs := hl.kept h.2.2.1 (h.2.2.2 q hl.1 hq hqb) (fun b9 h9 => h.2.2.2 b9 (hl.row b9 h9) (hb b9 h9).1 (hb b9 h9).2)
theorem sl_at.ft {G : gx_T} {L1 : List Nat} {f1 : Nat → va_E} {S : Nat} {bS b2 : Option Nat} {sb : List Nat} {L2 : List Nat} {f2 : Nat → va_E} (h : sl_at G L1 f1 S bS b2 sb L2 f2) {a : Nat} {n : Int32} {p : ft_T} (ha : ft_is L1 f1 a n p) (h1 : a ≠ S) (h2 : some a ≠ bS) : ft_is L2 f2 a n p := ha.kept (h.2.2.1 a ha.1) (h.2.2.2 a ha.1 h1 h2)
theorem sl_at.base {G : gx_T} {L1 : List Nat} {f1 : Nat → va_E} {S : Nat} {bS b2 : Option Nat} {sb : List Nat} {L2 : List Nat} {f2 : Nat → va_E} (h : sl_at G L1 f1 S bS b2 sb L2 f2) {L : List Nat} {f : Nat → va_E} (hL : ∀ a ∈ L, a ∈ L1) (hf : ∀ a ∈ L, a ≠ S → some a ≠ bS → f1 a = f a) : sl_at G L f S bS b2 sb L2 f2 := ⟨h.1, h.2.1.imp id (fun h9 b9 e9 z => h9 b9 e9 (hL _ z)), fun a ha => h.2.2.1 a (hL a ha), fun a ha k1 k2 => (h.2.2.2 a (hL a ha) k1 k2).trans (hf a ha k1 k2)⟩
def sd_of (fd : Nat → ft_T) (cs : List Nat) (k : Nat) : sd_T := (nI (cs.getD k 0), fd (cs.getD k 0), fd (cs.getD (if k + 1 < cs.length then k + 1 else 0) 0))
theorem ca_lt {fd : Nat → ft_T} {c n : Nat} (hc : c < n) : ∀ m, m ≤ n → ca_at fd c m < n := by
  intro m
  induction m with
  | zero => intro _; exact hc
  | succ m ih =>
    intro hm
    by_cases h9 : ft_see (fd c) (fd (ca_at fd c m)) (fd m)
    · rw [ca_new rfl h9]; omega
    · rw [ca_old rfl h9]; exact ih (by omega)
theorem ck_lt {nx : Nat → Nat} {c0 n : Nat} (hn : ∀ z, z < n → nx z < n) : ∀ m c, c < n → ∀ z ∈ ck_at nx c0 m c, z < n := by
  intro m
  induction m with
  | zero => intro c _ z hz; exact absurd hz List.not_mem_nil
  | succ m ih =>
    intro c hc z hz
    rcases List.mem_cons.mp hz with h | h
    · rw [h]; exact hc
    · by_cases h9 : nx c = c0
      · rw [if_pos h9] at h; exact absurd h List.not_mem_nil
      · rw [if_neg h9] at h; exact ih (nx c) (hn c hc) z h
theorem ck_len {nx : Nat → Nat} {c0 : Nat} : ∀ m c, (ck_at nx c0 m c).length ≤ m := by
  intro m
  induction m with
  | zero => intro c; exact Nat.le_refl _
  | succ m ih =>
    intro c
    show (if nx c = c0 then [] else ck_at nx c0 m (nx c)).length + 1 ≤ m + 1
    have := ih (nx c)
    split
    · exact Nat.succ_le_succ (Nat.zero_le _)
    · omega
theorem fa_get {fa cs : List Nat} {k : Nat} (hk : k < cs.length) (h : k < (fa_ls fa cs).length) : (fa_ls fa cs)[k] = fa.getD (cs.getD k 0) 0 := by
  rw [List.getElem_map, fa_at hk]
theorem fa_ft {L : List Nat} {f : Nat → va_E} {fa cs : List Nat} {fd : Nat → ft_T} (hfd : ∀ i (h : i < fa.length), ft_is L f fa[i] (nI i) (fd i)) (hcl : ∀ z ∈ cs, z < fa.length) {k : Nat} (hk : k < cs.length) : ft_is L f (fa.getD (cs.getD k 0) 0) (nI (cs.getD k 0)) (fd (cs.getD k 0)) := by
  have h9 : cs.getD k 0 < fa.length := by rw [fa_at hk]; exact hcl _ (List.getElem_mem _)
  rw [fa_at h9]
  exact hfd _ h9
theorem ls_snocP {P : Nat → Nat → Prop} {xs : List Nat} {v : Nat} (h : ∀ j (h : j < xs.length), P xs[j] j) (hv : P v xs.length) : ∀ j (h : j < (xs ++ [v]).length), P (xs ++ [v])[j] j := by
  intro j hj
  rcases Nat.lt_or_ge j xs.length with h9 | h9
  · rw [List.getElem_append_left h9]; exact h j h9
  · have e : j = xs.length := by rw [List.length_append] at hj; simp only [List.length_cons, List.length_nil] at hj; omega
    subst e
    rw [List.getElem_append_right (Nat.le_refl _)]
    simpa using hv
theorem kL_getF (l : Launch) (G : gx_T) (L : List Nat) (f : Nat → va_E) (q : Nat) (b : Option Nat) (fa cs : List Nat) (hls : ls_at G L f q b (fa_ls fa cs)) (k : Nat) (hk : k < cs.length) : gx_M l G yJx4a65c_get_915e3 cJx4a65c_get_915e3 2 (some (.object "java/lang/Object")) ({ frames := 2, cells := 0, slots := 0, locals := 43 } : Room) [.ref q, .int (nI k)] (va_pl L f) (fun v u => v = some (.ref (fa.getD (cs.getD k 0) 0)) ∧ u = va_pl L f) := by
  have h0 : k < (fa_ls fa cs).length := by rw [List.length_map]; exact hk
  have h9 := kL_get l G L f q b (fa_ls fa cs) hls k h0
  rw [fa_get hk h0] at h9
  exact h9
theorem kL_sizeF (l : Launch) (G : gx_T) (L : List Nat) (f : Nat → va_E) (q : Nat) (b : Option Nat) (fa cs : List Nat) (hls : ls_at G L f q b (fa_ls fa cs)) : gx_M l G yJx4a65c_size_8abf5 cJx4a65c_size_8abf5 1 (some .int) ({ frames := 0, cells := 0, slots := 0, locals := 0 } : Room) [.ref q] (va_pl L f) (fun v u => v = some (.int (nI cs.length)) ∧ u = va_pl L f) := by
  have h9 := kL_size l G L f q b (fa_ls fa cs) hls
  rw [List.length_map] at h9
  exact h9
/-- the corners of the feet -/
noncomputable def co_of (fd : Nat → ft_T) (n b0 : Nat) : List Nat := ck_at (fun z => ca_at fd z n) (fc_at fd b0 n) n (fc_at fd b0 n)
set_option maxHeartbeats 4000000 in
set_option maxRecDepth 100000 in
theorem kX5_layOutSides (l : Launch) (G : gx_T) (L : List Nat) (f : Nat → va_E) (x P F S X N T E : Nat) (dc : Int32) (hx : x ∈ L) (fx : f x = .inr (10, [.ref P, .ref F, .ref S, .ref X, .ref N, .ref T, .ref E, .int dc])) (bF : Option Nat) (fa : List Nat) (fd : Nat → ft_T) (hlF : ls_at G L f F bF fa) (hfd : ∀ i (h : i < fa.length), ft_is L f fa[i] (nI i) (fd i)) (hF12 : fa.length ≤ 12) (bS : Option Nat) (sa : List Nat) (hlS : ls_at G L f S bS sa) (hFS : F ≠ S) (hFb : ∀ b9, bF = some b9 → ¬ bS = some b9) (b0 : Nat) (hb0 : b0 < fa.length) : gx_M l G yX5_layOutSides cX5_layOutSides 6 none ({ frames := 8, cells := 37, slots := 612, locals := 231 } : Room) [.ref x, .ref (fa[b0])] (va_pl L f) (fun v u => v = none ∧ ∃ (L2 : List Nat) (f2 : Nat → va_E) (b2 : Option Nat) (sb : List Nat), u = va_pl L2 f2 ∧ sl_at G L f S bS b2 sb L2 f2 ∧ sb.length = (if (ck_at (fun z => ca_at fd z fa.length) (fc_at fd b0 fa.length) fa.length (fc_at fd b0 fa.length)).length < 3 then 0 else (ck_at (fun z => ca_at fd z fa.length) (fc_at fd b0 fa.length) fa.length (fc_at fd b0 fa.length)).length) ∧ ∀ j (h : j < sb.length), sd_is L2 f2 sb[j] (sd_of fd (ck_at (fun z => ca_at fd z fa.length) (fc_at fd b0 fa.length) fa.length (fc_at fd b0 fa.length)) j)) := by
  refine gx_start (by decide +kernel) (Nat.le_of_ble_eq_true rfl) ?_
  intro p e s m args below meth c A ls C hr hnm hW hl
  have gX := C.x
  have gB := C.b
  have hl : lv_has ls 6 [(0, .ref x), (1, .ref (fa[b0]))] := hl
  refine lv_aload_n gX gB dX5_layOutSides_0 rfl (lv_at hl 0 rfl) ?_
  refine gx_get C hW fX5_19 (gx_pl hx fx) rfl dX5_layOutSides_1 ?_
  refine gx_callV (wr := []) (rest := []) C hW sX5_263 (kL_clear l G L f S bS sa hlS) (gx_pl hlS.1 (ls_at.head hlS).choose_spec.choose_spec) rfl rfl ⟨(Nat.le_of_ble_eq_true rfl), (Nat.le_of_ble_eq_true rfl)⟩ hl.1 rfl (Nat.le_of_ble_eq_true rfl) dX5_layOutSides_4 ⟨(Nat.le_of_ble_eq_true rfl), (Nat.le_of_ble_eq_true rfl)⟩ (fun v9 u9 H locs hp hW => ?_)
  obtain ⟨rfl, fc, hu, hS1, hk1⟩ := hp
  rw [hu] at hW
  have hW : gx_W G A s (va_pl L fc) H locs := hW
  refine W.eq (g2 := F0 m 7 ls []) rfl ?_
  refine W.widen (k := 0) (n := 0) (Nat.le_of_ble_eq_true rfl) (Nat.le_of_ble_eq_true rfl) ?_
  have hxS := hlS.apart fx (by decide)
  have fx1 : fc x = .inr (10, [.ref P, .ref F, .ref S, .ref X, .ref N, .ref T, .ref E, .int dc]) := (hk1 x hxS.1 hxS.2).trans fx
  have hFo : some F ≠ bS := by obtain ⟨mc, r9, h9⟩ := hlF.head; exact hlS.obj h9
  have hSo : some S ≠ bF := by obtain ⟨mc, r9, h9⟩ := hlS.head; exact hlF.obj h9
  have hFr : ∀ b9, bF = some b9 → b9 ≠ S ∧ some b9 ≠ bS := fun b9 h9 => ⟨fun z => hSo (by rw [h9, z]), fun z => hFb b9 h9 z.symm⟩
  have hlF1 : ls_at G L fc F bF fa := hlF.kept (fun _ h => h) (hk1 F hFS hFo) (fun b9 h9 => hk1 b9 (hFr b9 h9).1 (hFr b9 h9).2)
  have hfS : ∀ i (h : i < fa.length), fa[i] ≠ S ∧ some fa[i] ≠ bS := fun i h => hlS.apart (hfd i h).2 (by decide)
  have hfd1 : ∀ i (h : i < fa.length), ft_is L fc fa[i] (nI i) (fd i) := fun i h => (hfd i h).kept (hfd i h).1 (hk1 _ (hfS i h).1 (hfS i h).2)
  have hW : gx_W G A s (va_pl L fc) H locs := hW
  refine lv_aload_n gX gB dX5_layOutSides_7 rfl (lv_at hl 0 rfl) ?_
  refine lv_aload_n gX gB dX5_layOutSides_8 rfl (lv_at hl 0 rfl) ?_
  refine lv_aload_n gX gB dX5_layOutSides_9 rfl (lv_at hl 1 rfl) ?_
  refine gx_callV (wr := []) (rest := [.ref x]) C hW sX5_266 (kX5_firstCorner l G L fc x P F S X N T E dc hx fx1 bF fa fd hlF1 hfd1 b0 hb0) (gx_pl hx fx1) rfl rfl ⟨(Nat.le_of_ble_eq_true rfl), (Nat.le_of_ble_eq_true rfl)⟩ hl.1 rfl (Nat.le_of_ble_eq_true rfl) dX5_layOutSides_10 ⟨(Nat.le_of_ble_eq_true rfl), (Nat.le_of_ble_eq_true rfl)⟩ (fun v9 u9 H locs hp hW => ?_)
  obtain ⟨⟨c0, hc0, hc0q, rfl⟩, hu⟩ := hp
  rw [hu] at hW
  have hW : gx_W G A s (va_pl L fc) H locs := hW
  refine W.eq (g2 := F0 m 13 ls [.ref (fa[c0]), .ref x]) rfl ?_
  refine W.widen (k := 0) (n := 0) (Nat.le_of_ble_eq_true rfl) (Nat.le_of_ble_eq_true rfl) ?_
  refine gx_callV (wr := []) (rest := []) C hW sX5_270 (kX5_cornersAgainstClock l G L fc x P F S X N T E dc hx fx1 bF fa fd hlF1 hfd1 hF12 c0 hc0) (gx_pl hx fx1) rfl rfl ⟨(Nat.le_of_ble_eq_true rfl), (Nat.le_of_ble_eq_true rfl)⟩ hl.1 rfl (Nat.le_of_ble_eq_true rfl) dX5_layOutSides_13 ⟨(Nat.le_of_ble_eq_true rfl), (Nat.le_of_ble_eq_true rfl)⟩ (fun v9 u9 H locs hp hW => ?_)
  obtain ⟨L1, f1, b1, q, rfl, hu, hst⟩ := hp
  rw [hu] at hW
  have hW : gx_W G A s (va_pl L1 f1) H locs := hW
  refine W.eq (g2 := F0 m 16 ls [.ref q]) rfl ?_
  refine W.widen (k := 13) (n := 300) (Nat.le_of_ble_eq_true rfl) (Nat.le_of_ble_eq_true rfl) ?_
  rw [hc0q] at hst
  obtain ⟨cs, hcs⟩ : ∃ zz, zz = ck_at (fun z => ca_at fd z fa.length) (fc_at fd b0 fa.length) fa.length (fc_at fd b0 fa.length) := ⟨_, rfl⟩
  rw [← hcs] at hst
  have hcl : ∀ z ∈ cs, z < fa.length := by
    rw [hcs]
    exact ck_lt (fun z hz => ca_lt hz _ (Nat.le_refl _)) _ _ (by rw [← hc0q]; exact hc0)
  have hcn : cs.length ≤ fa.length := by rw [hcs]; exact ck_len _ _
  have hlS1 : ls_at G L1 f1 S bS [] := hst.ls hS1
  have hqS : q ≠ S := fun z => hst.1 (by rw [z]; exact hlS.1)
  have hqb : some q ≠ bS := fun z => hst.1 (hlS.row q z.symm)
  have hqr : ∀ b9, b1 = some b9 → b9 ≠ S ∧ some b9 ≠ bS := fun b9 h9 => ⟨fun z => hst.2.1 b9 h9 (by rw [z]; exact hlS.1), fun z => hst.2.1 b9 h9 (hlS.row b9 z.symm)⟩
  have fx2 : f1 x = .inr (10, [.ref P, .ref F, .ref S, .ref X, .ref N, .ref T, .ref E, .int dc]) := (hst.2.2.2.2 x hx).trans fx1
  have hbs : ∀ a ∈ L, a ≠ S → some a ≠ bS → f1 a = f a := fun a ha k1 k2 => (hst.2.2.2.2 a ha).trans (hk1 a k1 k2)
  have hW : gx_W G A s (va_pl L1 f1) H locs := hW
  refine lv_astore_n (lv' := [(2, .ref q), (0, .ref x), (1, .ref (fa[b0]))]) gX gB dX5_layOutSides_16 rfl hl (by decide) rfl (fun ls hl => ?_)
  refine lv_aload_n gX gB dX5_layOutSides_17 rfl (lv_at hl 0 rfl) ?_
  refine gx_callV (wr := []) (rest := []) C hW sX5_48 (kL_sizeF l G L1 f1 q b1 fa cs hst.2.2.1) (gx_pl hst.2.2.1.1 (ls_at.head hst.2.2.1).choose_spec.choose_spec) rfl rfl ⟨(Nat.le_of_ble_eq_true rfl), (Nat.le_of_ble_eq_true rfl)⟩ hl.1 rfl (Nat.le_of_ble_eq_true rfl) dX5_layOutSides_18 ⟨(Nat.le_of_ble_eq_true rfl), (Nat.le_of_ble_eq_true rfl)⟩ (fun v9 u9 H locs hp hW => ?_)
  obtain ⟨rfl, hu⟩ := hp
  rw [hu] at hW
  have hW : gx_W G A s (va_pl L1 f1) H locs := hW
  refine W.eq (g2 := F0 m 21 ls [.int (nI cs.length)]) rfl ?_
  refine W.widen (k := 13) (n := 300) (Nat.le_of_ble_eq_true rfl) (Nat.le_of_ble_eq_true rfl) ?_
  refine lv_istore_n (lv' := [(3, .int (nI cs.length)), (2, .ref q), (0, .ref x), (1, .ref (fa[b0]))]) gX gB dX5_layOutSides_21 rfl hl (by decide) rfl (fun ls hl => ?_)
  refine lv_iload_n gX gB dX5_layOutSides_22 rfl (lv_at hl 0 rfl) ?_
  refine lv_iconst (v := 3) gX gB dX5_layOutSides_23 (by decide) ?_
  refine lv_icmp_ge (tgt := 28) gX gB dX5_layOutSides_24 (by decide) (fun c24 => ?_) (fun c24 => ?_)
  · refine lv_iconst (v := 0) gX gB dX5_layOutSides_28 (by decide) ?_
    refine lv_istore (lv' := [(4, .int 0), (3, .int (nI cs.length)), (2, .ref q), (0, .ref x), (1, .ref (fa[b0]))]) gX gB dX5_layOutSides_29 hl (by decide) rfl (fun ls hl => ?_)
    have hc3 : ¬ cs.length < 3 := fun zz => (Int32.not_lt.mpr c24) ((nI_ltI (b := 3) (by omega) (by decide)).mpr zz)
    have hl : lv_has ls 6 [(4, .int (nI 0)), (3, .int (nI cs.length)), (2, .ref q), (0, .ref x), (1, .ref (fa[b0]))] := hl
    have loop : ∀ (r : Nat) (k : Nat) (L2 : List Nat) (f2 : Nat → va_E) (b2 : Option Nat) (sb : List Nat), (cs.length - k < r) → (k ≤ cs.length) → (sl_at G L1 f1 S bS b2 sb L2 f2) → (sb.length = k) → (∀ j (h : j < sb.length), sd_is L2 f2 sb[j] (sd_of fd cs j)) → ∀ (H : Heap) (locs : List Loc), gx_W G A s (va_pl L2 f2) H locs → ∀ ls : Array Slot, lv_has ls 6 [(4, .int (nI k)), (3, .int (nI cs.length)), (2, .ref q), (0, .ref x), (1, .ref (fa[b0]))] → W p l e ({ frames := 8, cells := 37, slots := 612, locals := 231 } : Room) s m args below meth c H locs (13 + 2 * k) (300 + 26 * k) (MQ below (gx_Q G A (fun v u => v = none ∧ ∃ (L2 : List Nat) (f2 : Nat → va_E) (b2 : Option Nat) (sb : List Nat), u = va_pl L2 f2 ∧ sl_at G L f S bS b2 sb L2 f2 ∧ sb.length = (if (ck_at (fun z => ca_at fd z fa.length) (fc_at fd b0 fa.length) fa.length (fc_at fd b0 fa.length)).length < 3 then 0 else (ck_at (fun z => ca_at fd z fa.length) (fc_at fd b0 fa.length) fa.length (fc_at fd b0 fa.length)).length) ∧ ∀ j (h : j < sb.length), sd_is L2 f2 sb[j] (sd_of fd (ck_at (fun z => ca_at fd z fa.length) (fc_at fd b0 fa.length) fa.length (fc_at fd b0 fa.length)) j))) args s (({ frames := 8, cells := 37, slots := 612, locals := 231 } : Room)).cells (({ frames := 8, cells := 37, slots := 612, locals := 231 } : Room)).slots A) (F0 m 31 ls []) := by
      intro r
      induction r with
      | zero => intro k L2 f2 b2 sb hfu hi hsl hsbn hsd H locs hW ls hl; exact absurd hfu (Nat.not_lt_zero _)
      | succ r ih =>
        intro k L2 f2 b2 sb hfu hi hsl hsbn hsd H locs hW ls hl
        have hq2 : ls_at G L2 f2 q b1 (fa_ls fa cs) := hsl.ls hst.2.2.1 hqS hqb hqr
        have hfd2 : ∀ i (h : i < fa.length), ft_is L2 f2 fa[i] (nI i) (fd i) := fun i h => hsl.ft (hst.ft (hfd1 i h)) (hfS i h).1 (hfS i h).2
        rcases Nat.lt_or_ge k cs.length with hik | hik
        · refine lv_iload gX gB dX5_layOutSides_31 (lv_at hl 0 rfl) ?_
          refine lv_iload_n gX gB dX5_layOutSides_33 rfl (lv_at hl 1 rfl) ?_
          refine lv_icmp_ge (tgt := 94) gX gB dX5_layOutSides_34 (by decide) (fun h9 => absurd (show (nI cs.length) ≤ (nI k) from h9) (nI_ge hik (by omega))) (fun _ => ?_)
          refine lv_iload gX gB dX5_layOutSides_37 (lv_at hl 0 rfl) ?_
          refine lv_iconst (v := 1) gX gB dX5_layOutSides_39 (by decide) ?_
          refine lv_iadd gX gB dX5_layOutSides_40 ?_
          refine gx_topi (show ((nI k) + 1) = nI (k + 1) from nI_1 k) ?_
          refine lv_iload_n gX gB dX5_layOutSides_41 rfl (lv_at hl 1 rfl) ?_
          refine lv_icmp_ge (tgt := 52) gX gB dX5_layOutSides_42 (by decide) (fun c42 => ?_) (fun c42 => ?_)
          · refine lv_iconst (v := 0) gX gB dX5_layOutSides_52 (by decide) ?_
            refine lv_istore (lv' := [(5, .int 0), (4, .int (nI k)), (3, .int (nI cs.length)), (2, .ref q), (0, .ref x), (1, .ref (fa[b0]))]) gX gB dX5_layOutSides_53 hl (by decide) rfl (fun ls hl => ?_)
            have hl : lv_has ls 6 [(5, .int (nI 0)), (4, .int (nI k)), (3, .int (nI cs.length)), (2, .ref q), (0, .ref x), (1, .ref (fa[b0]))] := hl
            have hJ : 0 < cs.length := by omega
            have hJe : (if k + 1 < cs.length then k + 1 else 0) = 0 := if_neg (fun zz => (Int32.not_lt.mpr c42) ((nI_ltI (by omega) (by omega)).mpr zz))
            refine lv_aload_n gX gB dX5_layOutSides_55 rfl (lv_at hl 4 rfl) ?_
            refine gx_get C hW fX5_19 (gx_pl (hsl.2.2.1 x (hst.2.2.2.1 x hx)) ((hsl.2.2.2 x (hst.2.2.2.1 x hx) hxS.1 hxS.2).trans fx2)) rfl dX5_layOutSides_56 ?_
            refine gx_new (ci := 7) C hW clX2 inX2 rfl (tq_4 62 (by decide +kernel) rfl) (tq_4 63 (by decide +kernel) rfl) (tq_1 23 (by decide +kernel) rfl) dfX2 (by first | exact Nat.le_of_ble_eq_true rfl | (dsimp only; omega) | omega) (by first | exact Nat.le_of_ble_eq_true rfl | (dsimp only; omega) | omega) dX5_layOutSides_59 (fun w1 H hw1 hW => ?_)
            refine W.widen (k := 13 + 2 * k + 1) (n := 300 + 26 * k + 2) (by first | exact Nat.le_of_ble_eq_true rfl | (dsimp only; omega) | omega) (by first | exact Nat.le_of_ble_eq_true rfl | (dsimp only; omega) | omega) ?_
            obtain ⟨f11, hf11⟩ : ∃ zz, zz = va_up f2 w1 (.inr (7, [.null, .null])) := ⟨_, rfl⟩
            have hW := hW
            rw [← hf11] at hW
            have m11_x : x ∈ L2 ++ [w1] := List.mem_append_left _ ((hsl.2.2.1 x (hst.2.2.2.1 x hx)))
            have f11_x : f11 x = .inr (10, [.ref P, .ref F, .ref S, .ref X, .ref N, .ref T, .ref E, .int dc]) := by rw [hf11, va_up_ne _ _ (fun zz => hw1 (by rw [← zz]; exact (hsl.2.2.1 x (hst.2.2.2.1 x hx))))]; exact ((hsl.2.2.2 x (hst.2.2.2.1 x hx) hxS.1 hxS.2).trans fx2)
            have m11_w1 : w1 ∈ L2 ++ [w1] := List.mem_append_right _ List.mem_cons_self
            have f11_w1 : f11 w1 = .inr (7, [.null, .null]) := by rw [hf11]; exact va_up_self _ _ _
            refine lv_dup gX gB dX5_layOutSides_62 rfl ?_
            refine lv_aload_n gX gB dX5_layOutSides_63 rfl (lv_at hl 3 rfl) ?_
            refine lv_iload gX gB dX5_layOutSides_64 (lv_at hl 1 rfl) ?_
            have hq3 : ls_at G (L2 ++ [w1]) f11 q b1 (fa_ls fa cs) := by rw [hf11]; exact hq2.newo hw1
            have hfd3 : ∀ i (h : i < fa.length), ft_is (L2 ++ [w1]) f11 fa[i] (nI i) (fd i) := fun i h => by rw [hf11]; exact (hfd2 i h).newo hw1
            refine gx_callV (wr := []) (rest := [.ref w1, .ref w1, .ref S]) C hW sX5_95 (kL_getF l G (L2 ++ [w1]) f11 q b1 fa cs hq3 k hik) (gx_pl hq3.1 (ls_at.head hq3).choose_spec.choose_spec) rfl rfl ⟨(by first | exact Nat.le_of_ble_eq_true rfl | (dsimp only; omega) | omega), (by first | exact Nat.le_of_ble_eq_true rfl | (dsimp only; omega) | omega)⟩ hl.1 rfl (Nat.le_of_ble_eq_true rfl) dX5_layOutSides_66 ⟨(by first | exact Nat.le_of_ble_eq_true rfl | (dsimp only; omega) | omega), (by first | exact Nat.le_of_ble_eq_true rfl | (dsimp only; omega) | omega)⟩ (fun v9 u9 H locs hp hW => ?_)
            obtain ⟨rfl, hu⟩ := hp
            rw [hu] at hW
            have hW : gx_W G A s (va_pl (L2 ++ [w1]) f11) H locs := hW
            refine W.eq (g2 := F0 m 69 ls [.ref (fa.getD (cs.getD k 0) 0), .ref w1, .ref w1, .ref S]) rfl ?_
            refine W.widen (k := 13 + 2 * k + 1 + 0) (n := 300 + 26 * k + 2 + 0) (by first | exact Nat.le_of_ble_eq_true rfl | (dsimp only; omega) | omega) (by first | exact Nat.le_of_ble_eq_true rfl | (dsimp only; omega) | omega) ?_
            refine gx_cast C hW (gx_pl ((fa_ft hfd3 hcl hik).1) ((fa_ft hfd3 hcl hik).2)) rfl (tq_3 231 (by decide +kernel) rfl) dX5_layOutSides_69 ?_
            refine lv_aload_n gX gB dX5_layOutSides_72 rfl (lv_at hl 3 rfl) ?_
            refine lv_iload gX gB dX5_layOutSides_73 (lv_at hl 0 rfl) ?_
            refine gx_callV (wr := []) (rest := [.ref (fa.getD (cs.getD k 0) 0), .ref w1, .ref w1, .ref S]) C hW sX5_95 (kL_getF l G (L2 ++ [w1]) f11 q b1 fa cs hq3 0 hJ) (gx_pl hq3.1 (ls_at.head hq3).choose_spec.choose_spec) rfl rfl ⟨(by first | exact Nat.le_of_ble_eq_true rfl | (dsimp only; omega) | omega), (by first | exact Nat.le_of_ble_eq_true rfl | (dsimp only; omega) | omega)⟩ hl.1 rfl (Nat.le_of_ble_eq_true rfl) dX5_layOutSides_75 ⟨(by first | exact Nat.le_of_ble_eq_true rfl | (dsimp only; omega) | omega), (by first | exact Nat.le_of_ble_eq_true rfl | (dsimp only; omega) | omega)⟩ (fun v9 u9 H locs hp hW => ?_)
            obtain ⟨rfl, hu⟩ := hp
            rw [hu] at hW
            have hW : gx_W G A s (va_pl (L2 ++ [w1]) f11) H locs := hW
            refine W.eq (g2 := F0 m 78 ls [.ref (fa.getD (cs.getD 0 0) 0), .ref (fa.getD (cs.getD k 0) 0), .ref w1, .ref w1, .ref S]) rfl ?_
            refine W.widen (k := 13 + 2 * k + 1 + 0 + 0) (n := 300 + 26 * k + 2 + 0 + 0) (by first | exact Nat.le_of_ble_eq_true rfl | (dsimp only; omega) | omega) (by first | exact Nat.le_of_ble_eq_true rfl | (dsimp only; omega) | omega) ?_
            refine gx_cast C hW (gx_pl ((fa_ft hfd3 hcl hJ).1) ((fa_ft hfd3 hcl hJ).2)) rfl (tq_3 231 (by decide +kernel) rfl) dX5_layOutSides_78 ?_
            refine gx_callIN (wr := []) (rest := [.ref w1, .ref S]) C hW sX5_274n (kX2_init l G (L2 ++ [w1]) f11 w1 (fa.getD (cs.getD k 0) 0) (fa.getD (cs.getD 0 0) 0) m11_w1 f11_w1) rfl ⟨(by first | exact Nat.le_of_ble_eq_true rfl | (dsimp only; omega) | omega), (by first | exact Nat.le_of_ble_eq_true rfl | (dsimp only; omega) | omega)⟩ hl.1 rfl (Nat.le_of_ble_eq_true rfl) dX5_layOutSides_81 ⟨(by first | exact Nat.le_of_ble_eq_true rfl | (dsimp only; omega) | omega), (by first | exact Nat.le_of_ble_eq_true rfl | (dsimp only; omega) | omega)⟩ (fun v9 u9 H locs hp hW => ?_)
            obtain ⟨rfl, hu⟩ := hp
            rw [hu] at hW
            have hW : gx_W G A s (va_pl (L2 ++ [w1]) (va_up f11 w1 (.inr (7, [.ref (fa.getD (cs.getD k 0) 0), .ref (fa.getD (cs.getD 0 0) 0)])))) H locs := hW
            refine W.eq (g2 := F0 m 84 ls [.ref w1, .ref S]) rfl ?_
            refine W.widen (k := 13 + 2 * k + 1 + 0 + 0 + 0) (n := 300 + 26 * k + 2 + 0 + 0 + 0) (by first | exact Nat.le_of_ble_eq_true rfl | (dsimp only; omega) | omega) (by first | exact Nat.le_of_ble_eq_true rfl | (dsimp only; omega) | omega) ?_
            rw [hf11, bx_uu] at hW
            have hW : gx_W G A s (va_pl (L2 ++ [w1]) (va_up f2 w1 (.inr (7, [.ref (fa.getD (cs.getD k 0) 0), .ref (fa.getD (cs.getD 0 0) 0)])))) H locs := hW
            have hvS : w1 ≠ S := fun zz => hw1 (by rw [zz]; exact hsl.1.1)
            have hvb : some w1 ≠ b2 := fun zz => hw1 (hsl.1.row w1 zz.symm)
            have hel9 : ∀ y ∈ sb, gx_el (L2 ++ [w1]) (va_up f2 w1 (.inr (7, [.ref (fa.getD (cs.getD k 0) 0), .ref (fa.getD (cs.getD 0 0) 0)]))) y ∧ y ≠ S := fun y hy => by
              obtain ⟨i, hi, rfl⟩ := List.mem_iff_getElem.mp hy
              obtain ⟨u9, v9, n9, h91, h92, -⟩ := hsd i hi
              exact ⟨(hsd i hi).el.push hw1, (hsl.1.apart h92 (by decide)).1⟩
            have hS3 : ls_at G (L2 ++ [w1]) (va_up f2 w1 (.inr (7, [.ref (fa.getD (cs.getD k 0) 0), .ref (fa.getD (cs.getD 0 0) 0)]))) S b2 sb := hsl.1.newo hw1
            refine gx_callV (wr := []) (rest := []) C hW sX5_66 (kL_add l G (L2 ++ [w1]) (va_up f2 w1 (.inr (7, [.ref (fa.getD (cs.getD k 0) 0), .ref (fa.getD (cs.getD 0 0) 0)]))) S b2 sb hS3 w1 (gx_snoc_el 7 2 _ RX2 TX2 rfl rfl (List.mem_of_getElem? (i := 2) (by decide +kernel))) hvS hel9 (by omega)) (gx_pl hS3.1 (ls_at.head hS3).choose_spec.choose_spec) rfl rfl ⟨(by first | exact Nat.le_of_ble_eq_true rfl | (dsimp only; omega) | omega), (by first | exact Nat.le_of_ble_eq_true rfl | (dsimp only; omega) | omega)⟩ hl.1 rfl (Nat.le_of_ble_eq_true rfl) dX5_layOutSides_84 ⟨(by first | exact Nat.le_of_ble_eq_true rfl | (dsimp only; omega) | omega), (by first | exact Nat.le_of_ble_eq_true rfl | (dsimp only; omega) | omega)⟩ (fun v9 u9 H locs hp hW => ?_)
            obtain ⟨rfl, hadd⟩ := hp
            have hW : gx_W G A s (u9) H locs := hW
            refine W.eq (g2 := F0 m 87 ls [.int 1]) rfl ?_
            refine W.widen (k := 13 + 2 * k + 1 + 0 + 0 + 0 + 1) (n := 300 + 26 * k + 2 + 0 + 0 + 0 + 24) (by first | exact Nat.le_of_ble_eq_true rfl | (dsimp only; omega) | omega) (by first | exact Nat.le_of_ble_eq_true rfl | (dsimp only; omega) | omega) ?_
            obtain ⟨L3, f3, b3, hu, hgr, hvL, hfv⟩ := ls_added.grown hw1 hadd hvS hvb
            rw [hu] at hW
            have hsl3 := hsl.add hgr
            have hsk : sd_is L3 f3 w1 (sd_of fd cs k) := by
              rw [show sd_of fd cs k = (nI (cs.getD k 0), fd (cs.getD k 0), fd (cs.getD 0 0)) by unfold sd_of; rw [hJe]]
              exact ⟨_, _, _, hvL, hfv, (fa_ft hfd2 hcl hik).grown hsl.1 hgr, (fa_ft hfd2 hcl hJ).grown hsl.1 hgr⟩
            have hsd3 : ∀ j (h : j < (sb ++ [w1]).length), sd_is L3 f3 (sb ++ [w1])[j] (sd_of fd cs j) := ls_snocP (P := fun a j => sd_is L3 f3 a (sd_of fd cs j)) (fun j h => (hsd j h).grown hsl.1 hgr) (by rw [hsbn]; exact hsk)
            have hW : gx_W G A s (va_pl L3 f3) H locs := hW
            refine lv_pop gX gB dX5_layOutSides_87 rfl ?_
            refine lv_iinc (v := nI (k + 1)) (lv' := [(4, .int (nI (k + 1))), (5, .int (nI 0)), (3, .int (nI cs.length)), (2, .ref q), (0, .ref x), (1, .ref (fa[b0]))]) gX gB dX5_layOutSides_88 hl (k := 1) rfl (by exact nI_1 k) (by decide) rfl (fun ls hl => ?_)
            refine lv_goto (tgt := 31) gX gB dX5_layOutSides_91 (by decide) ?_
            refine W.widen (k := 13 + 2 * (k + 1)) (n := 300 + 26 * (k + 1)) (by omega) (by omega) ?_
            exact ih (k + 1) L3 f3 (some b3) (sb ++ [w1]) (by omega) (by omega) hsl3 (by rw [List.length_append, hsbn]; rfl) hsd3 _ _ hW ls (lv_sub hl [0, 2, 3, 4, 5] rfl)
          · refine lv_iload gX gB dX5_layOutSides_45 (lv_at hl 0 rfl) ?_
            refine lv_iconst (v := 1) gX gB dX5_layOutSides_47 (by decide) ?_
            refine lv_iadd gX gB dX5_layOutSides_48 ?_
            refine gx_topi (show ((nI k) + 1) = nI (k + 1) from nI_1 k) ?_
            refine lv_goto (tgt := 53) gX gB dX5_layOutSides_49 (by decide) ?_
            refine lv_istore (lv' := [(5, .int (nI (k + 1))), (4, .int (nI k)), (3, .int (nI cs.length)), (2, .ref q), (0, .ref x), (1, .ref (fa[b0]))]) gX gB dX5_layOutSides_53 hl (by decide) rfl (fun ls hl => ?_)
            have hJ : k + 1 < cs.length := (nI_ltI (by omega) (by omega)).mp (Int32.not_le.mp c42)
            have hJe : (if k + 1 < cs.length then k + 1 else 0) = k + 1 := if_pos hJ
            refine lv_aload_n gX gB dX5_layOutSides_55 rfl (lv_at hl 4 rfl) ?_
            refine gx_get C hW fX5_19 (gx_pl (hsl.2.2.1 x (hst.2.2.2.1 x hx)) ((hsl.2.2.2 x (hst.2.2.2.1 x hx) hxS.1 hxS.2).trans fx2)) rfl dX5_layOutSides_56 ?_
            refine gx_new (ci := 7) C hW clX2 inX2 rfl (tq_4 62 (by decide +kernel) rfl) (tq_4 63 (by decide +kernel) rfl) (tq_1 23 (by decide +kernel) rfl) dfX2 (by first | exact Nat.le_of_ble_eq_true rfl | (dsimp only; omega) | omega) (by first | exact Nat.le_of_ble_eq_true rfl | (dsimp only; omega) | omega) dX5_layOutSides_59 (fun w1 H hw1 hW => ?_)
            refine W.widen (k := 13 + 2 * k + 1) (n := 300 + 26 * k + 2) (by first | exact Nat.le_of_ble_eq_true rfl | (dsimp only; omega) | omega) (by first | exact Nat.le_of_ble_eq_true rfl | (dsimp only; omega) | omega) ?_
            obtain ⟨f12, hf12⟩ : ∃ zz, zz = va_up f2 w1 (.inr (7, [.null, .null])) := ⟨_, rfl⟩
            have hW := hW
            rw [← hf12] at hW
            have m12_x : x ∈ L2 ++ [w1] := List.mem_append_left _ ((hsl.2.2.1 x (hst.2.2.2.1 x hx)))
            have f12_x : f12 x = .inr (10, [.ref P, .ref F, .ref S, .ref X, .ref N, .ref T, .ref E, .int dc]) := by rw [hf12, va_up_ne _ _ (fun zz => hw1 (by rw [← zz]; exact (hsl.2.2.1 x (hst.2.2.2.1 x hx))))]; exact ((hsl.2.2.2 x (hst.2.2.2.1 x hx) hxS.1 hxS.2).trans fx2)
            have m12_w1 : w1 ∈ L2 ++ [w1] := List.mem_append_right _ List.mem_cons_self
            have f12_w1 : f12 w1 = .inr (7, [.null, .null]) := by rw [hf12]; exact va_up_self _ _ _
            refine lv_dup gX gB dX5_layOutSides_62 rfl ?_
            refine lv_aload_n gX gB dX5_layOutSides_63 rfl (lv_at hl 3 rfl) ?_
            refine lv_iload gX gB dX5_layOutSides_64 (lv_at hl 1 rfl) ?_
            have hq3 : ls_at G (L2 ++ [w1]) f12 q b1 (fa_ls fa cs) := by rw [hf12]; exact hq2.newo hw1
            have hfd3 : ∀ i (h : i < fa.length), ft_is (L2 ++ [w1]) f12 fa[i] (nI i) (fd i) := fun i h => by rw [hf12]; exact (hfd2 i h).newo hw1
            refine gx_callV (wr := []) (rest := [.ref w1, .ref w1, .ref S]) C hW sX5_95 (kL_getF l G (L2 ++ [w1]) f12 q b1 fa cs hq3 k hik) (gx_pl hq3.1 (ls_at.head hq3).choose_spec.choose_spec) rfl rfl ⟨(by first | exact Nat.le_of_ble_eq_true rfl | (dsimp only; omega) | omega), (by first | exact Nat.le_of_ble_eq_true rfl | (dsimp only; omega) | omega)⟩ hl.1 rfl (Nat.le_of_ble_eq_true rfl) dX5_layOutSides_66 ⟨(by first | exact Nat.le_of_ble_eq_true rfl | (dsimp only; omega) | omega), (by first | exact Nat.le_of_ble_eq_true rfl | (dsimp only; omega) | omega)⟩ (fun v9 u9 H locs hp hW => ?_)
            obtain ⟨rfl, hu⟩ := hp
            rw [hu] at hW
            have hW : gx_W G A s (va_pl (L2 ++ [w1]) f12) H locs := hW
            refine W.eq (g2 := F0 m 69 ls [.ref (fa.getD (cs.getD k 0) 0), .ref w1, .ref w1, .ref S]) rfl ?_
            refine W.widen (k := 13 + 2 * k + 1 + 0) (n := 300 + 26 * k + 2 + 0) (by first | exact Nat.le_of_ble_eq_true rfl | (dsimp only; omega) | omega) (by first | exact Nat.le_of_ble_eq_true rfl | (dsimp only; omega) | omega) ?_
            refine gx_cast C hW (gx_pl ((fa_ft hfd3 hcl hik).1) ((fa_ft hfd3 hcl hik).2)) rfl (tq_3 231 (by decide +kernel) rfl) dX5_layOutSides_69 ?_
            refine lv_aload_n gX gB dX5_layOutSides_72 rfl (lv_at hl 3 rfl) ?_
            refine lv_iload gX gB dX5_layOutSides_73 (lv_at hl 0 rfl) ?_
            refine gx_callV (wr := []) (rest := [.ref (fa.getD (cs.getD k 0) 0), .ref w1, .ref w1, .ref S]) C hW sX5_95 (kL_getF l G (L2 ++ [w1]) f12 q b1 fa cs hq3 (k + 1) hJ) (gx_pl hq3.1 (ls_at.head hq3).choose_spec.choose_spec) rfl rfl ⟨(by first | exact Nat.le_of_ble_eq_true rfl | (dsimp only; omega) | omega), (by first | exact Nat.le_of_ble_eq_true rfl | (dsimp only; omega) | omega)⟩ hl.1 rfl (Nat.le_of_ble_eq_true rfl) dX5_layOutSides_75 ⟨(by first | exact Nat.le_of_ble_eq_true rfl | (dsimp only; omega) | omega), (by first | exact Nat.le_of_ble_eq_true rfl | (dsimp only; omega) | omega)⟩ (fun v9 u9 H locs hp hW => ?_)
            obtain ⟨rfl, hu⟩ := hp
            rw [hu] at hW
            have hW : gx_W G A s (va_pl (L2 ++ [w1]) f12) H locs := hW
            refine W.eq (g2 := F0 m 78 ls [.ref (fa.getD (cs.getD (k + 1) 0) 0), .ref (fa.getD (cs.getD k 0) 0), .ref w1, .ref w1, .ref S]) rfl ?_
            refine W.widen (k := 13 + 2 * k + 1 + 0 + 0) (n := 300 + 26 * k + 2 + 0 + 0) (by first | exact Nat.le_of_ble_eq_true rfl | (dsimp only; omega) | omega) (by first | exact Nat.le_of_ble_eq_true rfl | (dsimp only; omega) | omega) ?_
            refine gx_cast C hW (gx_pl ((fa_ft hfd3 hcl hJ).1) ((fa_ft hfd3 hcl hJ).2)) rfl (tq_3 231 (by decide +kernel) rfl) dX5_layOutSides_78 ?_
            refine gx_callIN (wr := []) (rest := [.ref w1, .ref S]) C hW sX5_274n (kX2_init l G (L2 ++ [w1]) f12 w1 (fa.getD (cs.getD k 0) 0) (fa.getD (cs.getD (k + 1) 0) 0) m12_w1 f12_w1) rfl ⟨(by first | exact Nat.le_of_ble_eq_true rfl | (dsimp only; omega) | omega), (by first | exact Nat.le_of_ble_eq_true rfl | (dsimp only; omega) | omega)⟩ hl.1 rfl (Nat.le_of_ble_eq_true rfl) dX5_layOutSides_81 ⟨(by first | exact Nat.le_of_ble_eq_true rfl | (dsimp only; omega) | omega), (by first | exact Nat.le_of_ble_eq_true rfl | (dsimp only; omega) | omega)⟩ (fun v9 u9 H locs hp hW => ?_)
            obtain ⟨rfl, hu⟩ := hp
            rw [hu] at hW
            have hW : gx_W G A s (va_pl (L2 ++ [w1]) (va_up f12 w1 (.inr (7, [.ref (fa.getD (cs.getD k 0) 0), .ref (fa.getD (cs.getD (k + 1) 0) 0)])))) H locs := hW
            refine W.eq (g2 := F0 m 84 ls [.ref w1, .ref S]) rfl ?_
            refine W.widen (k := 13 + 2 * k + 1 + 0 + 0 + 0) (n := 300 + 26 * k + 2 + 0 + 0 + 0) (by first | exact Nat.le_of_ble_eq_true rfl | (dsimp only; omega) | omega) (by first | exact Nat.le_of_ble_eq_true rfl | (dsimp only; omega) | omega) ?_
            rw [hf12, bx_uu] at hW
            have hW : gx_W G A s (va_pl (L2 ++ [w1]) (va_up f2 w1 (.inr (7, [.ref (fa.getD (cs.getD k 0) 0), .ref (fa.getD (cs.getD (k + 1) 0) 0)])))) H locs := hW
            have hvS : w1 ≠ S := fun zz => hw1 (by rw [zz]; exact hsl.1.1)
            have hvb : some w1 ≠ b2 := fun zz => hw1 (hsl.1.row w1 zz.symm)
            have hel9 : ∀ y ∈ sb, gx_el (L2 ++ [w1]) (va_up f2 w1 (.inr (7, [.ref (fa.getD (cs.getD k 0) 0), .ref (fa.getD (cs.getD (k + 1) 0) 0)]))) y ∧ y ≠ S := fun y hy => by
              obtain ⟨i, hi, rfl⟩ := List.mem_iff_getElem.mp hy
              obtain ⟨u9, v9, n9, h91, h92, -⟩ := hsd i hi
              exact ⟨(hsd i hi).el.push hw1, (hsl.1.apart h92 (by decide)).1⟩
            have hS3 : ls_at G (L2 ++ [w1]) (va_up f2 w1 (.inr (7, [.ref (fa.getD (cs.getD k 0) 0), .ref (fa.getD (cs.getD (k + 1) 0) 0)]))) S b2 sb := hsl.1.newo hw1
            refine gx_callV (wr := []) (rest := []) C hW sX5_66 (kL_add l G (L2 ++ [w1]) (va_up f2 w1 (.inr (7, [.ref (fa.getD (cs.getD k 0) 0), .ref (fa.getD (cs.getD (k + 1) 0) 0)]))) S b2 sb hS3 w1 (gx_snoc_el 7 2 _ RX2 TX2 rfl rfl (List.mem_of_getElem? (i := 2) (by decide +kernel))) hvS hel9 (by omega)) (gx_pl hS3.1 (ls_at.head hS3).choose_spec.choose_spec) rfl rfl ⟨(by first | exact Nat.le_of_ble_eq_true rfl | (dsimp only; omega) | omega), (by first | exact Nat.le_of_ble_eq_true rfl | (dsimp only; omega) | omega)⟩ hl.1 rfl (Nat.le_of_ble_eq_true rfl) dX5_layOutSides_84 ⟨(by first | exact Nat.le_of_ble_eq_true rfl | (dsimp only; omega) | omega), (by first | exact Nat.le_of_ble_eq_true rfl | (dsimp only; omega) | omega)⟩ (fun v9 u9 H locs hp hW => ?_)
            obtain ⟨rfl, hadd⟩ := hp
            have hW : gx_W G A s (u9) H locs := hW
            refine W.eq (g2 := F0 m 87 ls [.int 1]) rfl ?_
            refine W.widen (k := 13 + 2 * k + 1 + 0 + 0 + 0 + 1) (n := 300 + 26 * k + 2 + 0 + 0 + 0 + 24) (by first | exact Nat.le_of_ble_eq_true rfl | (dsimp only; omega) | omega) (by first | exact Nat.le_of_ble_eq_true rfl | (dsimp only; omega) | omega) ?_
            obtain ⟨L3, f3, b3, hu, hgr, hvL, hfv⟩ := ls_added.grown hw1 hadd hvS hvb
            rw [hu] at hW
            have hsl3 := hsl.add hgr
            have hsk : sd_is L3 f3 w1 (sd_of fd cs k) := by
              rw [show sd_of fd cs k = (nI (cs.getD k 0), fd (cs.getD k 0), fd (cs.getD (k + 1) 0)) by unfold sd_of; rw [hJe]]
              exact ⟨_, _, _, hvL, hfv, (fa_ft hfd2 hcl hik).grown hsl.1 hgr, (fa_ft hfd2 hcl hJ).grown hsl.1 hgr⟩
            have hsd3 : ∀ j (h : j < (sb ++ [w1]).length), sd_is L3 f3 (sb ++ [w1])[j] (sd_of fd cs j) := ls_snocP (P := fun a j => sd_is L3 f3 a (sd_of fd cs j)) (fun j h => (hsd j h).grown hsl.1 hgr) (by rw [hsbn]; exact hsk)
            have hW : gx_W G A s (va_pl L3 f3) H locs := hW
            refine lv_pop gX gB dX5_layOutSides_87 rfl ?_
            refine lv_iinc (v := nI (k + 1)) (lv' := [(4, .int (nI (k + 1))), (5, .int (nI (k + 1))), (3, .int (nI cs.length)), (2, .ref q), (0, .ref x), (1, .ref (fa[b0]))]) gX gB dX5_layOutSides_88 hl (k := 1) rfl (by exact nI_1 k) (by decide) rfl (fun ls hl => ?_)
            refine lv_goto (tgt := 31) gX gB dX5_layOutSides_91 (by decide) ?_
            refine W.widen (k := 13 + 2 * (k + 1)) (n := 300 + 26 * (k + 1)) (by omega) (by omega) ?_
            exact ih (k + 1) L3 f3 (some b3) (sb ++ [w1]) (by omega) (by omega) hsl3 (by rw [List.length_append, hsbn]; rfl) hsd3 _ _ hW ls (lv_sub hl [0, 2, 3, 4, 5] rfl)
        · refine lv_iload gX gB dX5_layOutSides_31 (lv_at hl 0 rfl) ?_
          refine lv_iload_n gX gB dX5_layOutSides_33 rfl (lv_at hl 1 rfl) ?_
          refine lv_icmp_ge (tgt := 94) gX gB dX5_layOutSides_34 (by decide) (fun _ => ?_) (fun h9 => absurd (show (nI cs.length) ≤ (nI k) from nI_le hik (by omega)) h9)
          exact gx_vret C hr hW (⟨rfl, L2, f2, b2, sb, rfl, hsl.base hst.2.2.2.1 hbs, by rw [← hcs, if_neg hc3]; omega, by rw [← hcs]; exact hsd⟩) (by first | exact Nat.le_of_ble_eq_true rfl | (dsimp only; omega) | omega) (by first | exact Nat.le_of_ble_eq_true rfl | (dsimp only; omega) | omega) dX5_layOutSides_94
    exact loop (cs.length + 1) 0 L1 f1 bS [] (by omega) (Nat.zero_le _) (sl_new hlS1) rfl (fun _ h9 => absurd h9 (Nat.not_lt_zero _)) _ _ hW ls (lv_sub hl [0, 1, 2, 3, 4] rfl)
  · exact gx_vret C hr hW (⟨rfl, L1, f1, bS, [], rfl, (sl_new hlS1).base hst.2.2.2.1 hbs, by rw [← hcs, if_pos ((nI_ltI (b := 3) (by omega) (by decide)).mp (Int32.not_le.mp c24))]; rfl, fun _ h9 => absurd h9 (Nat.not_lt_zero _)⟩) (Nat.le_of_ble_eq_true rfl) (Nat.le_of_ble_eq_true rfl) dX5_layOutSides_27
