/-! STANDTESTS: cornersAgainstClock. -/
theorem ft_is.el {L : List Nat} {f : Nat → va_E} {a : Nat} {n : Int32} {p : ft_T} (h : ft_is L f a n p) : gx_el L f a := ⟨h.1, 5, 3, _, RX0, TX0, h.2, rfl, List.mem_of_getElem? (i := 0) (by decide +kernel)⟩
theorem ft_is.kept {L L' : List Nat} {f f' : Nat → va_E} {a : Nat} {n : Int32} {p : ft_T} (h : ft_is L f a n p) (hL : a ∈ L') (hf : f' a = f a) : ft_is L' f' a n p := ⟨hL, by rw [hf]; exact h.2⟩
theorem ls_at.row {G : gx_T} {L : List Nat} {f : Nat → va_E} {q : Nat} {b : Option Nat} {xs : List Nat} (h : ls_at G L f q b xs) : ∀ b9, b = some b9 → b9 ∈ L := by
  intro b9 h9
  obtain ⟨-, mc, h2⟩ := h
  rw [h9] at h2
  exact h2.1
/-- a new list q with its row, all that was old as it was -/
def cc_at (G : gx_T) (L : List Nat) (f : Nat → va_E) (q : Nat) (b : Option Nat) (xs : List Nat) (L1 : List Nat) (f1 : Nat → va_E) : Prop := q ∉ L ∧ (∀ b1, b = some b1 → b1 ∉ L) ∧ ls_at G L1 f1 q b xs ∧ (∀ a ∈ L, a ∈ L1) ∧ ∀ a ∈ L, f1 a = f a
theorem cc_new {G : gx_T} {L : List Nat} {f : Nat → va_E} {q : Nat} (hq : q ∉ L) : cc_at G L f q none [] (L ++ [q]) (va_up f q (.inr (4, [.int 0, .ref (G.2.2 0), .int 0]))) := ⟨hq, fun _ h => (nomatch h), ⟨List.mem_append_right _ List.mem_cons_self, 0, rfl, va_up_self _ _ _⟩, fun a ha => List.mem_append_left _ ha, fun a ha => va_up_ne _ _ (fun zz => hq (by rw [← zz]; exact ha))⟩
theorem cc_add {G : gx_T} {L : List Nat} {f : Nat → va_E} {q : Nat} {b : Option Nat} {xs : List Nat} {L1 : List Nat} {f1 : Nat → va_E} {v : Nat} {u : va_W} (h : cc_at G L f q b xs L1 f1) (ha : ls_added G L1 f1 q b xs v u) : ∃ (L2 : List Nat) (f2 : Nat → va_E) (b2 : Nat), u = va_pl L2 f2 ∧ cc_at G L f q (some b2) (xs ++ [v]) L2 f2 := by
  obtain ⟨hq, hb, hl, hL, hf⟩ := h
  obtain ⟨L', f', b', hu, h1, h2, h3⟩ := ha
  refine ⟨L', f', b', hu, hq, fun b1 e1 => ?_, h1, fun a ha => ?_, fun a ha => ?_⟩
  · injection e1 with e1
    rw [← e1]
    rcases h2 with ⟨h2, -⟩ | ⟨h2, -⟩
    · exact hb b' h2
    · exact fun z => h2 (hL _ z)
  · rcases h2 with ⟨-, h2⟩ | ⟨-, h2⟩
    · rw [h2]; exact hL a ha
    · rw [h2]; exact List.mem_append_left _ (hL a ha)
  · rw [h3 a (hL a ha) (fun z => hq (by rw [← z]; exact ha)) (fun z => hb a z.symm ha)]
    exact hf a ha
theorem cc_at.ls {G : gx_T} {L : List Nat} {f : Nat → va_E} {q : Nat} {b : Option Nat} {xs : List Nat} {L1 : List Nat} {f1 : Nat → va_E} (h : cc_at G L f q b xs L1 f1) {h2 : Nat} {b2 : Option Nat} {x2 : List Nat} (hl : ls_at G L f h2 b2 x2) : ls_at G L1 f1 h2 b2 x2 := hl.kept h.2.2.2.1 (h.2.2.2.2 _ hl.1) (fun b9 h9 => h.2.2.2.2 _ (hl.row b9 h9))
theorem cc_at.ft {G : gx_T} {L : List Nat} {f : Nat → va_E} {q : Nat} {b : Option Nat} {xs : List Nat} {L1 : List Nat} {f1 : Nat → va_E} (h : cc_at G L f q b xs L1 f1) {a : Nat} {n : Int32} {p : ft_T} (hl : ft_is L f a n p) : ft_is L1 f1 a n p := hl.kept (h.2.2.2.1 a hl.1) (h.2.2.2.2 a hl.1)
/-- the corners from c on, until the first one comes again -/
def ck_at (nx : Nat → Nat) (c0 : Nat) : Nat → Nat → List Nat
  | 0, _ => []
  | n + 1, c => c :: (if nx c = c0 then [] else ck_at nx c0 n (nx c))
abbrev fa_ls (fa : List Nat) (cs : List Nat) : List Nat := cs.map (fun j => fa.getD j 0)
theorem fa_at {fa : List Nat} {c : Nat} (h : c < fa.length) : fa.getD c 0 = fa[c] := by
  rw [List.getD_eq_getElem?_getD, List.getElem?_eq_getElem h]; rfl
theorem fa_snoc {fa pre : List Nat} {c : Nat} (h : c < fa.length) : fa_ls fa pre ++ [fa[c]] = fa_ls fa (pre ++ [c]) := by
  unfold fa_ls
  rw [List.map_append, List.map_cons, List.map_nil, fa_at h]
theorem ck_go {nx : Nat → Nat} {c0 c k n i : Nat} {pre R : List Nat} (h : pre ++ ck_at nx c0 (n - i) c = R) (hi : i < n) (hk : k = nx c) (hne : ¬ k = c0) : (pre ++ [c]) ++ ck_at nx c0 (n - (i + 1)) k = R := by
  rw [← h, show n - i = (n - (i + 1)) + 1 by omega, List.append_assoc]
  show _ = pre ++ (c :: (if nx c = c0 then [] else ck_at nx c0 (n - (i + 1)) (nx c)))
  rw [if_neg (by rw [← hk]; exact hne), hk]
  rfl
theorem ck_end {nx : Nat → Nat} {c0 c k n i : Nat} {pre R : List Nat} (h : pre ++ ck_at nx c0 (n - i) c = R) (hi : i < n) (hk : k = nx c) (he : k = c0) : pre ++ [c] = R := by
  rw [← h, show n - i = (n - (i + 1)) + 1 by omega]
  show _ = pre ++ (c :: (if nx c = c0 then [] else ck_at nx c0 (n - (i + 1)) (nx c)))
  rw [if_pos (by rw [← hk]; exact he)]
theorem ck_out {nx : Nat → Nat} {c0 c n i : Nat} {pre R : List Nat} (h : pre ++ ck_at nx c0 (n - i) c = R) (hi : n ≤ i) : pre = R := by
  rw [← h, show n - i = 0 by omega]
  exact (List.append_nil pre).symm
theorem fa_el {L : List Nat} {f : Nat → va_E} {fa pre : List Nat} {fd : Nat → ft_T} {q : Nat} (hfd : ∀ i (h : i < fa.length), ft_is L f fa[i] (nI i) (fd i)) (hpl : ∀ z ∈ pre, z < fa.length) (hq : ∀ i (h : i < fa.length), fa[i] ≠ q) : ∀ x ∈ fa_ls fa pre, gx_el L f x ∧ x ≠ q := by
  intro x hx
  obtain ⟨z, hz, rfl⟩ := List.mem_map.mp hx
  have hz2 := hpl z hz
  rw [fa_at hz2]
  exact ⟨(hfd z hz2).el, hq z hz2⟩
set_option maxHeartbeats 4000000 in
set_option maxRecDepth 100000 in
theorem kX5_cornersAgainstClock (l : Launch) (G : gx_T) (L : List Nat) (f : Nat → va_E) (x P F S X N T E : Nat) (dc : Int32) (hx : x ∈ L) (fx : f x = .inr (10, [.ref P, .ref F, .ref S, .ref X, .ref N, .ref T, .ref E, .int dc])) (bF : Option Nat) (fa : List Nat) (fd : Nat → ft_T) (hlF : ls_at G L f F bF fa) (hfd : ∀ i (h : i < fa.length), ft_is L f fa[i] (nI i) (fd i)) (hF12 : fa.length ≤ 12) (c0 : Nat) (hc0 : c0 < fa.length) : gx_M l G yX5_cornersAgainstClock cX5_cornersAgainstClock 5 (some (.object "java/util/ArrayList")) ({ frames := 7, cells := 13, slots := 300, locals := 207 } : Room) [.ref x, .ref (fa[c0])] (va_pl L f) (fun v u => ∃ (L1 : List Nat) (f1 : Nat → va_E) (b1 : Option Nat) (q : Nat), v = some (.ref q) ∧ u = va_pl L1 f1 ∧ cc_at G L f q b1 (fa_ls fa (ck_at (fun z => ca_at fd z fa.length) c0 fa.length c0)) L1 f1) := by
  refine gx_start (by decide +kernel) (Nat.le_of_ble_eq_true rfl) ?_
  intro p e s m args below meth c A ls C hr hnm hW hl
  have gX := C.x
  have gB := C.b
  have hl : lv_has ls 5 [(0, .ref x), (1, .ref (fa[c0]))] := hl
  refine gx_new (ci := 4) C hW clJx4a65c inJx4a65c rfl (tq_1 40 (by decide +kernel) rfl) (tq_1 41 (by decide +kernel) rfl) (tq_1 4 (by decide +kernel) rfl) dfJx4a65c (Nat.le_of_ble_eq_true rfl) (Nat.le_of_ble_eq_true rfl) dX5_cornersAgainstClock_0 (fun q H hq hW => ?_)
  refine W.widen (k := 1) (n := 3) (Nat.le_of_ble_eq_true rfl) (Nat.le_of_ble_eq_true rfl) ?_
  obtain ⟨f11, hf11⟩ : ∃ zz, zz = va_up f q (.inr (4, [.int 0, .null, .int 0])) := ⟨_, rfl⟩
  have hW := hW
  rw [← hf11] at hW
  have m11_x : x ∈ L ++ [q] := List.mem_append_left _ (hx)
  have f11_x : f11 x = .inr (10, [.ref P, .ref F, .ref S, .ref X, .ref N, .ref T, .ref E, .int dc]) := by rw [hf11, va_up_ne _ _ (fun zz => hq (by rw [← zz]; exact hx))]; exact fx
  have m11_fa_c0_ : fa[c0] ∈ L ++ [q] := List.mem_append_left _ ((hfd c0 hc0).1)
  have f11_fa_c0_ : f11 fa[c0] = .inr (5, [.int (nI c0), .long ((fd c0).1), .long ((fd c0).2)]) := by rw [hf11, va_up_ne _ _ (fun zz => hq (by rw [← zz]; exact (hfd c0 hc0).1))]; exact (hfd c0 hc0).2
  have m11_q : q ∈ L ++ [q] := List.mem_append_right _ List.mem_cons_self
  have f11_q : f11 q = .inr (4, [.int 0, .null, .int 0]) := by rw [hf11]; exact va_up_self _ _ _
  refine lv_dup gX gB dX5_cornersAgainstClock_3 rfl ?_
  refine gx_callI (wr := []) (rest := [.ref q]) C hW sX5_9 (kJx4a65c_init_da8c8 l G (L ++ [q]) f11 q m11_q f11_q) rfl ⟨(Nat.le_of_ble_eq_true rfl), (Nat.le_of_ble_eq_true rfl)⟩ hl.1 rfl (Nat.le_of_ble_eq_true rfl) dX5_cornersAgainstClock_4 ⟨(Nat.le_of_ble_eq_true rfl), (Nat.le_of_ble_eq_true rfl)⟩ (fun v9 u9 H locs hp hW => ?_)
  obtain ⟨rfl, hu⟩ := hp
  rw [hu] at hW
  have hW : gx_W G A s (va_pl (L ++ [q]) (va_up f11 q (.inr (4, [.int 0, .ref (G.2.2 0), .int 0])))) H locs := hW
  refine W.eq (g2 := F0 m 7 ls [.ref q]) rfl ?_
  refine W.widen (k := 1) (n := 3) (Nat.le_of_ble_eq_true rfl) (Nat.le_of_ble_eq_true rfl) ?_
  rw [hf11, bx_uu] at hW
  have hW : gx_W G A s (va_pl (L ++ [q]) (va_up f q (.inr (4, [.int 0, .ref (G.2.2 0), .int 0])))) H locs := hW
  refine lv_astore_n (lv' := [(2, .ref q), (0, .ref x), (1, .ref (fa[c0]))]) gX gB dX5_cornersAgainstClock_7 rfl hl (by decide) rfl (fun ls hl => ?_)
  refine lv_aload_n gX gB dX5_cornersAgainstClock_8 rfl (lv_at hl 2 rfl) ?_
  refine lv_astore_n (lv' := [(3, .ref (fa[c0])), (2, .ref q), (0, .ref x), (1, .ref (fa[c0]))]) gX gB dX5_cornersAgainstClock_9 rfl hl (by decide) rfl (fun ls hl => ?_)
  refine lv_iconst (v := 0) gX gB dX5_cornersAgainstClock_10 (by decide) ?_
  refine lv_istore (lv' := [(4, .int 0), (3, .ref (fa[c0])), (2, .ref q), (0, .ref x), (1, .ref (fa[c0]))]) gX gB dX5_cornersAgainstClock_11 hl (by decide) rfl (fun ls hl => ?_)
  have hl : lv_has ls 5 [(4, .int (nI 0)), (3, .ref (fa[c0])), (2, .ref q), (0, .ref x), (1, .ref (fa[c0]))] := hl
  have loop : ∀ (r : Nat) (i cc : Nat) (hcc : cc < fa.length) (pre : List Nat) (L1 : List Nat) (f1 : Nat → va_E) (b1 : Option Nat), (fa.length - i < r) → (i ≤ fa.length) → (cc_at G L f q b1 (fa_ls fa pre) L1 f1) → (pre.length = i) → (pre ++ ck_at (fun z => ca_at fd z fa.length) c0 (fa.length - i) cc = ck_at (fun z => ca_at fd z fa.length) c0 fa.length c0) → (∀ z ∈ pre, z < fa.length) → ∀ (H : Heap) (locs : List Loc), gx_W G A s (va_pl L1 f1) H locs → ∀ ls : Array Slot, lv_has ls 5 [(4, .int (nI i)), (3, .ref (fa[cc])), (2, .ref q), (0, .ref x), (1, .ref (fa[c0]))] → W p l e ({ frames := 7, cells := 13, slots := 300, locals := 207 } : Room) s m args below meth c H locs (1 + i) (3 + 24 * i) (MQ below (gx_Q G A (fun v u => ∃ (L1 : List Nat) (f1 : Nat → va_E) (b1 : Option Nat) (q : Nat), v = some (.ref q) ∧ u = va_pl L1 f1 ∧ cc_at G L f q b1 (fa_ls fa (ck_at (fun z => ca_at fd z fa.length) c0 fa.length c0)) L1 f1)) args s (({ frames := 7, cells := 13, slots := 300, locals := 207 } : Room)).cells (({ frames := 7, cells := 13, slots := 300, locals := 207 } : Room)).slots A) (F0 m 13 ls []) := by
    intro r
    induction r with
    | zero => intro i cc hcc pre L1 f1 b1 hfu hi hst hpre hck hpl H locs hW ls hl; exact absurd hfu (Nat.not_lt_zero _)
    | succ r ih =>
      intro i cc hcc pre L1 f1 b1 hfu hi hst hpre hck hpl H locs hW ls hl
      rcases Nat.lt_or_ge i fa.length with hik | hik
      · refine lv_iload gX gB dX5_cornersAgainstClock_13 (lv_at hl 0 rfl) ?_
        refine lv_aload_n gX gB dX5_cornersAgainstClock_15 rfl (lv_at hl 3 rfl) ?_
        refine gx_get C hW fX5_16 (gx_pl (hst.2.2.2.1 x hx) ((hst.2.2.2.2 x hx).trans fx)) rfl dX5_cornersAgainstClock_16 ?_
        refine gx_callV (wr := []) (rest := [.int (nI i)]) C hW sX5_48 (kL_size l G L1 f1 F bF fa (hst.ls hlF)) (gx_pl (hst.ls hlF).1 (ls_at.head (hst.ls hlF)).choose_spec.choose_spec) rfl rfl ⟨(by first | exact Nat.le_of_ble_eq_true rfl | (dsimp only; omega) | omega), (by first | exact Nat.le_of_ble_eq_true rfl | (dsimp only; omega) | omega)⟩ hl.1 rfl (Nat.le_of_ble_eq_true rfl) dX5_cornersAgainstClock_19 ⟨(by first | exact Nat.le_of_ble_eq_true rfl | (dsimp only; omega) | omega), (by first | exact Nat.le_of_ble_eq_true rfl | (dsimp only; omega) | omega)⟩ (fun v9 u9 H locs hp hW => ?_)
        obtain ⟨rfl, hu⟩ := hp
        rw [hu] at hW
        have hW : gx_W G A s (va_pl L1 f1) H locs := hW
        refine W.eq (g2 := F0 m 22 ls [.int (nI fa.length), .int (nI i)]) rfl ?_
        refine W.widen (k := 1 + i + 0) (n := 3 + 24 * i + 0) (by first | exact Nat.le_of_ble_eq_true rfl | (dsimp only; omega) | omega) (by first | exact Nat.le_of_ble_eq_true rfl | (dsimp only; omega) | omega) ?_
        refine lv_icmp_ge (tgt := 57) gX gB dX5_cornersAgainstClock_22 (by decide) (fun h9 => absurd (show (nI fa.length) ≤ (nI i) from h9) (nI_ge hik (by have := hlF.lt; omega))) (fun _ => ?_)
        refine lv_aload_n gX gB dX5_cornersAgainstClock_25 rfl (lv_at hl 2 rfl) ?_
        refine lv_aload_n gX gB dX5_cornersAgainstClock_26 rfl (lv_at hl 1 rfl) ?_
        have hfd1 : ∀ i (h : i < fa.length), ft_is L1 f1 fa[i] (nI i) (fd i) := fun i h => hst.ft (hfd i h)
        have hneq : ∀ i (h : i < fa.length), fa[i] ≠ q := fun i h zz => hst.1 (by rw [← zz]; exact (hfd i h).1)
        refine gx_callV (wr := []) (rest := []) C hW sX5_66 (kL_add l G L1 f1 q b1 (fa_ls fa pre) hst.2.2.1 fa[cc] (hfd1 cc hcc).el (hneq cc hcc) (fa_el hfd1 hpl hneq) (by rw [List.length_map]; omega)) (gx_pl hst.2.2.1.1 (ls_at.head hst.2.2.1).choose_spec.choose_spec) rfl rfl ⟨(by first | exact Nat.le_of_ble_eq_true rfl | (dsimp only; omega) | omega), (by first | exact Nat.le_of_ble_eq_true rfl | (dsimp only; omega) | omega)⟩ hl.1 rfl (Nat.le_of_ble_eq_true rfl) dX5_cornersAgainstClock_27 ⟨(by first | exact Nat.le_of_ble_eq_true rfl | (dsimp only; omega) | omega), (by first | exact Nat.le_of_ble_eq_true rfl | (dsimp only; omega) | omega)⟩ (fun v9 u9 H locs hp hW => ?_)
        obtain ⟨rfl, hadd⟩ := hp
        have hW : gx_W G A s (u9) H locs := hW
        refine W.eq (g2 := F0 m 30 ls [.int 1]) rfl ?_
        refine W.widen (k := 1 + i + 0 + 1) (n := 3 + 24 * i + 0 + 24) (by first | exact Nat.le_of_ble_eq_true rfl | (dsimp only; omega) | omega) (by first | exact Nat.le_of_ble_eq_true rfl | (dsimp only; omega) | omega) ?_
        obtain ⟨L2, f2, b2, hu, hst2⟩ := cc_add hst hadd
        rw [hu] at hW
        rw [fa_snoc hcc] at hst2
        have hfd2 : ∀ i (h : i < fa.length), ft_is L2 f2 fa[i] (nI i) (fd i) := fun i h => hst2.ft (hfd i h)
        have hW : gx_W G A s (va_pl L2 f2) H locs := hW
        refine lv_pop gX gB dX5_cornersAgainstClock_30 rfl ?_
        refine lv_aload_n gX gB dX5_cornersAgainstClock_31 rfl (lv_at hl 3 rfl) ?_
        refine lv_aload_n gX gB dX5_cornersAgainstClock_32 rfl (lv_at hl 1 rfl) ?_
        refine gx_callV (wr := []) (rest := []) C hW sX5_281 (kX5_cornerAfter l G L2 f2 x P F S X N T E dc (hst2.2.2.2.1 x hx) ((hst2.2.2.2.2 x hx).trans fx) bF fa fd (hst2.ls hlF) hfd2 cc hcc) (gx_pl (hst2.2.2.2.1 x hx) ((hst2.2.2.2.2 x hx).trans fx)) rfl rfl ⟨(by first | exact Nat.le_of_ble_eq_true rfl | (dsimp only; omega) | omega), (by first | exact Nat.le_of_ble_eq_true rfl | (dsimp only; omega) | omega)⟩ hl.1 rfl (Nat.le_of_ble_eq_true rfl) dX5_cornersAgainstClock_33 ⟨(by first | exact Nat.le_of_ble_eq_true rfl | (dsimp only; omega) | omega), (by first | exact Nat.le_of_ble_eq_true rfl | (dsimp only; omega) | omega)⟩ (fun v9 u9 H locs hp hW => ?_)
        obtain ⟨⟨k, hk, hkq, rfl⟩, hu⟩ := hp
        rw [hu] at hW
        have hW : gx_W G A s (va_pl L2 f2) H locs := hW
        refine W.eq (g2 := F0 m 36 ls [.ref (fa[k])]) rfl ?_
        refine W.widen (k := 1 + i + 0 + 1 + 0) (n := 3 + 24 * i + 0 + 24 + 0) (by first | exact Nat.le_of_ble_eq_true rfl | (dsimp only; omega) | omega) (by first | exact Nat.le_of_ble_eq_true rfl | (dsimp only; omega) | omega) ?_
        refine lv_astore_n (lv' := [(3, .ref (fa[k])), (4, .int (nI i)), (2, .ref q), (0, .ref x), (1, .ref (fa[c0]))]) gX gB dX5_cornersAgainstClock_36 rfl hl (by decide) rfl (fun ls hl => ?_)
        refine lv_aload_n gX gB dX5_cornersAgainstClock_37 rfl (lv_at hl 0 rfl) ?_
        refine gx_getN C hW fX5_146n (gx_pl ((hfd2 k hk).1) ((hfd2 k hk).2)) rfl dX5_cornersAgainstClock_38 ?_
        refine lv_aload_n gX gB dX5_cornersAgainstClock_41 rfl (lv_at hl 4 rfl) ?_
        refine gx_getN C hW fX5_146n (gx_pl ((hfd2 c0 hc0).1) ((hfd2 c0 hc0).2)) rfl dX5_cornersAgainstClock_42 ?_
        refine lv_icmp_ne (tgt := 51) gX gB dX5_cornersAgainstClock_45 (by decide) (fun c45 => ?_) (fun c45 => ?_)
        · refine lv_iinc (v := nI (i + 1)) (lv' := [(4, .int (nI (i + 1))), (3, .ref (fa[k])), (2, .ref q), (0, .ref x), (1, .ref (fa[c0]))]) gX gB dX5_cornersAgainstClock_51 hl (k := 1) rfl (by exact nI_1 i) (by decide) rfl (fun ls hl => ?_)
          refine lv_goto (tgt := 13) gX gB dX5_cornersAgainstClock_54 (by decide) ?_
          refine W.widen (k := 1 + (i + 1)) (n := 3 + 24 * (i + 1)) (by omega) (by omega) ?_
          exact ih (i + 1) k hk (pre ++ [cc]) L2 f2 (some b2) (by omega) (by omega) hst2 (by rw [List.length_append, hpre]; rfl) (ck_go hck hik hkq (fun zz => c45 (by rw [zz]))) (fun z hz => (List.mem_append.mp hz).elim (hpl z) (fun h9 => by rw [List.mem_singleton.mp h9]; exact hcc)) _ _ hW ls (lv_sub hl [0, 1, 2, 3, 4] rfl)
        · refine lv_goto (tgt := 57) gX gB dX5_cornersAgainstClock_48 (by decide) ?_
          refine lv_aload_n gX gB dX5_cornersAgainstClock_57 rfl (lv_at hl 2 rfl) ?_
          exact gx_aret C hr (Or.inl ⟨_, rfl⟩) hW (⟨L2, f2, some b2, q, rfl, rfl, by rw [← ck_end hck hik hkq ((nI_eq (by have := hlF.lt; omega) (by have := hlF.lt; omega)).mp c45)]; exact hst2⟩) (by first | exact Nat.le_of_ble_eq_true rfl | (dsimp only; omega) | omega) (by first | exact Nat.le_of_ble_eq_true rfl | (dsimp only; omega) | omega) dX5_cornersAgainstClock_58
      · refine lv_iload gX gB dX5_cornersAgainstClock_13 (lv_at hl 0 rfl) ?_
        refine lv_aload_n gX gB dX5_cornersAgainstClock_15 rfl (lv_at hl 3 rfl) ?_
        refine gx_get C hW fX5_16 (gx_pl (hst.2.2.2.1 x hx) ((hst.2.2.2.2 x hx).trans fx)) rfl dX5_cornersAgainstClock_16 ?_
        refine gx_callV (wr := []) (rest := [.int (nI i)]) C hW sX5_48 (kL_size l G L1 f1 F bF fa (hst.ls hlF)) (gx_pl (hst.ls hlF).1 (ls_at.head (hst.ls hlF)).choose_spec.choose_spec) rfl rfl ⟨(by first | exact Nat.le_of_ble_eq_true rfl | (dsimp only; omega) | omega), (by first | exact Nat.le_of_ble_eq_true rfl | (dsimp only; omega) | omega)⟩ hl.1 rfl (Nat.le_of_ble_eq_true rfl) dX5_cornersAgainstClock_19 ⟨(by first | exact Nat.le_of_ble_eq_true rfl | (dsimp only; omega) | omega), (by first | exact Nat.le_of_ble_eq_true rfl | (dsimp only; omega) | omega)⟩ (fun v9 u9 H locs hp hW => ?_)
        obtain ⟨rfl, hu⟩ := hp
        rw [hu] at hW
        have hW : gx_W G A s (va_pl L1 f1) H locs := hW
        refine W.eq (g2 := F0 m 22 ls [.int (nI fa.length), .int (nI i)]) rfl ?_
        refine W.widen (k := 1 + i + 0) (n := 3 + 24 * i + 0) (by first | exact Nat.le_of_ble_eq_true rfl | (dsimp only; omega) | omega) (by first | exact Nat.le_of_ble_eq_true rfl | (dsimp only; omega) | omega) ?_
        refine lv_icmp_ge (tgt := 57) gX gB dX5_cornersAgainstClock_22 (by decide) (fun _ => ?_) (fun h9 => absurd (show (nI fa.length) ≤ (nI i) from nI_le hik (by have := hlF.lt; omega)) h9)
        refine lv_aload_n gX gB dX5_cornersAgainstClock_57 rfl (lv_at hl 2 rfl) ?_
        exact gx_aret C hr (Or.inl ⟨_, rfl⟩) hW (⟨L1, f1, b1, q, rfl, rfl, by rw [← ck_out hck hik]; exact hst⟩) (by first | exact Nat.le_of_ble_eq_true rfl | (dsimp only; omega) | omega) (by first | exact Nat.le_of_ble_eq_true rfl | (dsimp only; omega) | omega) dX5_cornersAgainstClock_58
  exact loop (fa.length + 1) 0 c0 hc0 [] (L ++ [q]) (va_up f q (.inr (4, [.int 0, .ref (G.2.2 0), .int 0]))) none (by omega) (Nat.zero_le _) (cc_new hq) rfl rfl (fun _ h9 => nomatch h9) _ _ hW ls (lv_sub hl [0, 1, 2, 3, 4] rfl)
