/-! THE RELATION: foot, the start, moments. -/
theorem ro_sl {G : gx_T} {L1 : List Nat} {f1 : Nat → va_E} {S : Nat} {bS b2 : Option Nat} {sb : List Nat} {L2 : List Nat} {f2 : Nat → va_E} (hs : sl_at G L1 f1 S bS b2 sb L2 f2) {q : Nat} {b : Option Nat} {xs : List Nat} (hl : ls_at G L1 f1 q b xs) (h : ro_ne b bS) : ro_ne b b2 := by
  intro z e1 e2
  rcases hs.2.1 with h9 | h9
  · exact h z e1 (by rw [← h9]; exact e2)
  · exact h9 z e2 (hl.row z e1)
theorem rl_foot {G : gx_T} {L : List Nat} {f : Nat → va_E} {x : Nat} {P F S X N T E : Nat} {dn : Nat} {bP : Option Nat} {pa : List Nat} {ps : Nat → ld_T} {bF : Option Nat} {fa : List Nat} {fd : Nat → ft_T} {bS : Option Nat} {sa : List Nat} {sd : Nat → sd_T} {b cap n : Nat} {t : Nat → Nat} {bT : Option Nat} {ta : List Nat} {ds : List rt_T} {ex ey eg : Int64} {cn : Nat} {cf : Nat → Nat} {px py pz gr ou fx fy : Nat → Int64} {od cr ty to_ : Nat → Int32} (h : rl_at G L f x P F S X N T E dn bP pa ps bF fa fd bS sa sd b cap n t bT ta ds ex ey eg cn cf px py pz gr ou fx fy od cr ty to_) (hlt : fa.length < 12) {x0 y0 : Int64} (hb : pl_ok x0 ∧ pl_ok y0) : ∃ (nx : Nat → Nat) (N0 : Nat), wd_ok (vp_updL fx fa.length x0) (vp_updL fy fa.length y0) (fa.length + 1) nx N0 ∧ ∀ {q : Nat} {L1 : List Nat} {f1 : Nat → va_E} {b1 : Nat} {L2 : List Nat} {f2 : Nat → va_E} {b2 : Option Nat} {sb : List Nat} {cr1 : Nat → Int32}, cs_grown G L f F bF fa q L1 f1 b1 → ft_is L1 f1 q (nI fa.length) (x0, y0) → sl_at G L1 f1 S bS b2 sb L2 f2 → sb.length = (if (co_of (ft_snoc fd fa.length (x0, y0)) (fa ++ [q]).length fa.length).length < 3 then 0 else (co_of (ft_snoc fd fa.length (x0, y0)) (fa ++ [q]).length fa.length).length) → (∀ j (h : j < sb.length), sd_is L2 f2 sb[j] (sd_of (ft_snoc fd fa.length (x0, y0)) (co_of (ft_snoc fd fa.length (x0, y0)) (fa ++ [q]).length fa.length) j)) → (∀ z, z < N0 → cr1 z = nI (nx_it nx (fi_at (vp_updL fx fa.length x0) (vp_updL fy fa.length y0) (fa.length + 1)) z)) → rl_at G L2 f2 x P F S X N T E dn bP pa ps (some b1) (fa ++ [q]) (ft_snoc fd fa.length (x0, y0)) b2 sb (sd_of (ft_snoc fd fa.length (x0, y0)) (co_of (ft_snoc fd fa.length (x0, y0)) (fa ++ [q]).length fa.length)) b cap n t bT ta ds ex ey eg N0 (nx_it nx (fi_at (vp_updL fx fa.length x0) (vp_updL fy fa.length y0) (fa.length + 1))) px py pz gr ou (vp_updL fx fa.length x0) (vp_updL fy fa.length y0) od cr1 ty to_ := by
  obtain ⟨hx, fx0, lP, lF, lS, lT, tb, hN, hE, pP, pF, pS, pT, nPF, nPS, nPT, nFS, nFT, nST, rPF, rPS, rPT, rFS, rFT, rST, nd, Nn, En, p16, f12, t12, tl, n2, d8, c12, sl, rP, rO, rQ, rF, rE, rX, rT, rD, rC, rS⟩ := h
  have hF2 : ∀ i, i < fa.length + 1 → ft_snoc fd fa.length (x0, y0) i = (vp_updL fx fa.length x0 i, vp_updL fy fa.length y0 i) ∧ w_bd (vp_updL fx fa.length x0 i) ∧ w_bd (vp_updL fy fa.length y0 i) := by
    intro i hi
    rcases Nat.lt_or_ge i fa.length with h9 | h9
    · rw [ft_snoc_old h9, ul_ne (by omega), ul_ne (by omega)]
      exact rF i h9
    · rw [show i = fa.length by omega, ft_snoc_new, ul_eq, ul_eq]
      exact ⟨rfl, pl_bd hb.1, pl_bd hb.2⟩
  obtain ⟨nx, N0, g1, g2, g3, g4⟩ := geo_all (fd := ft_snoc fd fa.length (x0, y0)) (b0 := fa.length) (n := fa.length + 1) (fun i hi => (hF2 i hi).1) (fun i hi => (hF2 i hi).2.1) (fun i hi => (hF2 i hi).2.2) (by omega) (by omega)
  refine ⟨nx, N0, g2, ?_⟩
  intro q L1 f1 b1 L2 f2 b2 sb cr1 hgr hq hsl hsb hsd hcr
  have hlen : (fa ++ [q]).length = fa.length + 1 := List.length_append
  have hco : co_of (ft_snoc fd fa.length (x0, y0)) (fa ++ [q]).length fa.length = (List.range' 0 N0).map (nx_it nx (fi_at (vp_updL fx fa.length x0) (vp_updL fy fa.length y0) (fa.length + 1))) := by
    rw [hlen]
    show ck_at _ (fc_at _ _ _) _ (fc_at _ _ _) = _
    rw [g3]
    exact g4
  have hcl : (co_of (ft_snoc fd fa.length (x0, y0)) (fa ++ [q]).length fa.length).length = N0 := by rw [hco, List.length_map, List.length_range']
  have hcg : ∀ j, j < N0 → (co_of (ft_snoc fd fa.length (x0, y0)) (fa ++ [q]).length fa.length).getD j 0 = nx_it nx (fi_at (vp_updL fx fa.length x0) (vp_updL fy fa.length y0) (fa.length + 1)) j := by
    intro j hj
    rw [hco, List.getD_eq_getElem?_getD, List.getElem?_eq_getElem (by rw [List.length_map, List.length_range']; exact hj), List.getElem_map, List.getElem_range']
    simp
  generalize hcs : co_of (ft_snoc fd fa.length (x0, y0)) (fa ++ [q]).length fa.length = cs at hsb hsd hcl hcg ⊢
  rw [hcl] at hsb
  have hs := hgr.2.2.2.1
  have hfr := hgr.2.2.2.2
  have k1 := lF.obk hs hfr
  have lS1 : ls_at G L1 f1 S bS sa := lS.by hs lF hfr nFS.symm rFS.sw
  have hs2 := hsl.2.2.1
  have hfr2 := hsl.2.2.2
  have k2 := lS1.obk hs2 hfr2
  have lP1 : ls_at G L1 f1 P bP pa := lP.by hs lF hfr nPF rPF
  have lT1 : ls_at G L1 f1 T bT ta := lT.by hs lF hfr nFT.symm rFT.sw
  have fx1 : f1 x = .inr (10, [.ref P, .ref F, .ref S, .ref X, .ref N, .ref T, .ref E, .int (nI dn)]) := by rw [hfr x hx (lF.apart fx0 (by decide)).1 (lF.apart fx0 (by decide)).2]; exact fx0
  have rF1 := ro_grown hgr lS rFS
  exact ⟨(hs2 x (hs x hx)), (by rw [hfr2 x (hs x hx) (lS1.apart fx1 (by decide)).1 (lS1.apart fx1 (by decide)).2]; exact fx1), (lP1.by hs2 lS1 hfr2 nPS rPS), (hgr.1.by hs2 lS1 hfr2 nFS rF1), (hsl.1), (lT1.by hs2 lS1 hfr2 nST.symm rST.sw), ((tb.by hs lF hfr).by hs2 lS1 hfr2), ((hN.ob k1).ob k2), ((hE.ob k1).ob k2), (fun i hi => ((pP i hi).ob k1).ob k2), (fun i hi => by
    rcases Nat.lt_or_ge i fa.length with h9 | h9
    · rw [List.getElem_append_left h9, ft_snoc_old h9]
      exact ((pF i h9).ob k1).ob k2
    · have e : i = fa.length := by omega
      subst e
      rw [List.getElem_append_right h9, ft_snoc_new]
      simp only [Nat.sub_self, List.getElem_cons_zero]
      exact hq.ob k2), (hsd), (fun j hj => ((pT j hj).ob k1).ob k2), nPF, nPS, nPT, nFS, nFT, nST, ((ro_grown hgr lP rPF.sw).sw), (ro_sl hsl lP1 rPS), rPT, (ro_sl hsl hgr.1 rF1), (ro_grown hgr lT rFT), ((ro_sl hsl lT1 rST.sw).sw), nd, Nn, En, p16, (by omega), t12, tl, n2, d8, (by omega), (hsb), rP, rO, rQ, (fun i hi => hF2 i (by omega)), rE, rX, rT, rD, (fun i hi => ⟨hcr i hi, by have := g2.2.2.2.1 i; omega⟩), (fun j hj => by
    have hjN : j < N0 := by
      rw [hsb] at hj
      split at hj <;> omega
    have h0 : 0 < N0 := by omega
    unfold sd_of nxt
    rw [hcg j hjN, hcl]
    by_cases e : j + 1 < N0
    · rw [if_pos e, if_neg (by omega), hcg _ e]
    · rw [if_neg e, if_pos (by omega), hcg 0 h0])⟩
theorem rl_new {G : gx_T} {L : List Nat} {f : Nat → va_E} {x P F S X N T b : Nat} (hne : P ≠ F ∧ P ≠ S ∧ P ≠ T ∧ F ≠ S ∧ F ≠ T ∧ S ≠ T) (hx : x ∈ L ∧ f x = .inr (10, [.ref P, .ref F, .ref S, .ref X, .ref N, .ref T, .ref N, .int 0])) (hP : P ∈ L ∧ f P = .inr (4, [.int 0, .ref (G.2.2 0), .int 0])) (hF : F ∈ L ∧ f F = .inr (4, [.int 0, .ref (G.2.2 0), .int 0])) (hS : S ∈ L ∧ f S = .inr (4, [.int 0, .ref (G.2.2 0), .int 0])) (hT : T ∈ L ∧ f T = .inr (4, [.int 0, .ref (G.2.2 0), .int 0])) (hX : X ∈ L ∧ f X = .inr (1, [.ref b, .int 0, .int 0, .int 0])) (hb : b ∈ L ∧ f b = .inl (G.2.1 0, 16, .inl (fun _ => 0))) (hN : N ∈ L ∧ f N = .inr (6, [.long 0, .long 0, .long 0, .long 0, .int (-1), .long 0])) : rl_at G L f x P F S X N T N 0 none [] (fun _ => (0, 0, 0, 0, 0, 0)) none [] (fun _ => (0, 0)) none [] (fun _ => (0, (0, 0), (0, 0))) b 16 0 (fun _ => 0) none [] [] 0 0 0 0 (fun _ => 0) (fun _ => 0) (fun _ => 0) (fun _ => 0) (fun _ => 0) (fun _ => 0) (fun _ => 0) (fun _ => 0) (fun _ => 0) (fun _ => 0) (fun _ => 0) (fun _ => 0) := by
  have hnil : ∀ {p : Nat → Prop}, ∀ i, i < ([] : List Nat).length → p i := fun i hi => absurd hi (Nat.not_lt_zero _)
  refine ⟨(hx.1), (hx.2), (⟨hP.1, 0, rfl, hP.2⟩), (⟨hF.1, 0, rfl, hF.2⟩), (⟨hS.1, 0, rfl, hS.2⟩), (⟨hT.1, 0, rfl, hT.2⟩), (⟨hX.1, hb.1, 0, (fun _ => 0), hX.2, hb.2, Nat.zero_le _, Or.inl rfl, fun _ _ => (by decide : fits .byte (.int 0) = true), fun i hi => absurd hi (Nat.not_lt_zero _), fun i hi => absurd hi (Nat.not_lt_zero _)⟩), (hN), (hN), (fun i hi => absurd hi (Nat.not_lt_zero _)), (fun i hi => absurd hi (Nat.not_lt_zero _)), (fun i hi => absurd hi (Nat.not_lt_zero _)), (fun i hi => absurd hi (Nat.not_lt_zero _)), (hne.1), (hne.2.1), (hne.2.2.1), (hne.2.2.2.1), (hne.2.2.2.2.1), (hne.2.2.2.2.2), (fun z e1 => (nomatch e1)), (fun z e1 => (nomatch e1)), (fun z e1 => (nomatch e1)), (fun z e1 => (nomatch e1)), (fun z e1 => (nomatch e1)), (fun z e1 => (nomatch e1)), (List.nodup_nil), (List.not_mem_nil), (List.not_mem_nil), (Nat.zero_le _), (Nat.zero_le _), (Nat.zero_le _), (rfl), (Nat.zero_le _), (Nat.zero_le _), (Nat.zero_le _), (rfl), (fun i hi => absurd hi (Nat.not_lt_zero _)), (fun _ _ _ => rfl), (fun i hi => absurd hi (Nat.not_lt_zero _)), (fun i hi => absurd hi (Nat.not_lt_zero _)), (⟨by decide, by decide, by decide⟩), (fun i hi => absurd hi (Nat.not_lt_zero _)), (fun i hi => absurd hi (Nat.not_lt_zero _)), (fun i hi => absurd hi (Nat.not_lt_zero _)), (fun i hi => absurd hi (Nat.not_lt_zero _)), (fun i hi => absurd hi (Nat.not_lt_zero _))⟩
/-- where a part's place stands with q drawers open -/
def yy_f (ps : Nat → ld_T) (py ou : Nat → Int64) (q i : Nat) : Int64 := if (ps i).2.2.2.2.1 = -1 then py i else if (ps i).2.2.2.2.1 < nI q then py i + ou i else py i
theorem yy_is {px py pz gr ou : Nat → Int64} {od : Nat → Int32} {dn i q : Nat} {ps : Nat → ld_T} (h : pr_ok px py pz gr ou od dn i (ps i)) (hq : q ≤ dn) (hd : dn ≤ 8) : yy_ok py ou od q i (yy_f ps py ou q i) := by
  obtain ⟨a1, a2, a3, a4, a5, a6, a7, a8, a9, a10⟩ := h
  unfold yy_f
  rcases a10 with ⟨b1, b2, b3⟩ | ⟨q0, b1, b2, b3, b4, b5⟩
  · rw [if_pos b1]
    refine ⟨fun z => ?_, fun _ => rfl⟩
    obtain ⟨j, h1, h2⟩ := z
    exact absurd h2 (b3 j (by omega))
  · have hn : ¬ (ps i).2.2.2.2.1 = -1 := by
      rw [b2]
      intro z
      have := nI_pos (n := q0) (by omega)
      rw [z] at this
      exact this (by decide)
    rw [if_neg hn, b2]
    rcases Nat.lt_or_ge q0 q with h9 | h9
    · rw [if_pos ((nI_ltI (by omega) (by omega)).mpr h9)]
      exact ⟨fun _ => rfl, fun z => absurd ⟨q0, h9, b3⟩ z⟩
    · rw [if_neg (fun z => absurd ((nI_ltI (by omega) (by omega)).mp z) (by omega))]
      refine ⟨fun z => ?_, fun _ => rfl⟩
      obtain ⟨j, h1, h2⟩ := z
      have := b5 j (by omega) h2
      omega
theorem mo_cong {m0 m1 : Int64} {f g : Nat → Int64} (h0 : m0 = m1) : ∀ n, (∀ i, i < n → f i = g i) → mo_sum m0 f n = mo_sum m1 g n := by
  intro n
  induction n with
  | zero => intro _; exact h0
  | succ n ih =>
    intro h
    show mo_sum m0 f n + f n = mo_sum m1 g n + g n
    rw [ih (fun i hi => h i (by omega)), h n (by omega)]
theorem mo_is {px py pz gr ou fx fy : Nat → Int64} {od : Nat → Int32} {dn np nf cn : Nat} {ps : Nat → ld_T} {fd : Nat → ft_T} {cf : Nat → Nat} (hP : ∀ i, i < np → pr_ok px py pz gr ou od dn i (ps i)) (hF : ∀ i, i < nf → fd i = (fx i, fy i) ∧ w_bd (fx i) ∧ w_bd (fy i)) {j : Nat} (ha : cf j < nf) (hb : cf (nxt cn j) < nf) (q : Nat) {dw : ld_T} {wx wy wg : Int64} (hw : dw.2.2.2.1 * ft_turn (fx (cf j)) (fy (cf j)) (fx (cf (nxt cn j))) (fy (cf (nxt cn j))) dw.1 dw.2.1 = wg * ft_turn (fx (cf j)) (fy (cf j)) (fx (cf (nxt cn j))) (fy (cf (nxt cn j))) wx wy) (hd : dw.2.2.2.2.1 = -1) : mo_of (fd (cf j)) (fd (cf (nxt cn j))) (nI q) dw ps np = rf_mom fx fy px gr (yy_f ps py ou q) cf cn np wx wy wg j := by
  unfold mo_of rf_mom
  rw [(hF _ ha).1, (hF _ hb).1]
  refine mo_cong ?_ np (fun i hi => ?_)
  · show dw.2.2.2.1 * ft_turn _ _ _ _ dw.1 (if dw.2.2.2.2.1 = -1 then dw.2.1 else if dw.2.2.2.2.1 < 0 then dw.2.1 + dw.2.2.2.2.2 else dw.2.1) = _
    rw [if_pos hd]
    exact hw
  · obtain ⟨a1, a2, a3, a4, a5, -⟩ := hP i hi
    show (ps i).2.2.2.1 * ft_turn _ _ _ _ (ps i).1 (if (ps i).2.2.2.2.1 = -1 then (ps i).2.1 else if (ps i).2.2.2.2.1 < nI q then (ps i).2.1 + (ps i).2.2.2.2.2 else (ps i).2.1) = gr i * wi_turn fx fy _ _ (px i) (yy_f ps py ou q i)
    rw [a1, a2, a4, a5]
    rfl
theorem vd_up {mom m2 : Nat → Int64} {n : Nat} (h : ∀ j, j < n → mom j = m2 j) : vd_at mom n = up_at m2 n 0 := by
  have key : ∀ k, k ≤ n → (vd_at mom (n - k) = 0 → vd_at mom n = up_at m2 k (n - k)) := by
    intro k
    induction k with
    | zero => intro _ hz; rw [Nat.sub_zero] at hz; rw [hz]; rfl
    | succ k ih =>
      intro hk hz
      show _ = if m2 (n - (k + 1)) < 0 then n - (k + 1) + 1 else up_at m2 k (n - (k + 1) + 1)
      rw [← h (n - (k + 1)) (by omega)]
      by_cases h9 : mom (n - (k + 1)) < 0
      · rw [if_pos h9]
        exact vd_stay hz h9 n (by omega)
      · rw [if_neg h9, show n - (k + 1) + 1 = n - k by omega]
        refine ih (by omega) ?_
        rw [show n - k = (n - (k + 1)) + 1 by omega]
        exact vd_succ hz h9
  have := key n (Nat.le_refl _)
  rw [Nat.sub_self] at this
  exact this rfl
