/-! THE RELATION: kept by part, person, drawer. -/
theorem ro_ne.sw {b1 b2 : Option Nat} (h : ro_ne b1 b2) : ro_ne b2 b1 := fun z h2 h1 => h z h1 h2
theorem ro_grown {G : gx_T} {L : List Nat} {f : Nat → va_E} {q : Nat} {b : Option Nat} {xs : List Nat} {v : Nat} {L1 : List Nat} {f1 : Nat → va_E} {b1 : Nat} (hg : cs_grown G L f q b xs v L1 f1 b1) {q2 : Nat} {b2 : Option Nat} {xs2 : List Nat} (h2 : ls_at G L f q2 b2 xs2) (h : ro_ne b b2) : ro_ne (some b1) b2 := by
  intro z e1 e2
  injection e1 with e1
  rcases hg.2.2.1 with h9 | h9
  · exact h b1 h9 (by rw [e1]; exact e2)
  · exact h9 (by rw [e1]; exact h2.row z e2)
def ld_snoc (ps : Nat → ld_T) (n : Nat) (d : ld_T) (i : Nat) : ld_T := if i = n then d else ps i
theorem ul_ne {g : Nat → Int64} {a b : Nat} {v : Int64} (h : ¬ b = a) : vp_updL g a v b = g b := by
  unfold vp_updL
  rw [if_neg h]
theorem ul_eq {g : Nat → Int64} {a : Nat} {v : Int64} : vp_updL g a v a = v := by
  unfold vp_updL
  rw [if_pos rfl]
theorem pr_ok.old {px py pz gr ou : Nat → Int64} {od : Nat → Int32} {dn i n : Nat} {d : ld_T} (h : pr_ok px py pz gr ou od dn i d) (hi : ¬ i = n) (a b c e : Int64) : pr_ok (vp_updL px n a) (vp_updL py n b) (vp_updL pz n c) (vp_updL gr n e) ou od dn i d := by
  unfold pr_ok at h ⊢
  rw [ul_ne hi, ul_ne hi, ul_ne hi, ul_ne hi]
  exact h
theorem pl_bd {a : Int64} (h : pl_ok a) : w_bd a := by
  obtain ⟨h1, h2⟩ := h
  rw [l_lt] at h1 h2
  have e1 : (-100000 : Int64).toInt = -100000 := by decide
  have e2 : (100000 : Int64).toInt = 100000 := by decide
  rw [e1] at h1
  rw [e2] at h2
  exact ⟨by omega, by omega⟩
theorem mem_L {L : List Nat} {f : Nat → va_E} {pa : List Nat} {ps : Nat → ld_T} (h : ∀ i (h : i < pa.length), ld_is L f pa[i] (ps i)) {a : Nat} (ha : a ∈ pa) : a ∈ L := by
  obtain ⟨i, hi, rfl⟩ := List.mem_iff_getElem.mp ha
  exact (h i hi).1
theorem nd_snoc {pa : List Nat} {q : Nat} (h : pa.Nodup) (hq : q ∉ pa) : (pa ++ [q]).Nodup := by
  refine List.nodup_append.mpr ⟨h, List.nodup_cons.mpr ⟨List.not_mem_nil, List.nodup_nil⟩, fun a ha b hb => ?_⟩
  rw [List.mem_singleton.mp hb]
  exact fun z => hq (by rw [← z]; exact ha)
theorem nm_snoc {pa : List Nat} {q a : Nat} (h : a ∉ pa) (hq : a ≠ q) : a ∉ pa ++ [q] := fun z => (List.mem_append.mp z).elim h (fun z2 => hq (List.mem_singleton.mp z2))
theorem tr_new.more {L0 L : List Nat} {f : Nat → va_E} {a q : Nat} {d : ld_T × Int32} (h : tr_new L0 L f a d) (hq : q ∉ L) : tr_new (L0 ++ [q]) L f a d := by
  obtain ⟨w, h0, h1, h2, h3, h4⟩ := h
  exact ⟨w, nm_snoc h0 (fun z => hq (by rw [← z]; exact h3)), h1, h2, h3, h4⟩
theorem rl_part {G : gx_T} {L : List Nat} {f : Nat → va_E} {x : Nat} {P F S X N T E : Nat} {dn : Nat} {bP : Option Nat} {pa : List Nat} {ps : Nat → ld_T} {bF : Option Nat} {fa : List Nat} {fd : Nat → ft_T} {bS : Option Nat} {sa : List Nat} {sd : Nat → sd_T} {b cap n : Nat} {t : Nat → Nat} {bT : Option Nat} {ta : List Nat} {ds : List rt_T} {ex ey eg : Int64} {cn : Nat} {cf : Nat → Nat} {px py pz gr ou fx fy : Nat → Int64} {od cr ty to_ : Nat → Int32} (h : rl_at G L f x P F S X N T E dn bP pa ps bF fa fd bS sa sd b cap n t bT ta ds ex ey eg cn cf px py pz gr ou fx fy od cr ty to_) (hlt : pa.length < 16) {x0 y0 z0 g0 : Int64} (hb : pl_ok x0 ∧ pl_ok y0 ∧ pl_ok z0 ∧ gm_ok g0) {L1 : List Nat} {f1 : Nat → va_E} {b1 q : Nat} (hgr : cs_grown G L f P bP pa q L1 f1 b1) (hq : ld_is L1 f1 q (x0, y0, z0, g0, -1, 0)) : rl_at G L1 f1 x P F S X N T E dn (some b1) (pa ++ [q]) (ld_snoc ps pa.length (x0, y0, z0, g0, -1, 0)) bF fa fd bS sa sd b cap n t bT ta ds ex ey eg cn cf (vp_updL px pa.length x0) (vp_updL py pa.length y0) (vp_updL pz pa.length z0) (vp_updL gr pa.length g0) ou fx fy od cr ty to_ := by
  obtain ⟨hx, fx0, lP, lF, lS, lT, tb, hN, hE, pP, pF, pS, pT, nPF, nPS, nPT, nFS, nFT, nST, rPF, rPS, rPT, rFS, rFT, rST, nd, Nn, En, p16, f12, t12, tl, n2, d8, c12, sl, rP, rO, rQ, rF, rE, rX, rT, rD, rC, rS⟩ := h
  have hs := hgr.2.2.2.1
  have hfr := hgr.2.2.2.2
  have k := lP.obk hs hfr
  have hql : q ∉ pa := fun z => hgr.2.1 (mem_L pP z)
  exact ⟨(hs x hx), (by rw [hfr x hx (lP.apart fx0 (by decide)).1 (lP.apart fx0 (by decide)).2]; exact fx0), (hgr.1), (lF.by hs lP hfr nPF.symm rPF.sw), (lS.by hs lP hfr nPS.symm rPS.sw), (lT.by hs lP hfr nPT.symm rPT.sw), (tb.by hs lP hfr), (hN.ob k), (hE.ob k), (fun i hi => by
    rcases Nat.lt_or_ge i pa.length with h9 | h9
    · rw [List.getElem_append_left h9, ld_snoc, if_neg (by omega)]
      exact (pP i h9).ob k
    · have e : i = pa.length := by rw [List.length_append, List.length_singleton] at hi; omega
      subst e
      rw [List.getElem_append_right h9, ld_snoc, if_pos rfl]
      simp only [Nat.sub_self, List.getElem_cons_zero]
      exact hq), (fun i hi => (pF i hi).ob k), (fun j hj => (pS j hj).ob k), (fun j hj => ((pT j hj).more hgr.2.1).ob k), nPF, nPS, nPT, nFS, nFT, nST, (ro_grown hgr lF rPF), (ro_grown hgr lS rPS), (ro_grown hgr lT rPT), rFS, rFT, rST, (nd_snoc nd hql), (nm_snoc Nn (fun z => hgr.2.1 (by rw [← z]; exact hN.1))), (nm_snoc En (fun z => hgr.2.1 (by rw [← z]; exact hE.1))), (by rw [List.length_append]; exact hlt), f12, t12, tl, n2, d8, c12, sl, (fun i hi => by
    rcases Nat.lt_or_ge i pa.length with h9 | h9
    · rw [ld_snoc, if_neg (by omega)]
      exact (rP i h9).old (by omega) _ _ _ _
    · have e : i = pa.length := by rw [List.length_append, List.length_singleton] at hi; omega
      subst e
      rw [ld_snoc, if_pos rfl]
      refine ⟨ul_eq.symm, ul_eq.symm, ul_eq.symm, ul_eq.symm, (rO _ (Nat.le_refl _) hlt).symm, by rw [ul_eq]; exact pl_bd hb.1, by rw [ul_eq]; exact pl_bd hb.2.1, by rw [ul_eq]; exact pl_bd hb.2.2.1, by rw [ul_eq]; exact hb.2.2.2, Or.inl ⟨rfl, rO _ (Nat.le_refl _) hlt, fun j hj z => ?_⟩⟩
      obtain ⟨i9, h1, h2⟩ := rQ j hj
      rw [h2] at z
      have := (nI_eq (by omega) (by omega)).mp z
      omega), (fun i h1 h2 => rO i (by rw [List.length_append] at h1; omega) h2), (fun j hj => by
    obtain ⟨i, h1, h2⟩ := rQ j hj
    exact ⟨i, by rw [List.length_append]; omega, h2⟩), rF, rE, rX, rT, rD, rC, rS⟩
theorem rl_person {G : gx_T} {L : List Nat} {f : Nat → va_E} {x : Nat} {P F S X N T E : Nat} {dn : Nat} {bP : Option Nat} {pa : List Nat} {ps : Nat → ld_T} {bF : Option Nat} {fa : List Nat} {fd : Nat → ft_T} {bS : Option Nat} {sa : List Nat} {sd : Nat → sd_T} {b cap n : Nat} {t : Nat → Nat} {bT : Option Nat} {ta : List Nat} {ds : List rt_T} {ex ey eg : Int64} {cn : Nat} {cf : Nat → Nat} {px py pz gr ou fx fy : Nat → Int64} {od cr ty to_ : Nat → Int32} (h : rl_at G L f x P F S X N T E dn bP pa ps bF fa fd bS sa sd b cap n t bT ta ds ex ey eg cn cf px py pz gr ou fx fy od cr ty to_) {x0 y0 g0 : Int64} (hb0 : pl_ok x0 ∧ pl_ok y0 ∧ gm_ok g0) {q : Nat} (hq : q ∉ L) : rl_at G (L ++ [q]) (va_up (va_up f q (.inr (6, [.long x0, .long y0, .long 0, .long g0, .int (-1), .long 0]))) x (.inr (10, [.ref P, .ref F, .ref S, .ref X, .ref N, .ref T, .ref q, .int (nI dn)]))) x P F S X N T q dn bP pa ps bF fa fd bS sa sd b cap n t bT ta ds x0 y0 g0 cn cf px py pz gr ou fx fy od cr ty to_ := by
  obtain ⟨hx, fx0, lP, lF, lS, lT, tb, hN, hE, pP, pF, pS, pT, nPF, nPS, nPT, nFS, nFT, nST, rPF, rPS, rPT, rFS, rFT, rST, nd, Nn, En, p16, f12, t12, tl, n2, d8, c12, sl, rP, rO, rQ, rF, rE, rX, rT, rD, rC, rS⟩ := h
  have hxq : x ≠ q := fun z => hq (by rw [← z]; exact hx)
  obtain ⟨f1, hf1⟩ : ∃ z, z = va_up (va_up f q (.inr (6, [.long x0, .long y0, .long 0, .long g0, .int (-1), .long 0]))) x (.inr (10, [.ref P, .ref F, .ref S, .ref X, .ref N, .ref T, .ref q, .int (nI dn)])) := ⟨_, rfl⟩
  rw [← hf1]
  have hs : ∀ a ∈ L, a ∈ L ++ [q] := fun a ha => List.mem_append_left _ ha
  have hfr : ∀ a ∈ L, a ≠ x → f1 a = f a := fun a ha hax => by rw [hf1, va_up_ne _ _ hax, va_up_ne _ _ (fun z => hq (by rw [← z]; exact ha))]
  have k : ob_kept L f (L ++ [q]) f1 := ⟨hs, fun a ha ci vs e1 h1 h2 => hfr a ha (gx_ne e1 fx0 (by intro e3; injection e3 with e3; injection e3 with e3; omega))⟩
  have hb : ∀ {q2 : Nat} {b2 : Option Nat} {x2 : List Nat}, ls_at G L f q2 b2 x2 → ls_at G (L ++ [q]) f1 q2 b2 x2 := fun h2 => h2.kept hs (hfr _ h2.1 (h2.apart fx0 (by decide)).1.symm) (fun b9 h9 => hfr b9 (h2.row b9 h9) (fun z => (h2.apart fx0 (by decide)).2 (by rw [← z, h9])))
  exact ⟨(hs x hx), (by rw [hf1, va_up_self]), (hb lP), (hb lF), (hb lS), (hb lT), (tb.kept hs (hfr _ tb.1 (gx_ne tb.2.2.choose_spec.choose_spec.1 fx0 (by simp))) (hfr _ tb.2.1 (gx_ne tb.2.2.choose_spec.choose_spec.2.1 fx0 (by simp)))), (hN.ob k), (⟨List.mem_append_right _ List.mem_cons_self, by rw [hf1, va_up_ne _ _ hxq.symm, va_up_self]⟩), (fun i hi => (pP i hi).ob k), (fun i hi => (pF i hi).ob k), (fun j hj => (pS j hj).ob k), (fun j hj => (pT j hj).ob k), nPF, nPS, nPT, nFS, nFT, nST, rPF, rPS, rPT, rFS, rFT, rST, nd, Nn, (fun z => hq (mem_L pP z)), p16, f12, t12, tl, n2, d8, c12, sl, rP, rO, rQ, rF, (⟨pl_bd hb0.1, pl_bd hb0.2.1, hb0.2.2⟩), rX, rT, rD, rC, rS⟩
