/-! THE LAW: drawer, person. -/
theorem dr_inv {np : Nat} {k : Int32} {o : Int64} (h : dr_code np k o = 0) : 0 < o := by
  unfold dr_code at h
  by_cases h1 : k < 0 ∨ ¬ k < nI np
  · rw [if_pos h1] at h
    exact absurd h (by decide)
  · rw [if_neg h1] at h
    by_cases h2 : in_rng 1 100000 o
    · have h3 := h2.1
      rw [l_lt] at h3 ⊢
      have e1 : (1 : Int64).toInt = 1 := by decide
      rw [e1] at h3
      rw [l_0]
      omega
    · rw [if_neg h2] at h
      exact absurd h (by decide)
theorem pe_inv {x y g : Int64} (h : pe_code x y g = 0) : pl_ok x ∧ pl_ok y ∧ gm_ok g := by
  unfold pe_code at h
  by_cases h2 : pl_ok x ∧ pl_ok y ∧ gm_ok g
  · exact h2
  · rw [if_neg h2] at h
    exact absurd h (by decide)
theorem pr_dr {px py pz gr ou : Nat → Int64} {od : Nat → Int32} {dn i : Nat} {d : ld_T} (h : pr_ok px py pz gr ou od dn i d) (hd : dn ≤ 8) : d.2.2.2.2.1 = -1 ↔ ¬ 0 < ou i := by
  obtain ⟨-, -, -, -, -, -, -, -, -, a10⟩ := h
  rcases a10 with ⟨b1, b2, -⟩ | ⟨q, b1, b2, b3, b4, -⟩
  · exact ⟨fun _ z => by rw [b2] at z; exact absurd z (by decide), fun _ => b1⟩
  · refine ⟨fun z => ?_, fun z => absurd b4 z⟩
    rw [b2] at z
    have := nI_pos (n := q) (by omega)
    rw [z] at this
    exact absurd (by decide) this
set_option maxRecDepth 100000 in
theorem pr_drawer_0 {G : gx_T} {L : List Nat} {f : Nat → va_E} {x ow oD : Nat} {ad : Nat → Nat} {P F S X N T E : Nat} {dn : Nat} {bP : Option Nat} {pa : List Nat} {ps : Nat → ld_T} {bF : Option Nat} {fa : List Nat} {fd : Nat → ft_T} {bS : Option Nat} {sa : List Nat} {sd : Nat → sd_T} {b cap n : Nat} {t : Nat → Nat} {bT : Option Nat} {ta : List Nat} {ds : List rt_T} {ex ey eg : Int64} {cn : Nat} {cf : Nat → Nat} {px py pz gr ou fx fy : Nat → Int64} {od cr ty to_ : Nat → Int32} {cd at0 fl : Int32} {dr : Nat → Int32} {p0 : Int32} {p1 : Int64} (hrl : rl_at G L f x P F S X N T E dn bP pa ps bF fa fd bS sa sd b cap n t bT ta ds ex ey eg cn cf px py pz gr ou fx fy od cr ty to_) {u M : va_W} {v : Option Value}  {r : Int32} (hpo : (fun (v : Option Value) (u : va_W) => dr_code pa.length p0 p1 = 0 ∧ ∃ (j : Nat) (hj : j < pa.length), p0 = nI j ∧ ((v = some (.int 0) ∧ u = va_pl L f ∧ (¬ (nI dn) < 8 ∨ ¬ (ps j).2.2.2.2.1 = -1)) ∨ (v = some (.int 1) ∧ (nI dn) < 8 ∧ (ps j).2.2.2.2.1 = -1 ∧ ∃ f2 : Nat → va_E, u = va_pl L f2 ∧ f2 pa[j] = .inr (6, [.long ((ps j).1), .long ((ps j).2.1), .long ((ps j).2.2.1), .long ((ps j).2.2.2.1), .int (nI dn), .long p1]) ∧ f2 x = .inr (10, [.ref P, .ref F, .ref S, .ref X, .ref N, .ref T, .ref E, .int ((nI dn) + 1)]) ∧ ∀ a, a ≠ pa[j] → a ≠ x → f2 a = f a))) (some (.int r)) u) (hm : (fun (v : Option Value) (u : va_W) => (dr_code pa.length p0 p1 = 0 ∧ ∃ k : Nat, p0 = nI k ∧ k < pa.length ∧ (((dn = 8 ∨ 0 < ou k) ∧ v = some (.int 0) ∧ u = [(ad 0, .inr (11, [.int 0, .int (nI pa.length), .ref (ad 1), .ref (ad 2), .ref (ad 3), .ref (ad 4), .ref (ad 5), .int (nI fa.length), .ref (ad 6), .ref (ad 7), .int (nI dn), .ref (ad 8), .long ex, .long ey, .long eg, .int (nI cn), .ref (ad 9), .ref (ad 10), .int (nI n), .int at0, .int fl, .int (nI ds.length), .ref (ad 11), .ref (ad 12)])), (ad 1, .inl (G.2.1 2, 16, .inr (.inl px))), (ad 2, .inl (G.2.1 2, 16, .inr (.inl py))), (ad 3, .inl (G.2.1 2, 16, .inr (.inl pz))), (ad 4, .inl (G.2.1 2, 16, .inr (.inl gr))), (ad 5, .inl (G.2.1 2, 16, .inr (.inl ou))), (ad 6, .inl (G.2.1 2, 12, .inr (.inl fx))), (ad 7, .inl (G.2.1 2, 12, .inr (.inl fy))), (ad 8, .inl (G.2.1 1, 8, .inl od)), (ad 9, .inl (G.2.1 1, 12, .inl cr)), (ad 10, .inl (G.2.1 1, 200, .inl ty)), (ad 11, .inl (G.2.1 1, 48, .inl to_)), (ad 12, .inl (G.2.1 1, 48, .inl dr))]) ∨ (dn < 8 ∧ ¬ 0 < ou k ∧ v = some (.int 1) ∧ u = [(ad 0, .inr (11, [.int 0, .int (nI pa.length), .ref (ad 1), .ref (ad 2), .ref (ad 3), .ref (ad 4), .ref (ad 5), .int (nI fa.length), .ref (ad 6), .ref (ad 7), .int (nI (dn + 1)), .ref (ad 8), .long ex, .long ey, .long eg, .int (nI cn), .ref (ad 9), .ref (ad 10), .int (nI n), .int at0, .int fl, .int (nI ds.length), .ref (ad 11), .ref (ad 12)])), (ad 1, .inl (G.2.1 2, 16, .inr (.inl px))), (ad 2, .inl (G.2.1 2, 16, .inr (.inl py))), (ad 3, .inl (G.2.1 2, 16, .inr (.inl pz))), (ad 4, .inl (G.2.1 2, 16, .inr (.inl gr))), (ad 5, .inl (G.2.1 2, 16, .inr (.inl (vp_updL ou k p1)))), (ad 6, .inl (G.2.1 2, 12, .inr (.inl fx))), (ad 7, .inl (G.2.1 2, 12, .inr (.inl fy))), (ad 8, .inl (G.2.1 1, 8, .inl (upd od dn (nI k)))), (ad 9, .inl (G.2.1 1, 12, .inl cr)), (ad 10, .inl (G.2.1 1, 200, .inl ty)), (ad 11, .inl (G.2.1 1, 48, .inl to_)), (ad 12, .inl (G.2.1 1, 48, .inl dr))]))) ∨ (¬ dr_code pa.length p0 p1 = 0 ∧ v = some (.int 0) ∧ u = [(ad 0, .inr (11, [.int (dr_code pa.length p0 p1), .int (nI pa.length), .ref (ad 1), .ref (ad 2), .ref (ad 3), .ref (ad 4), .ref (ad 5), .int (nI fa.length), .ref (ad 6), .ref (ad 7), .int (nI dn), .ref (ad 8), .long ex, .long ey, .long eg, .int (nI cn), .ref (ad 9), .ref (ad 10), .int (nI n), .int at0, .int fl, .int (nI ds.length), .ref (ad 11), .ref (ad 12)])), (ad 1, .inl (G.2.1 2, 16, .inr (.inl px))), (ad 2, .inl (G.2.1 2, 16, .inr (.inl py))), (ad 3, .inl (G.2.1 2, 16, .inr (.inl pz))), (ad 4, .inl (G.2.1 2, 16, .inr (.inl gr))), (ad 5, .inl (G.2.1 2, 16, .inr (.inl ou))), (ad 6, .inl (G.2.1 2, 12, .inr (.inl fx))), (ad 7, .inl (G.2.1 2, 12, .inr (.inl fy))), (ad 8, .inl (G.2.1 1, 8, .inl od)), (ad 9, .inl (G.2.1 1, 12, .inl cr)), (ad 10, .inl (G.2.1 1, 200, .inl ty)), (ad 11, .inl (G.2.1 1, 48, .inl to_)), (ad 12, .inl (G.2.1 1, 48, .inl dr))])) v M) : ∃ bb : Int32, v = some (.int bb) ∧ r = bb ∧ lw_out G x ow oD ad 0 u M := by
  have d8 := hrl.2.2.2.2.2.2.2.2.2.2.2.2.2.2.2.2.2.2.2.2.2.2.2.2.2.2.2.2.2.2.2.2.2.1
  have p16 := hrl.2.2.2.2.2.2.2.2.2.2.2.2.2.2.2.2.2.2.2.2.2.2.2.2.2.2.2.2.1
  obtain ⟨hc, j, hj, rfl, ha⟩ := hpo
  have hp := pr_dr (hrl.2.2.2.2.2.2.2.2.2.2.2.2.2.2.2.2.2.2.2.2.2.2.2.2.2.2.2.2.2.2.2.2.2.2.2.2.1 j hj) d8
  rcases hm with ⟨-, k, hk0, hkp, hb⟩ | ⟨h1, -, -⟩
  · have ejk : k = j := (nI_eq (by omega) (by omega)).mp hk0.symm
    subst ejk
    rcases ha with ⟨e1, rfl, hn⟩ | ⟨e1, hlt, hd, f2, rfl, hf1, hf2, hfr⟩
    · rcases hb with ⟨-, rfl, rfl⟩ | ⟨h2, h3, -, -⟩
      · injection e1 with e1
        injection e1 with e1
        exact ⟨_, rfl, e1, ⟨(0), pa.length, fa.length, dn, cn, n, ds.length, ex, ey, eg, at0, fl, px, py, pz, gr, ou, fx, fy, od, cr, ty, to_, dr, rfl, rfl, fun g gD => ⟨L, f, P, F, S, X, N, T, E, dn, bP, pa, ps, bF, fa, fd, bS, sa, sd, b, cap, n, t, bT, ta, ds, ex, ey, eg, cn, cf, px, py, pz, gr, ou, fx, fy, od, cr, ty, to_, _, at0, fl, dr, g, gD, rfl, hrl⟩⟩⟩
      · rcases hn with hn | hn
        · exact absurd ((nI_ltI (b := 8) (by omega) (by decide)).mpr h2) hn
        · exact absurd (hp.mpr h3) hn
    · have hd8 : dn < 8 := (nI_ltI (b := 8) (by omega) (by decide)).mp hlt
      rcases hb with ⟨h2, -, -⟩ | ⟨h2, h3, rfl, rfl⟩
      · rcases h2 with h2 | h2
        · omega
        · exact absurd h2 (hp.mp hd)
      · injection e1 with e1
        injection e1 with e1
        exact ⟨_, rfl, e1, ⟨(0), pa.length, fa.length, (dn + 1), cn, n, ds.length, ex, ey, eg, at0, fl, px, py, pz, gr, (vp_updL ou k p1), fx, fy, (upd od dn (nI k)), cr, ty, to_, dr, rfl, rfl, fun g gD => ⟨L, f2, P, F, S, X, N, T, E, (dn + 1), bP, pa, (ld_put ps k ((ps k).1, (ps k).2.1, (ps k).2.2.1, (ps k).2.2.2.1, nI dn, p1)), bF, fa, fd, bS, sa, sd, b, cap, n, t, bT, ta, ds, ex, ey, eg, cn, cf, px, py, pz, gr, (vp_updL ou k p1), fx, fy, (upd od dn (nI k)), cr, ty, to_, _, at0, fl, dr, g, gD, rfl, rl_drawer hrl hkp (by omega) (dr_inv hc) hd hf1 (by rw [← nI_1]; exact hf2) hfr⟩⟩⟩
  · exact absurd hc h1
set_option maxRecDepth 100000 in
theorem pr_drawer_1 {G : gx_T} {L : List Nat} {f : Nat → va_E} {x ow oD : Nat} {ad : Nat → Nat} {P F S X N T E : Nat} {dn : Nat} {bP : Option Nat} {pa : List Nat} {ps : Nat → ld_T} {bF : Option Nat} {fa : List Nat} {fd : Nat → ft_T} {bS : Option Nat} {sa : List Nat} {sd : Nat → sd_T} {b cap n : Nat} {t : Nat → Nat} {bT : Option Nat} {ta : List Nat} {ds : List rt_T} {ex ey eg : Int64} {cn : Nat} {cf : Nat → Nat} {px py pz gr ou fx fy : Nat → Int64} {od cr ty to_ : Nat → Int32} {cd at0 fl : Int32} {dr : Nat → Int32} {p0 : Int32} {p1 : Int64} (hrl : rl_at G L f x P F S X N T E dn bP pa ps bF fa fd bS sa sd b cap n t bT ta ds ex ey eg cn cf px py pz gr ou fx fy od cr ty to_) {u M : va_W} {v : Option Value}  (hpo : (fun (Ex : String) (u : va_W) => u = va_pl L f ∧ px2 gx_E3 gx_E2 (dr_code pa.length p0 p1) Ex) gx_E3 u) (hm : (fun (v : Option Value) (u : va_W) => (dr_code pa.length p0 p1 = 0 ∧ ∃ k : Nat, p0 = nI k ∧ k < pa.length ∧ (((dn = 8 ∨ 0 < ou k) ∧ v = some (.int 0) ∧ u = [(ad 0, .inr (11, [.int 0, .int (nI pa.length), .ref (ad 1), .ref (ad 2), .ref (ad 3), .ref (ad 4), .ref (ad 5), .int (nI fa.length), .ref (ad 6), .ref (ad 7), .int (nI dn), .ref (ad 8), .long ex, .long ey, .long eg, .int (nI cn), .ref (ad 9), .ref (ad 10), .int (nI n), .int at0, .int fl, .int (nI ds.length), .ref (ad 11), .ref (ad 12)])), (ad 1, .inl (G.2.1 2, 16, .inr (.inl px))), (ad 2, .inl (G.2.1 2, 16, .inr (.inl py))), (ad 3, .inl (G.2.1 2, 16, .inr (.inl pz))), (ad 4, .inl (G.2.1 2, 16, .inr (.inl gr))), (ad 5, .inl (G.2.1 2, 16, .inr (.inl ou))), (ad 6, .inl (G.2.1 2, 12, .inr (.inl fx))), (ad 7, .inl (G.2.1 2, 12, .inr (.inl fy))), (ad 8, .inl (G.2.1 1, 8, .inl od)), (ad 9, .inl (G.2.1 1, 12, .inl cr)), (ad 10, .inl (G.2.1 1, 200, .inl ty)), (ad 11, .inl (G.2.1 1, 48, .inl to_)), (ad 12, .inl (G.2.1 1, 48, .inl dr))]) ∨ (dn < 8 ∧ ¬ 0 < ou k ∧ v = some (.int 1) ∧ u = [(ad 0, .inr (11, [.int 0, .int (nI pa.length), .ref (ad 1), .ref (ad 2), .ref (ad 3), .ref (ad 4), .ref (ad 5), .int (nI fa.length), .ref (ad 6), .ref (ad 7), .int (nI (dn + 1)), .ref (ad 8), .long ex, .long ey, .long eg, .int (nI cn), .ref (ad 9), .ref (ad 10), .int (nI n), .int at0, .int fl, .int (nI ds.length), .ref (ad 11), .ref (ad 12)])), (ad 1, .inl (G.2.1 2, 16, .inr (.inl px))), (ad 2, .inl (G.2.1 2, 16, .inr (.inl py))), (ad 3, .inl (G.2.1 2, 16, .inr (.inl pz))), (ad 4, .inl (G.2.1 2, 16, .inr (.inl gr))), (ad 5, .inl (G.2.1 2, 16, .inr (.inl (vp_updL ou k p1)))), (ad 6, .inl (G.2.1 2, 12, .inr (.inl fx))), (ad 7, .inl (G.2.1 2, 12, .inr (.inl fy))), (ad 8, .inl (G.2.1 1, 8, .inl (upd od dn (nI k)))), (ad 9, .inl (G.2.1 1, 12, .inl cr)), (ad 10, .inl (G.2.1 1, 200, .inl ty)), (ad 11, .inl (G.2.1 1, 48, .inl to_)), (ad 12, .inl (G.2.1 1, 48, .inl dr))]))) ∨ (¬ dr_code pa.length p0 p1 = 0 ∧ v = some (.int 0) ∧ u = [(ad 0, .inr (11, [.int (dr_code pa.length p0 p1), .int (nI pa.length), .ref (ad 1), .ref (ad 2), .ref (ad 3), .ref (ad 4), .ref (ad 5), .int (nI fa.length), .ref (ad 6), .ref (ad 7), .int (nI dn), .ref (ad 8), .long ex, .long ey, .long eg, .int (nI cn), .ref (ad 9), .ref (ad 10), .int (nI n), .int at0, .int fl, .int (nI ds.length), .ref (ad 11), .ref (ad 12)])), (ad 1, .inl (G.2.1 2, 16, .inr (.inl px))), (ad 2, .inl (G.2.1 2, 16, .inr (.inl py))), (ad 3, .inl (G.2.1 2, 16, .inr (.inl pz))), (ad 4, .inl (G.2.1 2, 16, .inr (.inl gr))), (ad 5, .inl (G.2.1 2, 16, .inr (.inl ou))), (ad 6, .inl (G.2.1 2, 12, .inr (.inl fx))), (ad 7, .inl (G.2.1 2, 12, .inr (.inl fy))), (ad 8, .inl (G.2.1 1, 8, .inl od)), (ad 9, .inl (G.2.1 1, 12, .inl cr)), (ad 10, .inl (G.2.1 1, 200, .inl ty)), (ad 11, .inl (G.2.1 1, 48, .inl to_)), (ad 12, .inl (G.2.1 1, 48, .inl dr))])) v M) : ∃ bb : Int32, v = some (.int bb) ∧ True ∧ lw_out G x ow oD ad 1 u M := by
  obtain ⟨rfl, hp⟩ := hpo
  have hc := px2_c1 hp (by decide)
  rcases hm with ⟨h1, -⟩ | ⟨-, rfl, rfl⟩
  · rw [hc] at h1
    exact absurd h1 (by decide)
  · exact ⟨_, rfl, trivial, ⟨((dr_code pa.length p0 p1)), pa.length, fa.length, dn, cn, n, ds.length, ex, ey, eg, at0, fl, px, py, pz, gr, ou, fx, fy, od, cr, ty, to_, dr, rfl, hc, fun g gD => ⟨L, f, P, F, S, X, N, T, E, dn, bP, pa, ps, bF, fa, fd, bS, sa, sd, b, cap, n, t, bT, ta, ds, ex, ey, eg, cn, cf, px, py, pz, gr, ou, fx, fy, od, cr, ty, to_, _, at0, fl, dr, g, gD, rfl, hrl⟩⟩⟩
set_option maxRecDepth 100000 in
theorem pr_drawer_2 {G : gx_T} {L : List Nat} {f : Nat → va_E} {x ow oD : Nat} {ad : Nat → Nat} {P F S X N T E : Nat} {dn : Nat} {bP : Option Nat} {pa : List Nat} {ps : Nat → ld_T} {bF : Option Nat} {fa : List Nat} {fd : Nat → ft_T} {bS : Option Nat} {sa : List Nat} {sd : Nat → sd_T} {b cap n : Nat} {t : Nat → Nat} {bT : Option Nat} {ta : List Nat} {ds : List rt_T} {ex ey eg : Int64} {cn : Nat} {cf : Nat → Nat} {px py pz gr ou fx fy : Nat → Int64} {od cr ty to_ : Nat → Int32} {cd at0 fl : Int32} {dr : Nat → Int32} {p0 : Int32} {p1 : Int64} (hrl : rl_at G L f x P F S X N T E dn bP pa ps bF fa fd bS sa sd b cap n t bT ta ds ex ey eg cn cf px py pz gr ou fx fy od cr ty to_) {u M : va_W} {v : Option Value}  (hpo : (fun (Ex : String) (u : va_W) => u = va_pl L f ∧ px2 gx_E3 gx_E2 (dr_code pa.length p0 p1) Ex) gx_E2 u) (hm : (fun (v : Option Value) (u : va_W) => (dr_code pa.length p0 p1 = 0 ∧ ∃ k : Nat, p0 = nI k ∧ k < pa.length ∧ (((dn = 8 ∨ 0 < ou k) ∧ v = some (.int 0) ∧ u = [(ad 0, .inr (11, [.int 0, .int (nI pa.length), .ref (ad 1), .ref (ad 2), .ref (ad 3), .ref (ad 4), .ref (ad 5), .int (nI fa.length), .ref (ad 6), .ref (ad 7), .int (nI dn), .ref (ad 8), .long ex, .long ey, .long eg, .int (nI cn), .ref (ad 9), .ref (ad 10), .int (nI n), .int at0, .int fl, .int (nI ds.length), .ref (ad 11), .ref (ad 12)])), (ad 1, .inl (G.2.1 2, 16, .inr (.inl px))), (ad 2, .inl (G.2.1 2, 16, .inr (.inl py))), (ad 3, .inl (G.2.1 2, 16, .inr (.inl pz))), (ad 4, .inl (G.2.1 2, 16, .inr (.inl gr))), (ad 5, .inl (G.2.1 2, 16, .inr (.inl ou))), (ad 6, .inl (G.2.1 2, 12, .inr (.inl fx))), (ad 7, .inl (G.2.1 2, 12, .inr (.inl fy))), (ad 8, .inl (G.2.1 1, 8, .inl od)), (ad 9, .inl (G.2.1 1, 12, .inl cr)), (ad 10, .inl (G.2.1 1, 200, .inl ty)), (ad 11, .inl (G.2.1 1, 48, .inl to_)), (ad 12, .inl (G.2.1 1, 48, .inl dr))]) ∨ (dn < 8 ∧ ¬ 0 < ou k ∧ v = some (.int 1) ∧ u = [(ad 0, .inr (11, [.int 0, .int (nI pa.length), .ref (ad 1), .ref (ad 2), .ref (ad 3), .ref (ad 4), .ref (ad 5), .int (nI fa.length), .ref (ad 6), .ref (ad 7), .int (nI (dn + 1)), .ref (ad 8), .long ex, .long ey, .long eg, .int (nI cn), .ref (ad 9), .ref (ad 10), .int (nI n), .int at0, .int fl, .int (nI ds.length), .ref (ad 11), .ref (ad 12)])), (ad 1, .inl (G.2.1 2, 16, .inr (.inl px))), (ad 2, .inl (G.2.1 2, 16, .inr (.inl py))), (ad 3, .inl (G.2.1 2, 16, .inr (.inl pz))), (ad 4, .inl (G.2.1 2, 16, .inr (.inl gr))), (ad 5, .inl (G.2.1 2, 16, .inr (.inl (vp_updL ou k p1)))), (ad 6, .inl (G.2.1 2, 12, .inr (.inl fx))), (ad 7, .inl (G.2.1 2, 12, .inr (.inl fy))), (ad 8, .inl (G.2.1 1, 8, .inl (upd od dn (nI k)))), (ad 9, .inl (G.2.1 1, 12, .inl cr)), (ad 10, .inl (G.2.1 1, 200, .inl ty)), (ad 11, .inl (G.2.1 1, 48, .inl to_)), (ad 12, .inl (G.2.1 1, 48, .inl dr))]))) ∨ (¬ dr_code pa.length p0 p1 = 0 ∧ v = some (.int 0) ∧ u = [(ad 0, .inr (11, [.int (dr_code pa.length p0 p1), .int (nI pa.length), .ref (ad 1), .ref (ad 2), .ref (ad 3), .ref (ad 4), .ref (ad 5), .int (nI fa.length), .ref (ad 6), .ref (ad 7), .int (nI dn), .ref (ad 8), .long ex, .long ey, .long eg, .int (nI cn), .ref (ad 9), .ref (ad 10), .int (nI n), .int at0, .int fl, .int (nI ds.length), .ref (ad 11), .ref (ad 12)])), (ad 1, .inl (G.2.1 2, 16, .inr (.inl px))), (ad 2, .inl (G.2.1 2, 16, .inr (.inl py))), (ad 3, .inl (G.2.1 2, 16, .inr (.inl pz))), (ad 4, .inl (G.2.1 2, 16, .inr (.inl gr))), (ad 5, .inl (G.2.1 2, 16, .inr (.inl ou))), (ad 6, .inl (G.2.1 2, 12, .inr (.inl fx))), (ad 7, .inl (G.2.1 2, 12, .inr (.inl fy))), (ad 8, .inl (G.2.1 1, 8, .inl od)), (ad 9, .inl (G.2.1 1, 12, .inl cr)), (ad 10, .inl (G.2.1 1, 200, .inl ty)), (ad 11, .inl (G.2.1 1, 48, .inl to_)), (ad 12, .inl (G.2.1 1, 48, .inl dr))])) v M) : ∃ bb : Int32, v = some (.int bb) ∧ True ∧ lw_out G x ow oD ad 2 u M := by
  obtain ⟨rfl, hp⟩ := hpo
  have hc := px2_c2 hp (by decide)
  rcases hm with ⟨h1, -⟩ | ⟨-, rfl, rfl⟩
  · rw [hc] at h1
    exact absurd h1 (by decide)
  · exact ⟨_, rfl, trivial, ⟨((dr_code pa.length p0 p1)), pa.length, fa.length, dn, cn, n, ds.length, ex, ey, eg, at0, fl, px, py, pz, gr, ou, fx, fy, od, cr, ty, to_, dr, rfl, hc, fun g gD => ⟨L, f, P, F, S, X, N, T, E, dn, bP, pa, ps, bF, fa, fd, bS, sa, sd, b, cap, n, t, bT, ta, ds, ex, ey, eg, cn, cf, px, py, pz, gr, ou, fx, fy, od, cr, ty, to_, _, at0, fl, dr, g, gD, rfl, hrl⟩⟩⟩
set_option maxHeartbeats 8000000 in
set_option maxRecDepth 100000 in
theorem lc_drawer {l : Launch} (hfl : l.flags = flags0) {p : Program} {e : Env} {R : Room} {s : State} {m : MethodId} {below : List Frame} {meth : Method} {c : Code} {A : Nat → Prop} {G : gx_T} {b0 Ls : Nat} {xs : Nat → Int32} {x ow oD : Nat} {ad : Nat → Nat} {H : Heap} {locs : List Loc} {cells slots : Nat} {Q : State → Prop} {ls : Array Slot} {i : Nat} {ws : va_W} (C : gx_C G p s m #[Value.ref b0] meth c cL_law 9 RL A) (hX : va_X b0 Ls xs s s.heap) (hbl : b0 < s.heap.size) (hbA : ¬ A b0) (hi : i + 9 ≤ Ls) (hLs : Ls ≤ 4608) (hR : 100 ≤ R.frames ∧ 4000 ≤ R.locals ∧ cells + 64 ≤ R.cells ∧ slots + 2000 ≤ R.slots) (hinv : lw_inv G x ow oD ad ws) (hW : gx_W G A s ws H locs) (hl : lv_has ls 9 [(5, .int (nI i)), (4, .ref oD), (3, .ref ow), (2, .ref (ad 0)), (1, .ref x), (0, .ref b0)]) (kk : ∀ (ws2 : va_W) (H2 : Heap) (locs2 : List Loc) (ls2 : Array Slot), lw_inv G x ow oD ad ws2 → gx_W G A s ws2 H2 locs2 → lv_has ls2 9 [(5, .int (nI i)), (4, .ref oD), (3, .ref ow), (2, .ref (ad 0)), (1, .ref x), (0, .ref b0)] → W p l e R s m #[Value.ref b0] below meth c H2 locs2 (cells + 64) (slots + 2000) Q (F0 m 1766 ls2 [])) : W p l e R s m #[Value.ref b0] below meth c H locs cells slots Q (F0 m 493 ls []) := by
  have gX := C.x
  have gB := C.b
  obtain ⟨L, f, P, F, S, X, N, T, E, dn, bP, pa, ps, bF, fa, fd, bS, sa, sd, b, cap, n, t, bT, ta, ds, ex, ey, eg, cn, cf, px, py, pz, gr, ou, fx, fy, od, cr, ty, to_, cd, at0, fl, dr, g, gD, rfl, hrl⟩ := hinv
  obtain ⟨hx, fx0, lP, lF, lS, lT, tb, hN, hE, pP, pF, pS, pT, nPF, nPS, nPT, nFS, nFT, nST, rPF, rPS, rPT, rFS, rFT, rST, nd, Nn, En, p16, f12, t12, tl, n2, d8, c12, sl, rP, rO, rQ, rF, rE, rX, rT, rD, rC, rS⟩ := id hrl
  refine lv_aload_n gX gB dL_law_493 rfl (lv_at hl 4 rfl) ?_
  refine lv_aload_n gX gB dL_law_494 rfl (lv_at hl 5 rfl) ?_
  refine lv_iload gX gB dL_law_495 (lv_at hl 0 rfl) ?_
  refine lv_iconst (v := 1) gX gB dL_law_497 (by decide) ?_
  refine lv_iadd gX gB dL_law_498 ?_
  refine gx_topi (show ((nI i) + 1) = nI (i + 1) from nI_add i 1) ?_
  refine va_sld C.x C.b hX hbl hbA hW.2.2 (nI_in (by omega) (by omega)) dL_law_499 ?_
  refine gx_topi (show xs (nI (i + 1)).toNatClampNeg = xs (i + 1) from by rw [nI_clamp (by omega)]) ?_
  refine lv_aload_n gX gB dL_law_500 rfl (lv_at hl 5 rfl) ?_
  refine lv_iload gX gB dL_law_501 (lv_at hl 0 rfl) ?_
  refine lv_iconst (v := 2) gX gB dL_law_503 (by decide) ?_
  refine lv_iadd gX gB dL_law_504 ?_
  refine gx_topi (show ((nI i) + 2) = nI (i + 2) from nI_add i 2) ?_
  refine va_sld C.x C.b hX hbl hbA hW.2.2 (nI_in (by omega) (by omega)) dL_law_505 ?_
  refine gx_topi (show xs (nI (i + 2)).toNatClampNeg = xs (i + 2) from by rw [nI_clamp (by omega)]) ?_
  refine lv_i2l gX gB dL_law_506 rfl ?_
  refine lv_bipush (v := 32) gX gB dL_law_507 (by decide) ?_
  refine lv_lshl gX gB dL_law_509 rfl ?_
  refine lv_aload_n gX gB dL_law_510 rfl (lv_at hl 5 rfl) ?_
  refine lv_iload gX gB dL_law_511 (lv_at hl 0 rfl) ?_
  refine lv_iconst (v := 3) gX gB dL_law_513 (by decide) ?_
  refine lv_iadd gX gB dL_law_514 ?_
  refine gx_topi (show ((nI i) + 3) = nI (i + 3) from nI_add i 3) ?_
  refine va_sld C.x C.b hX hbl hbA hW.2.2 (nI_in (by omega) (by omega)) dL_law_515 ?_
  refine gx_topi (show xs (nI (i + 3)).toNatClampNeg = xs (i + 3) from by rw [nI_clamp (by omega)]) ?_
  refine lv_i2l gX gB dL_law_516 rfl ?_
  refine gx_ldc2 (v := 4294967295) C (tq_6 2 (by decide +kernel) rfl) dL_law_517 ?_
  refine lv_land gX gB dL_law_520 ?_
  refine lv_lor gX gB dL_law_521 ?_
  refine gx_topl (show ((((xs (i + 2)).toInt64) <<< ((32 : Int32).toInt64 &&& 63)) ||| (((xs (i + 3)).toInt64) &&& 4294967295)) = sc_l xs (i + 2) from rfl) ?_
  refine lv_aload_n gX gB dL_law_522 rfl (lv_at hl 2 rfl) ?_
  refine gx_callSH (wr := [(oD, .inl (G.2.1 4, 1, .inr (.inr (.inr (.inl gD))))), (ad 0, .inr (11, [.int cd, .int (nI pa.length), .ref (ad 1), .ref (ad 2), .ref (ad 3), .ref (ad 4), .ref (ad 5), .int (nI fa.length), .ref (ad 6), .ref (ad 7), .int (nI dn), .ref (ad 8), .long ex, .long ey, .long eg, .int (nI cn), .ref (ad 9), .ref (ad 10), .int (nI n), .int at0, .int fl, .int (nI ds.length), .ref (ad 11), .ref (ad 12)])), (ad 1, .inl (G.2.1 2, 16, .inr (.inl px))), (ad 2, .inl (G.2.1 2, 16, .inr (.inl py))), (ad 3, .inl (G.2.1 2, 16, .inr (.inl pz))), (ad 4, .inl (G.2.1 2, 16, .inr (.inl gr))), (ad 5, .inl (G.2.1 2, 16, .inr (.inl ou))), (ad 6, .inl (G.2.1 2, 12, .inr (.inl fx))), (ad 7, .inl (G.2.1 2, 12, .inr (.inl fy))), (ad 8, .inl (G.2.1 1, 8, .inl od)), (ad 9, .inl (G.2.1 1, 12, .inl cr)), (ad 10, .inl (G.2.1 1, 200, .inl ty)), (ad 11, .inl (G.2.1 1, 48, .inl to_)), (ad 12, .inl (G.2.1 1, 48, .inl dr))]) (rest := []) C hW sLH_88 (kL_drawer l G L f x _ hx fx0 ow g (xs (i + 1)) (sc_l xs (i + 2)) _ _ (kX5_drawer l hfl G L f x P F S X N T E (nI dn) hx fx0 bP pa ps lP pP (xs (i + 1)) (sc_l xs (i + 2))) (fun v u h => h.2.elim (fun j z => z.elim (fun hj z2 => z2.2.elim (fun w => ⟨_, w.1⟩) (fun w => ⟨_, w.1⟩)))) (fun E u h => h.2.imp (fun z => z.1) (fun z => z.1))) rfl ⟨(by dsimp only; omega), (by dsimp only; omega)⟩ hl.1 rfl (Nat.le_of_ble_eq_true rfl) dL_law_523 ⟨(by dsimp only; omega), (by dsimp only; omega)⟩ (fun v9 u9 H locs hp hW => ?_)
  rcases hp with ⟨r, u, hpo, rfl, rfl⟩ | ⟨u, hpx9, rfl, rfl⟩ | ⟨u, hpx9, rfl, rfl⟩
  · have hW : gx_W G A s ([(oD, .inl (G.2.1 4, 1, .inr (.inr (.inr (.inl gD))))), (ad 0, .inr (11, [.int cd, .int (nI pa.length), .ref (ad 1), .ref (ad 2), .ref (ad 3), .ref (ad 4), .ref (ad 5), .int (nI fa.length), .ref (ad 6), .ref (ad 7), .int (nI dn), .ref (ad 8), .long ex, .long ey, .long eg, .int (nI cn), .ref (ad 9), .ref (ad 10), .int (nI n), .int at0, .int fl, .int (nI ds.length), .ref (ad 11), .ref (ad 12)])), (ad 1, .inl (G.2.1 2, 16, .inr (.inl px))), (ad 2, .inl (G.2.1 2, 16, .inr (.inl py))), (ad 3, .inl (G.2.1 2, 16, .inr (.inl pz))), (ad 4, .inl (G.2.1 2, 16, .inr (.inl gr))), (ad 5, .inl (G.2.1 2, 16, .inr (.inl ou))), (ad 6, .inl (G.2.1 2, 12, .inr (.inl fx))), (ad 7, .inl (G.2.1 2, 12, .inr (.inl fy))), (ad 8, .inl (G.2.1 1, 8, .inl od)), (ad 9, .inl (G.2.1 1, 12, .inl cr)), (ad 10, .inl (G.2.1 1, 200, .inl ty)), (ad 11, .inl (G.2.1 1, 48, .inl to_)), (ad 12, .inl (G.2.1 1, 48, .inl dr))] ++ ([(ow, .inl (G.2.1 2, 1, .inr (.inl (vp_updL g 0 (if r = 0 then 0 else 1)))))] ++ u)) H locs := hW
    refine W.eq (g2 := F0 m 526 ls [.int 0]) rfl ?_
    refine W.widen (k := cells + 1) (n := slots + 6) (by dsimp only; omega) (by dsimp only; omega) ?_
    refine lv_istore (lv' := [(6, .int 0), (5, .int (nI i)), (4, .ref oD), (3, .ref ow), (2, .ref (ad 0)), (1, .ref x), (0, .ref b0)]) gX gB dL_law_526 hl (by decide) rfl (fun ls hl => ?_)
    refine lv_aload_n gX gB dL_law_528 rfl (lv_at hl 4 rfl) ?_
    refine lv_aload_n gX gB dL_law_529 rfl (lv_at hl 6 rfl) ?_
    refine lv_iload gX gB dL_law_530 (lv_at hl 1 rfl) ?_
    refine lv_iconst (v := 1) gX gB dL_law_532 (by decide) ?_
    refine lv_iadd gX gB dL_law_533 ?_
    refine gx_topi (show ((nI i) + 1) = nI (i + 1) from nI_add i 1) ?_
    refine va_sld C.x C.b hX hbl hbA hW.2.2 (nI_in (by omega) (by omega)) dL_law_534 ?_
    refine gx_topi (show xs (nI (i + 1)).toNatClampNeg = xs (i + 1) from by rw [nI_clamp (by omega)]) ?_
    refine lv_aload_n gX gB dL_law_535 rfl (lv_at hl 6 rfl) ?_
    refine lv_iload gX gB dL_law_536 (lv_at hl 1 rfl) ?_
    refine lv_iconst (v := 2) gX gB dL_law_538 (by decide) ?_
    refine lv_iadd gX gB dL_law_539 ?_
    refine gx_topi (show ((nI i) + 2) = nI (i + 2) from nI_add i 2) ?_
    refine va_sld C.x C.b hX hbl hbA hW.2.2 (nI_in (by omega) (by omega)) dL_law_540 ?_
    refine gx_topi (show xs (nI (i + 2)).toNatClampNeg = xs (i + 2) from by rw [nI_clamp (by omega)]) ?_
    refine lv_i2l gX gB dL_law_541 rfl ?_
    refine lv_bipush (v := 32) gX gB dL_law_542 (by decide) ?_
    refine lv_lshl gX gB dL_law_544 rfl ?_
    refine lv_aload_n gX gB dL_law_545 rfl (lv_at hl 6 rfl) ?_
    refine lv_iload gX gB dL_law_546 (lv_at hl 1 rfl) ?_
    refine lv_iconst (v := 3) gX gB dL_law_548 (by decide) ?_
    refine lv_iadd gX gB dL_law_549 ?_
    refine gx_topi (show ((nI i) + 3) = nI (i + 3) from nI_add i 3) ?_
    refine va_sld C.x C.b hX hbl hbA hW.2.2 (nI_in (by omega) (by omega)) dL_law_550 ?_
    refine gx_topi (show xs (nI (i + 3)).toNatClampNeg = xs (i + 3) from by rw [nI_clamp (by omega)]) ?_
    refine lv_i2l gX gB dL_law_551 rfl ?_
    refine gx_ldc2 (v := 4294967295) C (tq_6 2 (by decide +kernel) rfl) dL_law_552 ?_
    refine lv_land gX gB dL_law_555 ?_
    refine lv_lor gX gB dL_law_556 ?_
    refine gx_topl (show ((((xs (i + 2)).toInt64) <<< ((32 : Int32).toInt64 &&& 63)) ||| (((xs (i + 3)).toInt64) &&& 4294967295)) = sc_l xs (i + 2) from rfl) ?_
    have hW := gx_W.toM hW
    have hW : gx_W G A s ((([(ow, .inl (G.2.1 2, 1, .inr (.inl (vp_updL g 0 (if r = 0 then 0 else 1)))))] ++ u) ++ [(oD, .inl (G.2.1 4, 1, .inr (.inr (.inr (.inl gD)))))]) ++ [(ad 0, .inr (11, [.int cd, .int (nI pa.length), .ref (ad 1), .ref (ad 2), .ref (ad 3), .ref (ad 4), .ref (ad 5), .int (nI fa.length), .ref (ad 6), .ref (ad 7), .int (nI dn), .ref (ad 8), .long ex, .long ey, .long eg, .int (nI cn), .ref (ad 9), .ref (ad 10), .int (nI n), .int at0, .int fl, .int (nI ds.length), .ref (ad 11), .ref (ad 12)])), (ad 1, .inl (G.2.1 2, 16, .inr (.inl px))), (ad 2, .inl (G.2.1 2, 16, .inr (.inl py))), (ad 3, .inl (G.2.1 2, 16, .inr (.inl pz))), (ad 4, .inl (G.2.1 2, 16, .inr (.inl gr))), (ad 5, .inl (G.2.1 2, 16, .inr (.inl ou))), (ad 6, .inl (G.2.1 2, 12, .inr (.inl fx))), (ad 7, .inl (G.2.1 2, 12, .inr (.inl fy))), (ad 8, .inl (G.2.1 1, 8, .inl od)), (ad 9, .inl (G.2.1 1, 12, .inl cr)), (ad 10, .inl (G.2.1 1, 200, .inl ty)), (ad 11, .inl (G.2.1 1, 48, .inl to_)), (ad 12, .inl (G.2.1 1, 48, .inl dr))]) H locs := hW
    refine gx_callV (wr := ([(ow, .inl (G.2.1 2, 1, .inr (.inl (vp_updL g 0 (if r = 0 then 0 else 1)))))] ++ u) ++ [(oD, .inl (G.2.1 4, 1, .inr (.inr (.inr (.inl gD)))))]) (rest := []) C hW sL_91 (kX6_drawer l G ad cd pa.length fa.length dn cn n ds.length ex ey eg at0 fl px py pz gr ou fx fy od cr ty to_ dr p16 d8 (xs (i + 1)) (sc_l xs (i + 2))) ⟨0, rfl⟩ rfl rfl ⟨(by dsimp only; omega), (by dsimp only; omega)⟩ hl.1 rfl (Nat.le_of_ble_eq_true rfl) dL_law_557 ⟨(by dsimp only; omega), (by dsimp only; omega)⟩ (fun v9 u9 H locs hm hW => ?_)
    obtain ⟨bb, rfl, hval, hout⟩ := pr_drawer_0 (ow := ow) (oD := oD) (cd := cd) (at0 := at0) (fl := fl) (dr := dr) hrl hpo hm
    obtain ⟨cd9, pn9, fn9, dn9, cn9, sn9, tn9, ex9, ey9, eg9, at9, fl9, px9, py9, pz9, gr9, ou9, fx9, fy9, od9, cr9, ty9, to9, dr9, rfl, hcd, hnew⟩ := hout
    have hW : gx_W G A s ((([(ow, .inl (G.2.1 2, 1, .inr (.inl (vp_updL g 0 (if r = 0 then 0 else 1)))))] ++ u) ++ [(oD, .inl (G.2.1 4, 1, .inr (.inr (.inr (.inl gD)))))]) ++ [(ad 0, .inr (11, [.int cd9, .int (nI pn9), .ref (ad 1), .ref (ad 2), .ref (ad 3), .ref (ad 4), .ref (ad 5), .int (nI fn9), .ref (ad 6), .ref (ad 7), .int (nI dn9), .ref (ad 8), .long ex9, .long ey9, .long eg9, .int (nI cn9), .ref (ad 9), .ref (ad 10), .int (nI sn9), .int at9, .int fl9, .int (nI tn9), .ref (ad 11), .ref (ad 12)])), (ad 1, .inl (G.2.1 2, 16, .inr (.inl px9))), (ad 2, .inl (G.2.1 2, 16, .inr (.inl py9))), (ad 3, .inl (G.2.1 2, 16, .inr (.inl pz9))), (ad 4, .inl (G.2.1 2, 16, .inr (.inl gr9))), (ad 5, .inl (G.2.1 2, 16, .inr (.inl ou9))), (ad 6, .inl (G.2.1 2, 12, .inr (.inl fx9))), (ad 7, .inl (G.2.1 2, 12, .inr (.inl fy9))), (ad 8, .inl (G.2.1 1, 8, .inl od9)), (ad 9, .inl (G.2.1 1, 12, .inl cr9)), (ad 10, .inl (G.2.1 1, 200, .inl ty9)), (ad 11, .inl (G.2.1 1, 48, .inl to9)), (ad 12, .inl (G.2.1 1, 48, .inl dr9))]) H locs := hW
    refine W.eq (g2 := F0 m 560 ls [.int bb]) rfl ?_
    refine W.widen (k := cells + 1 + 0) (n := slots + 6 + 0) (by dsimp only; omega) (by dsimp only; omega) ?_
    refine lv_istore (lv' := [(7, .int bb), (6, .int 0), (5, .int (nI i)), (4, .ref oD), (3, .ref ow), (2, .ref (ad 0)), (1, .ref x), (0, .ref b0)]) gX gB dL_law_560 hl (by decide) rfl (fun ls hl => ?_)
    refine lv_aload_n gX gB dL_law_562 rfl (lv_at hl 5 rfl) ?_
    refine gx_callV (wr := ([(ow, .inl (G.2.1 2, 1, .inr (.inl (vp_updL g 0 (if r = 0 then 0 else 1)))))] ++ u) ++ [(oD, .inl (G.2.1 4, 1, .inr (.inr (.inr (.inl gD)))))]) (rest := []) C hW sL_81 (kX6_thrown l G ad cd9 pn9 fn9 dn9 cn9 sn9 tn9 ex9 ey9 eg9 at9 fl9 px9 py9 pz9 gr9 ou9 fx9 fy9 od9 cr9 ty9 to9 dr9) ⟨0, rfl⟩ rfl rfl ⟨(by dsimp only; omega), (by dsimp only; omega)⟩ hl.1 rfl (Nat.le_of_ble_eq_true rfl) dL_law_563 ⟨(by dsimp only; omega), (by dsimp only; omega)⟩ (fun v9 u9 H locs hp hW => ?_)
    obtain ⟨rfl, rfl⟩ := hp
    have hW : gx_W G A s ((([(ow, .inl (G.2.1 2, 1, .inr (.inl (vp_updL g 0 (if r = 0 then 0 else 1)))))] ++ u) ++ [(oD, .inl (G.2.1 4, 1, .inr (.inr (.inr (.inl gD)))))]) ++ [(ad 0, .inr (11, [.int cd9, .int (nI pn9), .ref (ad 1), .ref (ad 2), .ref (ad 3), .ref (ad 4), .ref (ad 5), .int (nI fn9), .ref (ad 6), .ref (ad 7), .int (nI dn9), .ref (ad 8), .long ex9, .long ey9, .long eg9, .int (nI cn9), .ref (ad 9), .ref (ad 10), .int (nI sn9), .int at9, .int fl9, .int (nI tn9), .ref (ad 11), .ref (ad 12)])), (ad 1, .inl (G.2.1 2, 16, .inr (.inl px9))), (ad 2, .inl (G.2.1 2, 16, .inr (.inl py9))), (ad 3, .inl (G.2.1 2, 16, .inr (.inl pz9))), (ad 4, .inl (G.2.1 2, 16, .inr (.inl gr9))), (ad 5, .inl (G.2.1 2, 16, .inr (.inl ou9))), (ad 6, .inl (G.2.1 2, 12, .inr (.inl fx9))), (ad 7, .inl (G.2.1 2, 12, .inr (.inl fy9))), (ad 8, .inl (G.2.1 1, 8, .inl od9)), (ad 9, .inl (G.2.1 1, 12, .inl cr9)), (ad 10, .inl (G.2.1 1, 200, .inl ty9)), (ad 11, .inl (G.2.1 1, 48, .inl to9)), (ad 12, .inl (G.2.1 1, 48, .inl dr9))]) H locs := hW
    refine W.eq (g2 := F0 m 566 ls [.int cd9]) rfl ?_
    refine W.widen (k := cells + 1 + 0 + 0) (n := slots + 6 + 0 + 0) (by dsimp only; omega) (by dsimp only; omega) ?_
    refine lv_iload gX gB dL_law_566 (lv_at hl 1 rfl) ?_
    refine lv_icmp_eq (tgt := 573) gX gB dL_law_568 (by decide) (fun _ => ?_) (fun h9 => absurd (show cd9 = (0 : Int32) from hcd) h9)
    refine lv_iload gX gB dL_law_573 (lv_at hl 1 rfl) ?_
    refine lv_if_ne (tgt := 597) gX gB dL_law_575 (by decide) (fun h9 => absurd (show ¬ 0 = (0 : Int32) from h9) (by decide)) (fun _ => ?_)
    refine lv_aload_n gX gB dL_law_578 rfl (lv_at hl 4 rfl) ?_
    refine lv_iconst (v := 0) gX gB dL_law_579 (by decide) ?_
    refine gx_lald C hW (a := ow) (g := vp_updL g 0 (if r = 0 then 0 else 1)) (j := 0) ⟨0, rfl⟩ rfl (by decide) (by decide) dL_law_580 ?_
    refine gx_topl (show (vp_updL g 0 (if r = 0 then 0 else 1)) 0 = (if r = 0 then 0 else 1) from ul_eq) ?_
    refine lv_iload gX gB dL_law_581 (lv_at hl 0 rfl) ?_
    refine lv_if_eq (tgt := 590) gX gB dL_law_583 (by decide) (fun c583 => ?_) (fun c583 => ?_)
    · refine lv_lconst (v := 0) gX gB dL_law_590 (by decide) ?_
      refine gx_lc_eq (tgt := 597) C dL_law_591 dL_law_592 (by decide) (fun _ => ?_) (fun h9 => absurd (show (if r = 0 then 0 else 1) = (0 : Int64) from by rw [hval, if_pos c583]) h9)
      refine lv_goto (tgt := 1766) gX gB dL_law_597 (by decide) ?_
      have hW := gx_W.ofM hW
      refine W.widen (k := cells + 64) (n := slots + 2000) (by omega) (by omega) ?_
      exact kk _ _ _ _ (hnew _ _) hW (lv_sub hl [2, 3, 4, 5, 6, 7] rfl)
    · refine lv_lconst (v := 1) gX gB dL_law_586 (by decide) ?_
      refine lv_goto (tgt := 591) gX gB dL_law_587 (by decide) ?_
      refine gx_lc_eq (tgt := 597) C dL_law_591 dL_law_592 (by decide) (fun _ => ?_) (fun h9 => absurd (show (if r = 0 then 0 else 1) = (1 : Int64) from by rw [hval, if_neg c583]) h9)
      refine lv_goto (tgt := 1766) gX gB dL_law_597 (by decide) ?_
      have hW := gx_W.ofM hW
      refine W.widen (k := cells + 64) (n := slots + 2000) (by omega) (by omega) ?_
      exact kk _ _ _ _ (hnew _ _) hW (lv_sub hl [2, 3, 4, 5, 6, 7] rfl)
  · have hW : gx_W G A s ([(oD, .inl (G.2.1 4, 1, .inr (.inr (.inr (.inl gD))))), (ad 0, .inr (11, [.int cd, .int (nI pa.length), .ref (ad 1), .ref (ad 2), .ref (ad 3), .ref (ad 4), .ref (ad 5), .int (nI fa.length), .ref (ad 6), .ref (ad 7), .int (nI dn), .ref (ad 8), .long ex, .long ey, .long eg, .int (nI cn), .ref (ad 9), .ref (ad 10), .int (nI n), .int at0, .int fl, .int (nI ds.length), .ref (ad 11), .ref (ad 12)])), (ad 1, .inl (G.2.1 2, 16, .inr (.inl px))), (ad 2, .inl (G.2.1 2, 16, .inr (.inl py))), (ad 3, .inl (G.2.1 2, 16, .inr (.inl pz))), (ad 4, .inl (G.2.1 2, 16, .inr (.inl gr))), (ad 5, .inl (G.2.1 2, 16, .inr (.inl ou))), (ad 6, .inl (G.2.1 2, 12, .inr (.inl fx))), (ad 7, .inl (G.2.1 2, 12, .inr (.inl fy))), (ad 8, .inl (G.2.1 1, 8, .inl od)), (ad 9, .inl (G.2.1 1, 12, .inl cr)), (ad 10, .inl (G.2.1 1, 200, .inl ty)), (ad 11, .inl (G.2.1 1, 48, .inl to_)), (ad 12, .inl (G.2.1 1, 48, .inl dr))] ++ ([(ow, .inl (G.2.1 2, 1, .inr (.inl g)))] ++ u)) H locs := hW
    refine W.eq (g2 := F0 m 526 ls [.int 1]) rfl ?_
    refine W.widen (k := cells + 1) (n := slots + 6) (by dsimp only; omega) (by dsimp only; omega) ?_
    refine lv_istore (lv' := [(6, .int 1), (5, .int (nI i)), (4, .ref oD), (3, .ref ow), (2, .ref (ad 0)), (1, .ref x), (0, .ref b0)]) gX gB dL_law_526 hl (by decide) rfl (fun ls hl => ?_)
    refine lv_aload_n gX gB dL_law_528 rfl (lv_at hl 4 rfl) ?_
    refine lv_aload_n gX gB dL_law_529 rfl (lv_at hl 6 rfl) ?_
    refine lv_iload gX gB dL_law_530 (lv_at hl 1 rfl) ?_
    refine lv_iconst (v := 1) gX gB dL_law_532 (by decide) ?_
    refine lv_iadd gX gB dL_law_533 ?_
    refine gx_topi (show ((nI i) + 1) = nI (i + 1) from nI_add i 1) ?_
    refine va_sld C.x C.b hX hbl hbA hW.2.2 (nI_in (by omega) (by omega)) dL_law_534 ?_
    refine gx_topi (show xs (nI (i + 1)).toNatClampNeg = xs (i + 1) from by rw [nI_clamp (by omega)]) ?_
    refine lv_aload_n gX gB dL_law_535 rfl (lv_at hl 6 rfl) ?_
    refine lv_iload gX gB dL_law_536 (lv_at hl 1 rfl) ?_
    refine lv_iconst (v := 2) gX gB dL_law_538 (by decide) ?_
    refine lv_iadd gX gB dL_law_539 ?_
    refine gx_topi (show ((nI i) + 2) = nI (i + 2) from nI_add i 2) ?_
    refine va_sld C.x C.b hX hbl hbA hW.2.2 (nI_in (by omega) (by omega)) dL_law_540 ?_
    refine gx_topi (show xs (nI (i + 2)).toNatClampNeg = xs (i + 2) from by rw [nI_clamp (by omega)]) ?_
    refine lv_i2l gX gB dL_law_541 rfl ?_
    refine lv_bipush (v := 32) gX gB dL_law_542 (by decide) ?_
    refine lv_lshl gX gB dL_law_544 rfl ?_
    refine lv_aload_n gX gB dL_law_545 rfl (lv_at hl 6 rfl) ?_
    refine lv_iload gX gB dL_law_546 (lv_at hl 1 rfl) ?_
    refine lv_iconst (v := 3) gX gB dL_law_548 (by decide) ?_
    refine lv_iadd gX gB dL_law_549 ?_
    refine gx_topi (show ((nI i) + 3) = nI (i + 3) from nI_add i 3) ?_
    refine va_sld C.x C.b hX hbl hbA hW.2.2 (nI_in (by omega) (by omega)) dL_law_550 ?_
    refine gx_topi (show xs (nI (i + 3)).toNatClampNeg = xs (i + 3) from by rw [nI_clamp (by omega)]) ?_
    refine lv_i2l gX gB dL_law_551 rfl ?_
    refine gx_ldc2 (v := 4294967295) C (tq_6 2 (by decide +kernel) rfl) dL_law_552 ?_
    refine lv_land gX gB dL_law_555 ?_
    refine lv_lor gX gB dL_law_556 ?_
    refine gx_topl (show ((((xs (i + 2)).toInt64) <<< ((32 : Int32).toInt64 &&& 63)) ||| (((xs (i + 3)).toInt64) &&& 4294967295)) = sc_l xs (i + 2) from rfl) ?_
    have hW := gx_W.toM hW
    have hW : gx_W G A s ((([(ow, .inl (G.2.1 2, 1, .inr (.inl g)))] ++ u) ++ [(oD, .inl (G.2.1 4, 1, .inr (.inr (.inr (.inl gD)))))]) ++ [(ad 0, .inr (11, [.int cd, .int (nI pa.length), .ref (ad 1), .ref (ad 2), .ref (ad 3), .ref (ad 4), .ref (ad 5), .int (nI fa.length), .ref (ad 6), .ref (ad 7), .int (nI dn), .ref (ad 8), .long ex, .long ey, .long eg, .int (nI cn), .ref (ad 9), .ref (ad 10), .int (nI n), .int at0, .int fl, .int (nI ds.length), .ref (ad 11), .ref (ad 12)])), (ad 1, .inl (G.2.1 2, 16, .inr (.inl px))), (ad 2, .inl (G.2.1 2, 16, .inr (.inl py))), (ad 3, .inl (G.2.1 2, 16, .inr (.inl pz))), (ad 4, .inl (G.2.1 2, 16, .inr (.inl gr))), (ad 5, .inl (G.2.1 2, 16, .inr (.inl ou))), (ad 6, .inl (G.2.1 2, 12, .inr (.inl fx))), (ad 7, .inl (G.2.1 2, 12, .inr (.inl fy))), (ad 8, .inl (G.2.1 1, 8, .inl od)), (ad 9, .inl (G.2.1 1, 12, .inl cr)), (ad 10, .inl (G.2.1 1, 200, .inl ty)), (ad 11, .inl (G.2.1 1, 48, .inl to_)), (ad 12, .inl (G.2.1 1, 48, .inl dr))]) H locs := hW
    refine gx_callV (wr := ([(ow, .inl (G.2.1 2, 1, .inr (.inl g)))] ++ u) ++ [(oD, .inl (G.2.1 4, 1, .inr (.inr (.inr (.inl gD)))))]) (rest := []) C hW sL_91 (kX6_drawer l G ad cd pa.length fa.length dn cn n ds.length ex ey eg at0 fl px py pz gr ou fx fy od cr ty to_ dr p16 d8 (xs (i + 1)) (sc_l xs (i + 2))) ⟨0, rfl⟩ rfl rfl ⟨(by dsimp only; omega), (by dsimp only; omega)⟩ hl.1 rfl (Nat.le_of_ble_eq_true rfl) dL_law_557 ⟨(by dsimp only; omega), (by dsimp only; omega)⟩ (fun v9 u9 H locs hm hW => ?_)
    obtain ⟨bb, rfl, hval, hout⟩ := pr_drawer_1 (ow := ow) (oD := oD) (cd := cd) (at0 := at0) (fl := fl) (dr := dr) hrl hpx9 hm
    obtain ⟨cd9, pn9, fn9, dn9, cn9, sn9, tn9, ex9, ey9, eg9, at9, fl9, px9, py9, pz9, gr9, ou9, fx9, fy9, od9, cr9, ty9, to9, dr9, rfl, hcd, hnew⟩ := hout
    have hW : gx_W G A s ((([(ow, .inl (G.2.1 2, 1, .inr (.inl g)))] ++ u) ++ [(oD, .inl (G.2.1 4, 1, .inr (.inr (.inr (.inl gD)))))]) ++ [(ad 0, .inr (11, [.int cd9, .int (nI pn9), .ref (ad 1), .ref (ad 2), .ref (ad 3), .ref (ad 4), .ref (ad 5), .int (nI fn9), .ref (ad 6), .ref (ad 7), .int (nI dn9), .ref (ad 8), .long ex9, .long ey9, .long eg9, .int (nI cn9), .ref (ad 9), .ref (ad 10), .int (nI sn9), .int at9, .int fl9, .int (nI tn9), .ref (ad 11), .ref (ad 12)])), (ad 1, .inl (G.2.1 2, 16, .inr (.inl px9))), (ad 2, .inl (G.2.1 2, 16, .inr (.inl py9))), (ad 3, .inl (G.2.1 2, 16, .inr (.inl pz9))), (ad 4, .inl (G.2.1 2, 16, .inr (.inl gr9))), (ad 5, .inl (G.2.1 2, 16, .inr (.inl ou9))), (ad 6, .inl (G.2.1 2, 12, .inr (.inl fx9))), (ad 7, .inl (G.2.1 2, 12, .inr (.inl fy9))), (ad 8, .inl (G.2.1 1, 8, .inl od9)), (ad 9, .inl (G.2.1 1, 12, .inl cr9)), (ad 10, .inl (G.2.1 1, 200, .inl ty9)), (ad 11, .inl (G.2.1 1, 48, .inl to9)), (ad 12, .inl (G.2.1 1, 48, .inl dr9))]) H locs := hW
    refine W.eq (g2 := F0 m 560 ls [.int bb]) rfl ?_
    refine W.widen (k := cells + 1 + 0) (n := slots + 6 + 0) (by dsimp only; omega) (by dsimp only; omega) ?_
    refine lv_istore (lv' := [(7, .int bb), (6, .int 1), (5, .int (nI i)), (4, .ref oD), (3, .ref ow), (2, .ref (ad 0)), (1, .ref x), (0, .ref b0)]) gX gB dL_law_560 hl (by decide) rfl (fun ls hl => ?_)
    refine lv_aload_n gX gB dL_law_562 rfl (lv_at hl 5 rfl) ?_
    refine gx_callV (wr := ([(ow, .inl (G.2.1 2, 1, .inr (.inl g)))] ++ u) ++ [(oD, .inl (G.2.1 4, 1, .inr (.inr (.inr (.inl gD)))))]) (rest := []) C hW sL_81 (kX6_thrown l G ad cd9 pn9 fn9 dn9 cn9 sn9 tn9 ex9 ey9 eg9 at9 fl9 px9 py9 pz9 gr9 ou9 fx9 fy9 od9 cr9 ty9 to9 dr9) ⟨0, rfl⟩ rfl rfl ⟨(by dsimp only; omega), (by dsimp only; omega)⟩ hl.1 rfl (Nat.le_of_ble_eq_true rfl) dL_law_563 ⟨(by dsimp only; omega), (by dsimp only; omega)⟩ (fun v9 u9 H locs hp hW => ?_)
    obtain ⟨rfl, rfl⟩ := hp
    have hW : gx_W G A s ((([(ow, .inl (G.2.1 2, 1, .inr (.inl g)))] ++ u) ++ [(oD, .inl (G.2.1 4, 1, .inr (.inr (.inr (.inl gD)))))]) ++ [(ad 0, .inr (11, [.int cd9, .int (nI pn9), .ref (ad 1), .ref (ad 2), .ref (ad 3), .ref (ad 4), .ref (ad 5), .int (nI fn9), .ref (ad 6), .ref (ad 7), .int (nI dn9), .ref (ad 8), .long ex9, .long ey9, .long eg9, .int (nI cn9), .ref (ad 9), .ref (ad 10), .int (nI sn9), .int at9, .int fl9, .int (nI tn9), .ref (ad 11), .ref (ad 12)])), (ad 1, .inl (G.2.1 2, 16, .inr (.inl px9))), (ad 2, .inl (G.2.1 2, 16, .inr (.inl py9))), (ad 3, .inl (G.2.1 2, 16, .inr (.inl pz9))), (ad 4, .inl (G.2.1 2, 16, .inr (.inl gr9))), (ad 5, .inl (G.2.1 2, 16, .inr (.inl ou9))), (ad 6, .inl (G.2.1 2, 12, .inr (.inl fx9))), (ad 7, .inl (G.2.1 2, 12, .inr (.inl fy9))), (ad 8, .inl (G.2.1 1, 8, .inl od9)), (ad 9, .inl (G.2.1 1, 12, .inl cr9)), (ad 10, .inl (G.2.1 1, 200, .inl ty9)), (ad 11, .inl (G.2.1 1, 48, .inl to9)), (ad 12, .inl (G.2.1 1, 48, .inl dr9))]) H locs := hW
    refine W.eq (g2 := F0 m 566 ls [.int cd9]) rfl ?_
    refine W.widen (k := cells + 1 + 0 + 0) (n := slots + 6 + 0 + 0) (by dsimp only; omega) (by dsimp only; omega) ?_
    refine lv_iload gX gB dL_law_566 (lv_at hl 1 rfl) ?_
    refine lv_icmp_eq (tgt := 573) gX gB dL_law_568 (by decide) (fun _ => ?_) (fun h9 => absurd (show cd9 = (1 : Int32) from hcd) h9)
    refine lv_iload gX gB dL_law_573 (lv_at hl 1 rfl) ?_
    refine lv_if_ne (tgt := 597) gX gB dL_law_575 (by decide) (fun _ => ?_) (fun h9 => absurd h9 (show ¬ 1 = (0 : Int32) from by decide))
    refine lv_goto (tgt := 1766) gX gB dL_law_597 (by decide) ?_
    have hW := gx_W.ofM hW
    refine W.widen (k := cells + 64) (n := slots + 2000) (by omega) (by omega) ?_
    exact kk _ _ _ _ (hnew _ _) hW (lv_sub hl [2, 3, 4, 5, 6, 7] rfl)
  · have hW : gx_W G A s ([(oD, .inl (G.2.1 4, 1, .inr (.inr (.inr (.inl gD))))), (ad 0, .inr (11, [.int cd, .int (nI pa.length), .ref (ad 1), .ref (ad 2), .ref (ad 3), .ref (ad 4), .ref (ad 5), .int (nI fa.length), .ref (ad 6), .ref (ad 7), .int (nI dn), .ref (ad 8), .long ex, .long ey, .long eg, .int (nI cn), .ref (ad 9), .ref (ad 10), .int (nI n), .int at0, .int fl, .int (nI ds.length), .ref (ad 11), .ref (ad 12)])), (ad 1, .inl (G.2.1 2, 16, .inr (.inl px))), (ad 2, .inl (G.2.1 2, 16, .inr (.inl py))), (ad 3, .inl (G.2.1 2, 16, .inr (.inl pz))), (ad 4, .inl (G.2.1 2, 16, .inr (.inl gr))), (ad 5, .inl (G.2.1 2, 16, .inr (.inl ou))), (ad 6, .inl (G.2.1 2, 12, .inr (.inl fx))), (ad 7, .inl (G.2.1 2, 12, .inr (.inl fy))), (ad 8, .inl (G.2.1 1, 8, .inl od)), (ad 9, .inl (G.2.1 1, 12, .inl cr)), (ad 10, .inl (G.2.1 1, 200, .inl ty)), (ad 11, .inl (G.2.1 1, 48, .inl to_)), (ad 12, .inl (G.2.1 1, 48, .inl dr))] ++ ([(ow, .inl (G.2.1 2, 1, .inr (.inl g)))] ++ u)) H locs := hW
    refine W.eq (g2 := F0 m 526 ls [.int 2]) rfl ?_
    refine W.widen (k := cells + 1) (n := slots + 6) (by dsimp only; omega) (by dsimp only; omega) ?_
    refine lv_istore (lv' := [(6, .int 2), (5, .int (nI i)), (4, .ref oD), (3, .ref ow), (2, .ref (ad 0)), (1, .ref x), (0, .ref b0)]) gX gB dL_law_526 hl (by decide) rfl (fun ls hl => ?_)
    refine lv_aload_n gX gB dL_law_528 rfl (lv_at hl 4 rfl) ?_
    refine lv_aload_n gX gB dL_law_529 rfl (lv_at hl 6 rfl) ?_
    refine lv_iload gX gB dL_law_530 (lv_at hl 1 rfl) ?_
    refine lv_iconst (v := 1) gX gB dL_law_532 (by decide) ?_
    refine lv_iadd gX gB dL_law_533 ?_
    refine gx_topi (show ((nI i) + 1) = nI (i + 1) from nI_add i 1) ?_
    refine va_sld C.x C.b hX hbl hbA hW.2.2 (nI_in (by omega) (by omega)) dL_law_534 ?_
    refine gx_topi (show xs (nI (i + 1)).toNatClampNeg = xs (i + 1) from by rw [nI_clamp (by omega)]) ?_
    refine lv_aload_n gX gB dL_law_535 rfl (lv_at hl 6 rfl) ?_
    refine lv_iload gX gB dL_law_536 (lv_at hl 1 rfl) ?_
    refine lv_iconst (v := 2) gX gB dL_law_538 (by decide) ?_
    refine lv_iadd gX gB dL_law_539 ?_
    refine gx_topi (show ((nI i) + 2) = nI (i + 2) from nI_add i 2) ?_
    refine va_sld C.x C.b hX hbl hbA hW.2.2 (nI_in (by omega) (by omega)) dL_law_540 ?_
    refine gx_topi (show xs (nI (i + 2)).toNatClampNeg = xs (i + 2) from by rw [nI_clamp (by omega)]) ?_
    refine lv_i2l gX gB dL_law_541 rfl ?_
    refine lv_bipush (v := 32) gX gB dL_law_542 (by decide) ?_
    refine lv_lshl gX gB dL_law_544 rfl ?_
    refine lv_aload_n gX gB dL_law_545 rfl (lv_at hl 6 rfl) ?_
    refine lv_iload gX gB dL_law_546 (lv_at hl 1 rfl) ?_
    refine lv_iconst (v := 3) gX gB dL_law_548 (by decide) ?_
    refine lv_iadd gX gB dL_law_549 ?_
    refine gx_topi (show ((nI i) + 3) = nI (i + 3) from nI_add i 3) ?_
    refine va_sld C.x C.b hX hbl hbA hW.2.2 (nI_in (by omega) (by omega)) dL_law_550 ?_
    refine gx_topi (show xs (nI (i + 3)).toNatClampNeg = xs (i + 3) from by rw [nI_clamp (by omega)]) ?_
    refine lv_i2l gX gB dL_law_551 rfl ?_
    refine gx_ldc2 (v := 4294967295) C (tq_6 2 (by decide +kernel) rfl) dL_law_552 ?_
    refine lv_land gX gB dL_law_555 ?_
    refine lv_lor gX gB dL_law_556 ?_
    refine gx_topl (show ((((xs (i + 2)).toInt64) <<< ((32 : Int32).toInt64 &&& 63)) ||| (((xs (i + 3)).toInt64) &&& 4294967295)) = sc_l xs (i + 2) from rfl) ?_
    have hW := gx_W.toM hW
    have hW : gx_W G A s ((([(ow, .inl (G.2.1 2, 1, .inr (.inl g)))] ++ u) ++ [(oD, .inl (G.2.1 4, 1, .inr (.inr (.inr (.inl gD)))))]) ++ [(ad 0, .inr (11, [.int cd, .int (nI pa.length), .ref (ad 1), .ref (ad 2), .ref (ad 3), .ref (ad 4), .ref (ad 5), .int (nI fa.length), .ref (ad 6), .ref (ad 7), .int (nI dn), .ref (ad 8), .long ex, .long ey, .long eg, .int (nI cn), .ref (ad 9), .ref (ad 10), .int (nI n), .int at0, .int fl, .int (nI ds.length), .ref (ad 11), .ref (ad 12)])), (ad 1, .inl (G.2.1 2, 16, .inr (.inl px))), (ad 2, .inl (G.2.1 2, 16, .inr (.inl py))), (ad 3, .inl (G.2.1 2, 16, .inr (.inl pz))), (ad 4, .inl (G.2.1 2, 16, .inr (.inl gr))), (ad 5, .inl (G.2.1 2, 16, .inr (.inl ou))), (ad 6, .inl (G.2.1 2, 12, .inr (.inl fx))), (ad 7, .inl (G.2.1 2, 12, .inr (.inl fy))), (ad 8, .inl (G.2.1 1, 8, .inl od)), (ad 9, .inl (G.2.1 1, 12, .inl cr)), (ad 10, .inl (G.2.1 1, 200, .inl ty)), (ad 11, .inl (G.2.1 1, 48, .inl to_)), (ad 12, .inl (G.2.1 1, 48, .inl dr))]) H locs := hW
    refine gx_callV (wr := ([(ow, .inl (G.2.1 2, 1, .inr (.inl g)))] ++ u) ++ [(oD, .inl (G.2.1 4, 1, .inr (.inr (.inr (.inl gD)))))]) (rest := []) C hW sL_91 (kX6_drawer l G ad cd pa.length fa.length dn cn n ds.length ex ey eg at0 fl px py pz gr ou fx fy od cr ty to_ dr p16 d8 (xs (i + 1)) (sc_l xs (i + 2))) ⟨0, rfl⟩ rfl rfl ⟨(by dsimp only; omega), (by dsimp only; omega)⟩ hl.1 rfl (Nat.le_of_ble_eq_true rfl) dL_law_557 ⟨(by dsimp only; omega), (by dsimp only; omega)⟩ (fun v9 u9 H locs hm hW => ?_)
    obtain ⟨bb, rfl, hval, hout⟩ := pr_drawer_2 (ow := ow) (oD := oD) (cd := cd) (at0 := at0) (fl := fl) (dr := dr) hrl hpx9 hm
    obtain ⟨cd9, pn9, fn9, dn9, cn9, sn9, tn9, ex9, ey9, eg9, at9, fl9, px9, py9, pz9, gr9, ou9, fx9, fy9, od9, cr9, ty9, to9, dr9, rfl, hcd, hnew⟩ := hout
    have hW : gx_W G A s ((([(ow, .inl (G.2.1 2, 1, .inr (.inl g)))] ++ u) ++ [(oD, .inl (G.2.1 4, 1, .inr (.inr (.inr (.inl gD)))))]) ++ [(ad 0, .inr (11, [.int cd9, .int (nI pn9), .ref (ad 1), .ref (ad 2), .ref (ad 3), .ref (ad 4), .ref (ad 5), .int (nI fn9), .ref (ad 6), .ref (ad 7), .int (nI dn9), .ref (ad 8), .long ex9, .long ey9, .long eg9, .int (nI cn9), .ref (ad 9), .ref (ad 10), .int (nI sn9), .int at9, .int fl9, .int (nI tn9), .ref (ad 11), .ref (ad 12)])), (ad 1, .inl (G.2.1 2, 16, .inr (.inl px9))), (ad 2, .inl (G.2.1 2, 16, .inr (.inl py9))), (ad 3, .inl (G.2.1 2, 16, .inr (.inl pz9))), (ad 4, .inl (G.2.1 2, 16, .inr (.inl gr9))), (ad 5, .inl (G.2.1 2, 16, .inr (.inl ou9))), (ad 6, .inl (G.2.1 2, 12, .inr (.inl fx9))), (ad 7, .inl (G.2.1 2, 12, .inr (.inl fy9))), (ad 8, .inl (G.2.1 1, 8, .inl od9)), (ad 9, .inl (G.2.1 1, 12, .inl cr9)), (ad 10, .inl (G.2.1 1, 200, .inl ty9)), (ad 11, .inl (G.2.1 1, 48, .inl to9)), (ad 12, .inl (G.2.1 1, 48, .inl dr9))]) H locs := hW
    refine W.eq (g2 := F0 m 560 ls [.int bb]) rfl ?_
    refine W.widen (k := cells + 1 + 0) (n := slots + 6 + 0) (by dsimp only; omega) (by dsimp only; omega) ?_
    refine lv_istore (lv' := [(7, .int bb), (6, .int 2), (5, .int (nI i)), (4, .ref oD), (3, .ref ow), (2, .ref (ad 0)), (1, .ref x), (0, .ref b0)]) gX gB dL_law_560 hl (by decide) rfl (fun ls hl => ?_)
    refine lv_aload_n gX gB dL_law_562 rfl (lv_at hl 5 rfl) ?_
    refine gx_callV (wr := ([(ow, .inl (G.2.1 2, 1, .inr (.inl g)))] ++ u) ++ [(oD, .inl (G.2.1 4, 1, .inr (.inr (.inr (.inl gD)))))]) (rest := []) C hW sL_81 (kX6_thrown l G ad cd9 pn9 fn9 dn9 cn9 sn9 tn9 ex9 ey9 eg9 at9 fl9 px9 py9 pz9 gr9 ou9 fx9 fy9 od9 cr9 ty9 to9 dr9) ⟨0, rfl⟩ rfl rfl ⟨(by dsimp only; omega), (by dsimp only; omega)⟩ hl.1 rfl (Nat.le_of_ble_eq_true rfl) dL_law_563 ⟨(by dsimp only; omega), (by dsimp only; omega)⟩ (fun v9 u9 H locs hp hW => ?_)
    obtain ⟨rfl, rfl⟩ := hp
    have hW : gx_W G A s ((([(ow, .inl (G.2.1 2, 1, .inr (.inl g)))] ++ u) ++ [(oD, .inl (G.2.1 4, 1, .inr (.inr (.inr (.inl gD)))))]) ++ [(ad 0, .inr (11, [.int cd9, .int (nI pn9), .ref (ad 1), .ref (ad 2), .ref (ad 3), .ref (ad 4), .ref (ad 5), .int (nI fn9), .ref (ad 6), .ref (ad 7), .int (nI dn9), .ref (ad 8), .long ex9, .long ey9, .long eg9, .int (nI cn9), .ref (ad 9), .ref (ad 10), .int (nI sn9), .int at9, .int fl9, .int (nI tn9), .ref (ad 11), .ref (ad 12)])), (ad 1, .inl (G.2.1 2, 16, .inr (.inl px9))), (ad 2, .inl (G.2.1 2, 16, .inr (.inl py9))), (ad 3, .inl (G.2.1 2, 16, .inr (.inl pz9))), (ad 4, .inl (G.2.1 2, 16, .inr (.inl gr9))), (ad 5, .inl (G.2.1 2, 16, .inr (.inl ou9))), (ad 6, .inl (G.2.1 2, 12, .inr (.inl fx9))), (ad 7, .inl (G.2.1 2, 12, .inr (.inl fy9))), (ad 8, .inl (G.2.1 1, 8, .inl od9)), (ad 9, .inl (G.2.1 1, 12, .inl cr9)), (ad 10, .inl (G.2.1 1, 200, .inl ty9)), (ad 11, .inl (G.2.1 1, 48, .inl to9)), (ad 12, .inl (G.2.1 1, 48, .inl dr9))]) H locs := hW
    refine W.eq (g2 := F0 m 566 ls [.int cd9]) rfl ?_
    refine W.widen (k := cells + 1 + 0 + 0) (n := slots + 6 + 0 + 0) (by dsimp only; omega) (by dsimp only; omega) ?_
    refine lv_iload gX gB dL_law_566 (lv_at hl 1 rfl) ?_
    refine lv_icmp_eq (tgt := 573) gX gB dL_law_568 (by decide) (fun _ => ?_) (fun h9 => absurd (show cd9 = (2 : Int32) from hcd) h9)
    refine lv_iload gX gB dL_law_573 (lv_at hl 1 rfl) ?_
    refine lv_if_ne (tgt := 597) gX gB dL_law_575 (by decide) (fun _ => ?_) (fun h9 => absurd h9 (show ¬ 2 = (0 : Int32) from by decide))
    refine lv_goto (tgt := 1766) gX gB dL_law_597 (by decide) ?_
    have hW := gx_W.ofM hW
    refine W.widen (k := cells + 64) (n := slots + 2000) (by omega) (by omega) ?_
    exact kk _ _ _ _ (hnew _ _) hW (lv_sub hl [2, 3, 4, 5, 6, 7] rfl)
set_option maxRecDepth 100000 in
theorem pr_person_0 {G : gx_T} {L : List Nat} {f : Nat → va_E} {x ow oD : Nat} {ad : Nat → Nat} {P F S X N T E : Nat} {dn : Nat} {bP : Option Nat} {pa : List Nat} {ps : Nat → ld_T} {bF : Option Nat} {fa : List Nat} {fd : Nat → ft_T} {bS : Option Nat} {sa : List Nat} {sd : Nat → sd_T} {b cap n : Nat} {t : Nat → Nat} {bT : Option Nat} {ta : List Nat} {ds : List rt_T} {ex ey eg : Int64} {cn : Nat} {cf : Nat → Nat} {px py pz gr ou fx fy : Nat → Int64} {od cr ty to_ : Nat → Int32} {cd at0 fl : Int32} {dr : Nat → Int32} {p0 p1 p2 : Int64} (hrl : rl_at G L f x P F S X N T E dn bP pa ps bF fa fd bS sa sd b cap n t bT ta ds ex ey eg cn cf px py pz gr ou fx fy od cr ty to_) {u M : va_W} {v : Option Value}  {r : Int32} (hpo : (fun (v : Option Value) (u : va_W) => pe_code p0 p1 p2 = 0 ∧ ((v = some (.int 0) ∧ u = va_pl L f ∧ ((ex, ey, 0, eg, -1, 0) : ld_T).1 = p0 ∧ ((ex, ey, 0, eg, -1, 0) : ld_T).2.1 = p1 ∧ ((ex, ey, 0, eg, -1, 0) : ld_T).2.2.2.1 = p2) ∨ (v = some (.int 1) ∧ ¬ (((ex, ey, 0, eg, -1, 0) : ld_T).1 = p0 ∧ ((ex, ey, 0, eg, -1, 0) : ld_T).2.1 = p1 ∧ ((ex, ey, 0, eg, -1, 0) : ld_T).2.2.2.1 = p2) ∧ ∃ q : Nat, q ∉ L ∧ u = va_pl (L ++ [q]) (va_up (va_up f q (.inr (6, [.long p0, .long p1, .long 0, .long p2, .int (-1), .long 0]))) x (.inr (10, [.ref P, .ref F, .ref S, .ref X, .ref N, .ref T, .ref q, .int (nI dn)])))))) (some (.int r)) u) (hm : (fun (v : Option Value) (u : va_W) => (pe_code p0 p1 p2 = 0 ∧ ((v = some (.int 0) ∧ (p0 = ex ∧ p1 = ey ∧ p2 = eg) ∧ u = [(ad 0, .inr (11, [.int 0, .int (nI pa.length), .ref (ad 1), .ref (ad 2), .ref (ad 3), .ref (ad 4), .ref (ad 5), .int (nI fa.length), .ref (ad 6), .ref (ad 7), .int (nI dn), .ref (ad 8), .long ex, .long ey, .long eg, .int (nI cn), .ref (ad 9), .ref (ad 10), .int (nI n), .int at0, .int fl, .int (nI ds.length), .ref (ad 11), .ref (ad 12)])), (ad 1, .inl (G.2.1 2, 16, .inr (.inl px))), (ad 2, .inl (G.2.1 2, 16, .inr (.inl py))), (ad 3, .inl (G.2.1 2, 16, .inr (.inl pz))), (ad 4, .inl (G.2.1 2, 16, .inr (.inl gr))), (ad 5, .inl (G.2.1 2, 16, .inr (.inl ou))), (ad 6, .inl (G.2.1 2, 12, .inr (.inl fx))), (ad 7, .inl (G.2.1 2, 12, .inr (.inl fy))), (ad 8, .inl (G.2.1 1, 8, .inl od)), (ad 9, .inl (G.2.1 1, 12, .inl cr)), (ad 10, .inl (G.2.1 1, 200, .inl ty)), (ad 11, .inl (G.2.1 1, 48, .inl to_)), (ad 12, .inl (G.2.1 1, 48, .inl dr))]) ∨ (v = some (.int 1) ∧ ¬ (p0 = ex ∧ p1 = ey ∧ p2 = eg) ∧ u = [(ad 0, .inr (11, [.int 0, .int (nI pa.length), .ref (ad 1), .ref (ad 2), .ref (ad 3), .ref (ad 4), .ref (ad 5), .int (nI fa.length), .ref (ad 6), .ref (ad 7), .int (nI dn), .ref (ad 8), .long p0, .long p1, .long p2, .int (nI cn), .ref (ad 9), .ref (ad 10), .int (nI n), .int at0, .int fl, .int (nI ds.length), .ref (ad 11), .ref (ad 12)])), (ad 1, .inl (G.2.1 2, 16, .inr (.inl px))), (ad 2, .inl (G.2.1 2, 16, .inr (.inl py))), (ad 3, .inl (G.2.1 2, 16, .inr (.inl pz))), (ad 4, .inl (G.2.1 2, 16, .inr (.inl gr))), (ad 5, .inl (G.2.1 2, 16, .inr (.inl ou))), (ad 6, .inl (G.2.1 2, 12, .inr (.inl fx))), (ad 7, .inl (G.2.1 2, 12, .inr (.inl fy))), (ad 8, .inl (G.2.1 1, 8, .inl od)), (ad 9, .inl (G.2.1 1, 12, .inl cr)), (ad 10, .inl (G.2.1 1, 200, .inl ty)), (ad 11, .inl (G.2.1 1, 48, .inl to_)), (ad 12, .inl (G.2.1 1, 48, .inl dr))]))) ∨ (pe_code p0 p1 p2 = 1 ∧ v = some (.int 0) ∧ u = [(ad 0, .inr (11, [.int (pe_code p0 p1 p2), .int (nI pa.length), .ref (ad 1), .ref (ad 2), .ref (ad 3), .ref (ad 4), .ref (ad 5), .int (nI fa.length), .ref (ad 6), .ref (ad 7), .int (nI dn), .ref (ad 8), .long ex, .long ey, .long eg, .int (nI cn), .ref (ad 9), .ref (ad 10), .int (nI n), .int at0, .int fl, .int (nI ds.length), .ref (ad 11), .ref (ad 12)])), (ad 1, .inl (G.2.1 2, 16, .inr (.inl px))), (ad 2, .inl (G.2.1 2, 16, .inr (.inl py))), (ad 3, .inl (G.2.1 2, 16, .inr (.inl pz))), (ad 4, .inl (G.2.1 2, 16, .inr (.inl gr))), (ad 5, .inl (G.2.1 2, 16, .inr (.inl ou))), (ad 6, .inl (G.2.1 2, 12, .inr (.inl fx))), (ad 7, .inl (G.2.1 2, 12, .inr (.inl fy))), (ad 8, .inl (G.2.1 1, 8, .inl od)), (ad 9, .inl (G.2.1 1, 12, .inl cr)), (ad 10, .inl (G.2.1 1, 200, .inl ty)), (ad 11, .inl (G.2.1 1, 48, .inl to_)), (ad 12, .inl (G.2.1 1, 48, .inl dr))])) v M) : ∃ bb : Int32, v = some (.int bb) ∧ r = bb ∧ lw_out G x ow oD ad 0 u M := by
  obtain ⟨hc, ha⟩ := hpo
  rcases hm with ⟨-, hb⟩ | ⟨h1, -, -⟩
  · rcases ha with ⟨e1, rfl, a1, a2, a3⟩ | ⟨e1, hn, q, hq, rfl⟩
    · rcases hb with ⟨rfl, -, rfl⟩ | ⟨-, h2, -⟩
      · injection e1 with e1
        injection e1 with e1
        exact ⟨_, rfl, e1, ⟨(0), pa.length, fa.length, dn, cn, n, ds.length, ex, ey, eg, at0, fl, px, py, pz, gr, ou, fx, fy, od, cr, ty, to_, dr, rfl, rfl, fun g gD => ⟨L, f, P, F, S, X, N, T, E, dn, bP, pa, ps, bF, fa, fd, bS, sa, sd, b, cap, n, t, bT, ta, ds, ex, ey, eg, cn, cf, px, py, pz, gr, ou, fx, fy, od, cr, ty, to_, _, at0, fl, dr, g, gD, rfl, hrl⟩⟩⟩
      · exact absurd ⟨a1.symm, a2.symm, a3.symm⟩ h2
    · rcases hb with ⟨-, h2, -⟩ | ⟨rfl, -, rfl⟩
      · exact absurd ⟨h2.1.symm, h2.2.1.symm, h2.2.2.symm⟩ hn
      · injection e1 with e1
        injection e1 with e1
        exact ⟨_, rfl, e1, ⟨(0), pa.length, fa.length, dn, cn, n, ds.length, p0, p1, p2, at0, fl, px, py, pz, gr, ou, fx, fy, od, cr, ty, to_, dr, rfl, rfl, fun g gD => ⟨(L ++ [q]), (va_up (va_up f q (.inr (6, [.long p0, .long p1, .long 0, .long p2, .int (-1), .long 0]))) x (.inr (10, [.ref P, .ref F, .ref S, .ref X, .ref N, .ref T, .ref q, .int (nI dn)]))), P, F, S, X, N, T, q, dn, bP, pa, ps, bF, fa, fd, bS, sa, sd, b, cap, n, t, bT, ta, ds, p0, p1, p2, cn, cf, px, py, pz, gr, ou, fx, fy, od, cr, ty, to_, _, at0, fl, dr, g, gD, rfl, rl_person hrl (pe_inv hc) hq⟩⟩⟩
  · rw [hc] at h1
    exact absurd h1 (by decide)
set_option maxRecDepth 100000 in
theorem pr_person_1 {G : gx_T} {L : List Nat} {f : Nat → va_E} {x ow oD : Nat} {ad : Nat → Nat} {P F S X N T E : Nat} {dn : Nat} {bP : Option Nat} {pa : List Nat} {ps : Nat → ld_T} {bF : Option Nat} {fa : List Nat} {fd : Nat → ft_T} {bS : Option Nat} {sa : List Nat} {sd : Nat → sd_T} {b cap n : Nat} {t : Nat → Nat} {bT : Option Nat} {ta : List Nat} {ds : List rt_T} {ex ey eg : Int64} {cn : Nat} {cf : Nat → Nat} {px py pz gr ou fx fy : Nat → Int64} {od cr ty to_ : Nat → Int32} {cd at0 fl : Int32} {dr : Nat → Int32} {p0 p1 p2 : Int64} (hrl : rl_at G L f x P F S X N T E dn bP pa ps bF fa fd bS sa sd b cap n t bT ta ds ex ey eg cn cf px py pz gr ou fx fy od cr ty to_) {u M : va_W} {v : Option Value}  (hpo : (fun (Ex : String) (u : va_W) => u = va_pl L f ∧ px1 gx_E2 (pe_code p0 p1 p2) Ex) gx_E2 u) (hm : (fun (v : Option Value) (u : va_W) => (pe_code p0 p1 p2 = 0 ∧ ((v = some (.int 0) ∧ (p0 = ex ∧ p1 = ey ∧ p2 = eg) ∧ u = [(ad 0, .inr (11, [.int 0, .int (nI pa.length), .ref (ad 1), .ref (ad 2), .ref (ad 3), .ref (ad 4), .ref (ad 5), .int (nI fa.length), .ref (ad 6), .ref (ad 7), .int (nI dn), .ref (ad 8), .long ex, .long ey, .long eg, .int (nI cn), .ref (ad 9), .ref (ad 10), .int (nI n), .int at0, .int fl, .int (nI ds.length), .ref (ad 11), .ref (ad 12)])), (ad 1, .inl (G.2.1 2, 16, .inr (.inl px))), (ad 2, .inl (G.2.1 2, 16, .inr (.inl py))), (ad 3, .inl (G.2.1 2, 16, .inr (.inl pz))), (ad 4, .inl (G.2.1 2, 16, .inr (.inl gr))), (ad 5, .inl (G.2.1 2, 16, .inr (.inl ou))), (ad 6, .inl (G.2.1 2, 12, .inr (.inl fx))), (ad 7, .inl (G.2.1 2, 12, .inr (.inl fy))), (ad 8, .inl (G.2.1 1, 8, .inl od)), (ad 9, .inl (G.2.1 1, 12, .inl cr)), (ad 10, .inl (G.2.1 1, 200, .inl ty)), (ad 11, .inl (G.2.1 1, 48, .inl to_)), (ad 12, .inl (G.2.1 1, 48, .inl dr))]) ∨ (v = some (.int 1) ∧ ¬ (p0 = ex ∧ p1 = ey ∧ p2 = eg) ∧ u = [(ad 0, .inr (11, [.int 0, .int (nI pa.length), .ref (ad 1), .ref (ad 2), .ref (ad 3), .ref (ad 4), .ref (ad 5), .int (nI fa.length), .ref (ad 6), .ref (ad 7), .int (nI dn), .ref (ad 8), .long p0, .long p1, .long p2, .int (nI cn), .ref (ad 9), .ref (ad 10), .int (nI n), .int at0, .int fl, .int (nI ds.length), .ref (ad 11), .ref (ad 12)])), (ad 1, .inl (G.2.1 2, 16, .inr (.inl px))), (ad 2, .inl (G.2.1 2, 16, .inr (.inl py))), (ad 3, .inl (G.2.1 2, 16, .inr (.inl pz))), (ad 4, .inl (G.2.1 2, 16, .inr (.inl gr))), (ad 5, .inl (G.2.1 2, 16, .inr (.inl ou))), (ad 6, .inl (G.2.1 2, 12, .inr (.inl fx))), (ad 7, .inl (G.2.1 2, 12, .inr (.inl fy))), (ad 8, .inl (G.2.1 1, 8, .inl od)), (ad 9, .inl (G.2.1 1, 12, .inl cr)), (ad 10, .inl (G.2.1 1, 200, .inl ty)), (ad 11, .inl (G.2.1 1, 48, .inl to_)), (ad 12, .inl (G.2.1 1, 48, .inl dr))]))) ∨ (pe_code p0 p1 p2 = 1 ∧ v = some (.int 0) ∧ u = [(ad 0, .inr (11, [.int (pe_code p0 p1 p2), .int (nI pa.length), .ref (ad 1), .ref (ad 2), .ref (ad 3), .ref (ad 4), .ref (ad 5), .int (nI fa.length), .ref (ad 6), .ref (ad 7), .int (nI dn), .ref (ad 8), .long ex, .long ey, .long eg, .int (nI cn), .ref (ad 9), .ref (ad 10), .int (nI n), .int at0, .int fl, .int (nI ds.length), .ref (ad 11), .ref (ad 12)])), (ad 1, .inl (G.2.1 2, 16, .inr (.inl px))), (ad 2, .inl (G.2.1 2, 16, .inr (.inl py))), (ad 3, .inl (G.2.1 2, 16, .inr (.inl pz))), (ad 4, .inl (G.2.1 2, 16, .inr (.inl gr))), (ad 5, .inl (G.2.1 2, 16, .inr (.inl ou))), (ad 6, .inl (G.2.1 2, 12, .inr (.inl fx))), (ad 7, .inl (G.2.1 2, 12, .inr (.inl fy))), (ad 8, .inl (G.2.1 1, 8, .inl od)), (ad 9, .inl (G.2.1 1, 12, .inl cr)), (ad 10, .inl (G.2.1 1, 200, .inl ty)), (ad 11, .inl (G.2.1 1, 48, .inl to_)), (ad 12, .inl (G.2.1 1, 48, .inl dr))])) v M) : ∃ bb : Int32, v = some (.int bb) ∧ True ∧ lw_out G x ow oD ad 1 u M := by
  obtain ⟨rfl, hp⟩ := hpo
  have hc := px1_c hp
  rcases hm with ⟨h1, -⟩ | ⟨-, rfl, rfl⟩
  · rw [hc] at h1
    exact absurd h1 (by decide)
  · exact ⟨_, rfl, trivial, ⟨((pe_code p0 p1 p2)), pa.length, fa.length, dn, cn, n, ds.length, ex, ey, eg, at0, fl, px, py, pz, gr, ou, fx, fy, od, cr, ty, to_, dr, rfl, hc, fun g gD => ⟨L, f, P, F, S, X, N, T, E, dn, bP, pa, ps, bF, fa, fd, bS, sa, sd, b, cap, n, t, bT, ta, ds, ex, ey, eg, cn, cf, px, py, pz, gr, ou, fx, fy, od, cr, ty, to_, _, at0, fl, dr, g, gD, rfl, hrl⟩⟩⟩
set_option maxHeartbeats 8000000 in
set_option maxRecDepth 100000 in
theorem lc_person {l : Launch} (hfl : l.flags = flags0) {p : Program} {e : Env} {R : Room} {s : State} {m : MethodId} {below : List Frame} {meth : Method} {c : Code} {A : Nat → Prop} {G : gx_T} {b0 Ls : Nat} {xs : Nat → Int32} {x ow oD : Nat} {ad : Nat → Nat} {H : Heap} {locs : List Loc} {cells slots : Nat} {Q : State → Prop} {ls : Array Slot} {i : Nat} {ws : va_W} (C : gx_C G p s m #[Value.ref b0] meth c cL_law 9 RL A) (hX : va_X b0 Ls xs s s.heap) (hbl : b0 < s.heap.size) (hbA : ¬ A b0) (hi : i + 9 ≤ Ls) (hLs : Ls ≤ 4608) (hR : 100 ≤ R.frames ∧ 4000 ≤ R.locals ∧ cells + 64 ≤ R.cells ∧ slots + 2000 ≤ R.slots) (hinv : lw_inv G x ow oD ad ws) (hW : gx_W G A s ws H locs) (hl : lv_has ls 9 [(5, .int (nI i)), (4, .ref oD), (3, .ref ow), (2, .ref (ad 0)), (1, .ref x), (0, .ref b0)]) (kk : ∀ (ws2 : va_W) (H2 : Heap) (locs2 : List Loc) (ls2 : Array Slot), lw_inv G x ow oD ad ws2 → gx_W G A s ws2 H2 locs2 → lv_has ls2 9 [(5, .int (nI i)), (4, .ref oD), (3, .ref ow), (2, .ref (ad 0)), (1, .ref x), (0, .ref b0)] → W p l e R s m #[Value.ref b0] below meth c H2 locs2 (cells + 64) (slots + 2000) Q (F0 m 1766 ls2 [])) : W p l e R s m #[Value.ref b0] below meth c H locs cells slots Q (F0 m 600 ls []) := by
  have gX := C.x
  have gB := C.b
  obtain ⟨L, f, P, F, S, X, N, T, E, dn, bP, pa, ps, bF, fa, fd, bS, sa, sd, b, cap, n, t, bT, ta, ds, ex, ey, eg, cn, cf, px, py, pz, gr, ou, fx, fy, od, cr, ty, to_, cd, at0, fl, dr, g, gD, rfl, hrl⟩ := hinv
  obtain ⟨hx, fx0, lP, lF, lS, lT, tb, hN, hE, pP, pF, pS, pT, nPF, nPS, nPT, nFS, nFT, nST, rPF, rPS, rPT, rFS, rFT, rST, nd, Nn, En, p16, f12, t12, tl, n2, d8, c12, sl, rP, rO, rQ, rF, rE, rX, rT, rD, rC, rS⟩ := id hrl
  refine lv_aload_n gX gB dL_law_600 rfl (lv_at hl 4 rfl) ?_
  refine lv_aload_n gX gB dL_law_601 rfl (lv_at hl 5 rfl) ?_
  refine lv_iload gX gB dL_law_602 (lv_at hl 0 rfl) ?_
  refine lv_iconst (v := 1) gX gB dL_law_604 (by decide) ?_
  refine lv_iadd gX gB dL_law_605 ?_
  refine gx_topi (show ((nI i) + 1) = nI (i + 1) from nI_add i 1) ?_
  refine va_sld C.x C.b hX hbl hbA hW.2.2 (nI_in (by omega) (by omega)) dL_law_606 ?_
  refine gx_topi (show xs (nI (i + 1)).toNatClampNeg = xs (i + 1) from by rw [nI_clamp (by omega)]) ?_
  refine lv_i2l gX gB dL_law_607 rfl ?_
  refine lv_bipush (v := 32) gX gB dL_law_608 (by decide) ?_
  refine lv_lshl gX gB dL_law_610 rfl ?_
  refine lv_aload_n gX gB dL_law_611 rfl (lv_at hl 5 rfl) ?_
  refine lv_iload gX gB dL_law_612 (lv_at hl 0 rfl) ?_
  refine lv_iconst (v := 2) gX gB dL_law_614 (by decide) ?_
  refine lv_iadd gX gB dL_law_615 ?_
  refine gx_topi (show ((nI i) + 2) = nI (i + 2) from nI_add i 2) ?_
  refine va_sld C.x C.b hX hbl hbA hW.2.2 (nI_in (by omega) (by omega)) dL_law_616 ?_
  refine gx_topi (show xs (nI (i + 2)).toNatClampNeg = xs (i + 2) from by rw [nI_clamp (by omega)]) ?_
  refine lv_i2l gX gB dL_law_617 rfl ?_
  refine gx_ldc2 (v := 4294967295) C (tq_6 2 (by decide +kernel) rfl) dL_law_618 ?_
  refine lv_land gX gB dL_law_621 ?_
  refine lv_lor gX gB dL_law_622 ?_
  refine gx_topl (show ((((xs (i + 1)).toInt64) <<< ((32 : Int32).toInt64 &&& 63)) ||| (((xs (i + 2)).toInt64) &&& 4294967295)) = sc_l xs (i + 1) from rfl) ?_
  refine lv_aload_n gX gB dL_law_623 rfl (lv_at hl 5 rfl) ?_
  refine lv_iload gX gB dL_law_624 (lv_at hl 0 rfl) ?_
  refine lv_iconst (v := 3) gX gB dL_law_626 (by decide) ?_
  refine lv_iadd gX gB dL_law_627 ?_
  refine gx_topi (show ((nI i) + 3) = nI (i + 3) from nI_add i 3) ?_
  refine va_sld C.x C.b hX hbl hbA hW.2.2 (nI_in (by omega) (by omega)) dL_law_628 ?_
  refine gx_topi (show xs (nI (i + 3)).toNatClampNeg = xs (i + 3) from by rw [nI_clamp (by omega)]) ?_
  refine lv_i2l gX gB dL_law_629 rfl ?_
  refine lv_bipush (v := 32) gX gB dL_law_630 (by decide) ?_
  refine lv_lshl gX gB dL_law_632 rfl ?_
  refine lv_aload_n gX gB dL_law_633 rfl (lv_at hl 5 rfl) ?_
  refine lv_iload gX gB dL_law_634 (lv_at hl 0 rfl) ?_
  refine lv_iconst (v := 4) gX gB dL_law_636 (by decide) ?_
  refine lv_iadd gX gB dL_law_637 ?_
  refine gx_topi (show ((nI i) + 4) = nI (i + 4) from nI_add i 4) ?_
  refine va_sld C.x C.b hX hbl hbA hW.2.2 (nI_in (by omega) (by omega)) dL_law_638 ?_
  refine gx_topi (show xs (nI (i + 4)).toNatClampNeg = xs (i + 4) from by rw [nI_clamp (by omega)]) ?_
  refine lv_i2l gX gB dL_law_639 rfl ?_
  refine gx_ldc2 (v := 4294967295) C (tq_6 2 (by decide +kernel) rfl) dL_law_640 ?_
  refine lv_land gX gB dL_law_643 ?_
  refine lv_lor gX gB dL_law_644 ?_
  refine gx_topl (show ((((xs (i + 3)).toInt64) <<< ((32 : Int32).toInt64 &&& 63)) ||| (((xs (i + 4)).toInt64) &&& 4294967295)) = sc_l xs (i + 3) from rfl) ?_
  refine lv_aload_n gX gB dL_law_645 rfl (lv_at hl 5 rfl) ?_
  refine lv_iload gX gB dL_law_646 (lv_at hl 0 rfl) ?_
  refine lv_iconst (v := 5) gX gB dL_law_648 (by decide) ?_
  refine lv_iadd gX gB dL_law_649 ?_
  refine gx_topi (show ((nI i) + 5) = nI (i + 5) from nI_add i 5) ?_
  refine va_sld C.x C.b hX hbl hbA hW.2.2 (nI_in (by omega) (by omega)) dL_law_650 ?_
  refine gx_topi (show xs (nI (i + 5)).toNatClampNeg = xs (i + 5) from by rw [nI_clamp (by omega)]) ?_
  refine lv_i2l gX gB dL_law_651 rfl ?_
  refine lv_bipush (v := 32) gX gB dL_law_652 (by decide) ?_
  refine lv_lshl gX gB dL_law_654 rfl ?_
  refine lv_aload_n gX gB dL_law_655 rfl (lv_at hl 5 rfl) ?_
  refine lv_iload gX gB dL_law_656 (lv_at hl 0 rfl) ?_
  refine lv_bipush (v := 6) gX gB dL_law_658 (by decide) ?_
  refine lv_iadd gX gB dL_law_660 ?_
  refine gx_topi (show ((nI i) + 6) = nI (i + 6) from nI_add i 6) ?_
  refine va_sld C.x C.b hX hbl hbA hW.2.2 (nI_in (by omega) (by omega)) dL_law_661 ?_
  refine gx_topi (show xs (nI (i + 6)).toNatClampNeg = xs (i + 6) from by rw [nI_clamp (by omega)]) ?_
  refine lv_i2l gX gB dL_law_662 rfl ?_
  refine gx_ldc2 (v := 4294967295) C (tq_6 2 (by decide +kernel) rfl) dL_law_663 ?_
  refine lv_land gX gB dL_law_666 ?_
  refine lv_lor gX gB dL_law_667 ?_
  refine gx_topl (show ((((xs (i + 5)).toInt64) <<< ((32 : Int32).toInt64 &&& 63)) ||| (((xs (i + 6)).toInt64) &&& 4294967295)) = sc_l xs (i + 5) from rfl) ?_
  refine lv_aload_n gX gB dL_law_668 rfl (lv_at hl 2 rfl) ?_
  refine gx_callSH (wr := [(oD, .inl (G.2.1 4, 1, .inr (.inr (.inr (.inl gD))))), (ad 0, .inr (11, [.int cd, .int (nI pa.length), .ref (ad 1), .ref (ad 2), .ref (ad 3), .ref (ad 4), .ref (ad 5), .int (nI fa.length), .ref (ad 6), .ref (ad 7), .int (nI dn), .ref (ad 8), .long ex, .long ey, .long eg, .int (nI cn), .ref (ad 9), .ref (ad 10), .int (nI n), .int at0, .int fl, .int (nI ds.length), .ref (ad 11), .ref (ad 12)])), (ad 1, .inl (G.2.1 2, 16, .inr (.inl px))), (ad 2, .inl (G.2.1 2, 16, .inr (.inl py))), (ad 3, .inl (G.2.1 2, 16, .inr (.inl pz))), (ad 4, .inl (G.2.1 2, 16, .inr (.inl gr))), (ad 5, .inl (G.2.1 2, 16, .inr (.inl ou))), (ad 6, .inl (G.2.1 2, 12, .inr (.inl fx))), (ad 7, .inl (G.2.1 2, 12, .inr (.inl fy))), (ad 8, .inl (G.2.1 1, 8, .inl od)), (ad 9, .inl (G.2.1 1, 12, .inl cr)), (ad 10, .inl (G.2.1 1, 200, .inl ty)), (ad 11, .inl (G.2.1 1, 48, .inl to_)), (ad 12, .inl (G.2.1 1, 48, .inl dr))]) (rest := []) C hW sLH_92 (kL_person l G L f x _ hx fx0 ow g (sc_l xs (i + 1)) (sc_l xs (i + 3)) (sc_l xs (i + 5)) _ _ (kX5_person l hfl G L f x P F S X N T E (nI dn) hx fx0 (ex, ey, 0, eg, -1, 0) hE (sc_l xs (i + 1)) (sc_l xs (i + 3)) (sc_l xs (i + 5))) (fun v u h => h.2.elim (fun z => ⟨_, z.1⟩) (fun z => ⟨_, z.1⟩)) (fun E u h => h.2.1)) rfl ⟨(by dsimp only; omega), (by dsimp only; omega)⟩ hl.1 rfl (Nat.le_of_ble_eq_true rfl) dL_law_669 ⟨(by dsimp only; omega), (by dsimp only; omega)⟩ (fun v9 u9 H locs hp hW => ?_)
  rcases hp with ⟨r, u, hpo, rfl, rfl⟩ | ⟨u, hpx9, rfl, rfl⟩
  · have hW : gx_W G A s ([(oD, .inl (G.2.1 4, 1, .inr (.inr (.inr (.inl gD))))), (ad 0, .inr (11, [.int cd, .int (nI pa.length), .ref (ad 1), .ref (ad 2), .ref (ad 3), .ref (ad 4), .ref (ad 5), .int (nI fa.length), .ref (ad 6), .ref (ad 7), .int (nI dn), .ref (ad 8), .long ex, .long ey, .long eg, .int (nI cn), .ref (ad 9), .ref (ad 10), .int (nI n), .int at0, .int fl, .int (nI ds.length), .ref (ad 11), .ref (ad 12)])), (ad 1, .inl (G.2.1 2, 16, .inr (.inl px))), (ad 2, .inl (G.2.1 2, 16, .inr (.inl py))), (ad 3, .inl (G.2.1 2, 16, .inr (.inl pz))), (ad 4, .inl (G.2.1 2, 16, .inr (.inl gr))), (ad 5, .inl (G.2.1 2, 16, .inr (.inl ou))), (ad 6, .inl (G.2.1 2, 12, .inr (.inl fx))), (ad 7, .inl (G.2.1 2, 12, .inr (.inl fy))), (ad 8, .inl (G.2.1 1, 8, .inl od)), (ad 9, .inl (G.2.1 1, 12, .inl cr)), (ad 10, .inl (G.2.1 1, 200, .inl ty)), (ad 11, .inl (G.2.1 1, 48, .inl to_)), (ad 12, .inl (G.2.1 1, 48, .inl dr))] ++ ([(ow, .inl (G.2.1 2, 1, .inr (.inl (vp_updL g 0 (if r = 0 then 0 else 1)))))] ++ u)) H locs := hW
    refine W.eq (g2 := F0 m 672 ls [.int 0]) rfl ?_
    refine W.widen (k := cells + 4) (n := slots + 24) (by dsimp only; omega) (by dsimp only; omega) ?_
    refine lv_istore (lv' := [(6, .int 0), (5, .int (nI i)), (4, .ref oD), (3, .ref ow), (2, .ref (ad 0)), (1, .ref x), (0, .ref b0)]) gX gB dL_law_672 hl (by decide) rfl (fun ls hl => ?_)
    refine lv_aload_n gX gB dL_law_674 rfl (lv_at hl 4 rfl) ?_
    refine lv_aload_n gX gB dL_law_675 rfl (lv_at hl 6 rfl) ?_
    refine lv_iload gX gB dL_law_676 (lv_at hl 1 rfl) ?_
    refine lv_iconst (v := 1) gX gB dL_law_678 (by decide) ?_
    refine lv_iadd gX gB dL_law_679 ?_
    refine gx_topi (show ((nI i) + 1) = nI (i + 1) from nI_add i 1) ?_
    refine va_sld C.x C.b hX hbl hbA hW.2.2 (nI_in (by omega) (by omega)) dL_law_680 ?_
    refine gx_topi (show xs (nI (i + 1)).toNatClampNeg = xs (i + 1) from by rw [nI_clamp (by omega)]) ?_
    refine lv_i2l gX gB dL_law_681 rfl ?_
    refine lv_bipush (v := 32) gX gB dL_law_682 (by decide) ?_
    refine lv_lshl gX gB dL_law_684 rfl ?_
    refine lv_aload_n gX gB dL_law_685 rfl (lv_at hl 6 rfl) ?_
    refine lv_iload gX gB dL_law_686 (lv_at hl 1 rfl) ?_
    refine lv_iconst (v := 2) gX gB dL_law_688 (by decide) ?_
    refine lv_iadd gX gB dL_law_689 ?_
    refine gx_topi (show ((nI i) + 2) = nI (i + 2) from nI_add i 2) ?_
    refine va_sld C.x C.b hX hbl hbA hW.2.2 (nI_in (by omega) (by omega)) dL_law_690 ?_
    refine gx_topi (show xs (nI (i + 2)).toNatClampNeg = xs (i + 2) from by rw [nI_clamp (by omega)]) ?_
    refine lv_i2l gX gB dL_law_691 rfl ?_
    refine gx_ldc2 (v := 4294967295) C (tq_6 2 (by decide +kernel) rfl) dL_law_692 ?_
    refine lv_land gX gB dL_law_695 ?_
    refine lv_lor gX gB dL_law_696 ?_
    refine gx_topl (show ((((xs (i + 1)).toInt64) <<< ((32 : Int32).toInt64 &&& 63)) ||| (((xs (i + 2)).toInt64) &&& 4294967295)) = sc_l xs (i + 1) from rfl) ?_
    refine lv_aload_n gX gB dL_law_697 rfl (lv_at hl 6 rfl) ?_
    refine lv_iload gX gB dL_law_698 (lv_at hl 1 rfl) ?_
    refine lv_iconst (v := 3) gX gB dL_law_700 (by decide) ?_
    refine lv_iadd gX gB dL_law_701 ?_
    refine gx_topi (show ((nI i) + 3) = nI (i + 3) from nI_add i 3) ?_
    refine va_sld C.x C.b hX hbl hbA hW.2.2 (nI_in (by omega) (by omega)) dL_law_702 ?_
    refine gx_topi (show xs (nI (i + 3)).toNatClampNeg = xs (i + 3) from by rw [nI_clamp (by omega)]) ?_
    refine lv_i2l gX gB dL_law_703 rfl ?_
    refine lv_bipush (v := 32) gX gB dL_law_704 (by decide) ?_
    refine lv_lshl gX gB dL_law_706 rfl ?_
    refine lv_aload_n gX gB dL_law_707 rfl (lv_at hl 6 rfl) ?_
    refine lv_iload gX gB dL_law_708 (lv_at hl 1 rfl) ?_
    refine lv_iconst (v := 4) gX gB dL_law_710 (by decide) ?_
    refine lv_iadd gX gB dL_law_711 ?_
    refine gx_topi (show ((nI i) + 4) = nI (i + 4) from nI_add i 4) ?_
    refine va_sld C.x C.b hX hbl hbA hW.2.2 (nI_in (by omega) (by omega)) dL_law_712 ?_
    refine gx_topi (show xs (nI (i + 4)).toNatClampNeg = xs (i + 4) from by rw [nI_clamp (by omega)]) ?_
    refine lv_i2l gX gB dL_law_713 rfl ?_
    refine gx_ldc2 (v := 4294967295) C (tq_6 2 (by decide +kernel) rfl) dL_law_714 ?_
    refine lv_land gX gB dL_law_717 ?_
    refine lv_lor gX gB dL_law_718 ?_
    refine gx_topl (show ((((xs (i + 3)).toInt64) <<< ((32 : Int32).toInt64 &&& 63)) ||| (((xs (i + 4)).toInt64) &&& 4294967295)) = sc_l xs (i + 3) from rfl) ?_
    refine lv_aload_n gX gB dL_law_719 rfl (lv_at hl 6 rfl) ?_
    refine lv_iload gX gB dL_law_720 (lv_at hl 1 rfl) ?_
    refine lv_iconst (v := 5) gX gB dL_law_722 (by decide) ?_
    refine lv_iadd gX gB dL_law_723 ?_
    refine gx_topi (show ((nI i) + 5) = nI (i + 5) from nI_add i 5) ?_
    refine va_sld C.x C.b hX hbl hbA hW.2.2 (nI_in (by omega) (by omega)) dL_law_724 ?_
    refine gx_topi (show xs (nI (i + 5)).toNatClampNeg = xs (i + 5) from by rw [nI_clamp (by omega)]) ?_
    refine lv_i2l gX gB dL_law_725 rfl ?_
    refine lv_bipush (v := 32) gX gB dL_law_726 (by decide) ?_
    refine lv_lshl gX gB dL_law_728 rfl ?_
    refine lv_aload_n gX gB dL_law_729 rfl (lv_at hl 6 rfl) ?_
    refine lv_iload gX gB dL_law_730 (lv_at hl 1 rfl) ?_
    refine lv_bipush (v := 6) gX gB dL_law_732 (by decide) ?_
    refine lv_iadd gX gB dL_law_734 ?_
    refine gx_topi (show ((nI i) + 6) = nI (i + 6) from nI_add i 6) ?_
    refine va_sld C.x C.b hX hbl hbA hW.2.2 (nI_in (by omega) (by omega)) dL_law_735 ?_
    refine gx_topi (show xs (nI (i + 6)).toNatClampNeg = xs (i + 6) from by rw [nI_clamp (by omega)]) ?_
    refine lv_i2l gX gB dL_law_736 rfl ?_
    refine gx_ldc2 (v := 4294967295) C (tq_6 2 (by decide +kernel) rfl) dL_law_737 ?_
    refine lv_land gX gB dL_law_740 ?_
    refine lv_lor gX gB dL_law_741 ?_
    refine gx_topl (show ((((xs (i + 5)).toInt64) <<< ((32 : Int32).toInt64 &&& 63)) ||| (((xs (i + 6)).toInt64) &&& 4294967295)) = sc_l xs (i + 5) from rfl) ?_
    have hW := gx_W.toM hW
    have hW : gx_W G A s ((([(ow, .inl (G.2.1 2, 1, .inr (.inl (vp_updL g 0 (if r = 0 then 0 else 1)))))] ++ u) ++ [(oD, .inl (G.2.1 4, 1, .inr (.inr (.inr (.inl gD)))))]) ++ [(ad 0, .inr (11, [.int cd, .int (nI pa.length), .ref (ad 1), .ref (ad 2), .ref (ad 3), .ref (ad 4), .ref (ad 5), .int (nI fa.length), .ref (ad 6), .ref (ad 7), .int (nI dn), .ref (ad 8), .long ex, .long ey, .long eg, .int (nI cn), .ref (ad 9), .ref (ad 10), .int (nI n), .int at0, .int fl, .int (nI ds.length), .ref (ad 11), .ref (ad 12)])), (ad 1, .inl (G.2.1 2, 16, .inr (.inl px))), (ad 2, .inl (G.2.1 2, 16, .inr (.inl py))), (ad 3, .inl (G.2.1 2, 16, .inr (.inl pz))), (ad 4, .inl (G.2.1 2, 16, .inr (.inl gr))), (ad 5, .inl (G.2.1 2, 16, .inr (.inl ou))), (ad 6, .inl (G.2.1 2, 12, .inr (.inl fx))), (ad 7, .inl (G.2.1 2, 12, .inr (.inl fy))), (ad 8, .inl (G.2.1 1, 8, .inl od)), (ad 9, .inl (G.2.1 1, 12, .inl cr)), (ad 10, .inl (G.2.1 1, 200, .inl ty)), (ad 11, .inl (G.2.1 1, 48, .inl to_)), (ad 12, .inl (G.2.1 1, 48, .inl dr))]) H locs := hW
    refine gx_callV (wr := ([(ow, .inl (G.2.1 2, 1, .inr (.inl (vp_updL g 0 (if r = 0 then 0 else 1)))))] ++ u) ++ [(oD, .inl (G.2.1 4, 1, .inr (.inr (.inr (.inl gD)))))]) (rest := []) C hW sL_95 (kX6_person l G ad cd pa.length fa.length dn cn n ds.length ex ey eg at0 fl px py pz gr ou fx fy od cr ty to_ dr (sc_l xs (i + 1)) (sc_l xs (i + 3)) (sc_l xs (i + 5))) ⟨0, rfl⟩ rfl rfl ⟨(by dsimp only; omega), (by dsimp only; omega)⟩ hl.1 rfl (Nat.le_of_ble_eq_true rfl) dL_law_742 ⟨(by dsimp only; omega), (by dsimp only; omega)⟩ (fun v9 u9 H locs hm hW => ?_)
    obtain ⟨bb, rfl, hval, hout⟩ := pr_person_0 (ow := ow) (oD := oD) (cd := cd) (at0 := at0) (fl := fl) (dr := dr) hrl hpo hm
    obtain ⟨cd9, pn9, fn9, dn9, cn9, sn9, tn9, ex9, ey9, eg9, at9, fl9, px9, py9, pz9, gr9, ou9, fx9, fy9, od9, cr9, ty9, to9, dr9, rfl, hcd, hnew⟩ := hout
    have hW : gx_W G A s ((([(ow, .inl (G.2.1 2, 1, .inr (.inl (vp_updL g 0 (if r = 0 then 0 else 1)))))] ++ u) ++ [(oD, .inl (G.2.1 4, 1, .inr (.inr (.inr (.inl gD)))))]) ++ [(ad 0, .inr (11, [.int cd9, .int (nI pn9), .ref (ad 1), .ref (ad 2), .ref (ad 3), .ref (ad 4), .ref (ad 5), .int (nI fn9), .ref (ad 6), .ref (ad 7), .int (nI dn9), .ref (ad 8), .long ex9, .long ey9, .long eg9, .int (nI cn9), .ref (ad 9), .ref (ad 10), .int (nI sn9), .int at9, .int fl9, .int (nI tn9), .ref (ad 11), .ref (ad 12)])), (ad 1, .inl (G.2.1 2, 16, .inr (.inl px9))), (ad 2, .inl (G.2.1 2, 16, .inr (.inl py9))), (ad 3, .inl (G.2.1 2, 16, .inr (.inl pz9))), (ad 4, .inl (G.2.1 2, 16, .inr (.inl gr9))), (ad 5, .inl (G.2.1 2, 16, .inr (.inl ou9))), (ad 6, .inl (G.2.1 2, 12, .inr (.inl fx9))), (ad 7, .inl (G.2.1 2, 12, .inr (.inl fy9))), (ad 8, .inl (G.2.1 1, 8, .inl od9)), (ad 9, .inl (G.2.1 1, 12, .inl cr9)), (ad 10, .inl (G.2.1 1, 200, .inl ty9)), (ad 11, .inl (G.2.1 1, 48, .inl to9)), (ad 12, .inl (G.2.1 1, 48, .inl dr9))]) H locs := hW
    refine W.eq (g2 := F0 m 745 ls [.int bb]) rfl ?_
    refine W.widen (k := cells + 4 + 0) (n := slots + 24 + 0) (by dsimp only; omega) (by dsimp only; omega) ?_
    refine lv_istore (lv' := [(7, .int bb), (6, .int 0), (5, .int (nI i)), (4, .ref oD), (3, .ref ow), (2, .ref (ad 0)), (1, .ref x), (0, .ref b0)]) gX gB dL_law_745 hl (by decide) rfl (fun ls hl => ?_)
    refine lv_aload_n gX gB dL_law_747 rfl (lv_at hl 5 rfl) ?_
    refine gx_callV (wr := ([(ow, .inl (G.2.1 2, 1, .inr (.inl (vp_updL g 0 (if r = 0 then 0 else 1)))))] ++ u) ++ [(oD, .inl (G.2.1 4, 1, .inr (.inr (.inr (.inl gD)))))]) (rest := []) C hW sL_81 (kX6_thrown l G ad cd9 pn9 fn9 dn9 cn9 sn9 tn9 ex9 ey9 eg9 at9 fl9 px9 py9 pz9 gr9 ou9 fx9 fy9 od9 cr9 ty9 to9 dr9) ⟨0, rfl⟩ rfl rfl ⟨(by dsimp only; omega), (by dsimp only; omega)⟩ hl.1 rfl (Nat.le_of_ble_eq_true rfl) dL_law_748 ⟨(by dsimp only; omega), (by dsimp only; omega)⟩ (fun v9 u9 H locs hp hW => ?_)
    obtain ⟨rfl, rfl⟩ := hp
    have hW : gx_W G A s ((([(ow, .inl (G.2.1 2, 1, .inr (.inl (vp_updL g 0 (if r = 0 then 0 else 1)))))] ++ u) ++ [(oD, .inl (G.2.1 4, 1, .inr (.inr (.inr (.inl gD)))))]) ++ [(ad 0, .inr (11, [.int cd9, .int (nI pn9), .ref (ad 1), .ref (ad 2), .ref (ad 3), .ref (ad 4), .ref (ad 5), .int (nI fn9), .ref (ad 6), .ref (ad 7), .int (nI dn9), .ref (ad 8), .long ex9, .long ey9, .long eg9, .int (nI cn9), .ref (ad 9), .ref (ad 10), .int (nI sn9), .int at9, .int fl9, .int (nI tn9), .ref (ad 11), .ref (ad 12)])), (ad 1, .inl (G.2.1 2, 16, .inr (.inl px9))), (ad 2, .inl (G.2.1 2, 16, .inr (.inl py9))), (ad 3, .inl (G.2.1 2, 16, .inr (.inl pz9))), (ad 4, .inl (G.2.1 2, 16, .inr (.inl gr9))), (ad 5, .inl (G.2.1 2, 16, .inr (.inl ou9))), (ad 6, .inl (G.2.1 2, 12, .inr (.inl fx9))), (ad 7, .inl (G.2.1 2, 12, .inr (.inl fy9))), (ad 8, .inl (G.2.1 1, 8, .inl od9)), (ad 9, .inl (G.2.1 1, 12, .inl cr9)), (ad 10, .inl (G.2.1 1, 200, .inl ty9)), (ad 11, .inl (G.2.1 1, 48, .inl to9)), (ad 12, .inl (G.2.1 1, 48, .inl dr9))]) H locs := hW
    refine W.eq (g2 := F0 m 751 ls [.int cd9]) rfl ?_
    refine W.widen (k := cells + 4 + 0 + 0) (n := slots + 24 + 0 + 0) (by dsimp only; omega) (by dsimp only; omega) ?_
    refine lv_iload gX gB dL_law_751 (lv_at hl 1 rfl) ?_
    refine lv_icmp_eq (tgt := 758) gX gB dL_law_753 (by decide) (fun _ => ?_) (fun h9 => absurd (show cd9 = (0 : Int32) from hcd) h9)
    refine lv_iload gX gB dL_law_758 (lv_at hl 1 rfl) ?_
    refine lv_if_ne (tgt := 782) gX gB dL_law_760 (by decide) (fun h9 => absurd (show ¬ 0 = (0 : Int32) from h9) (by decide)) (fun _ => ?_)
    refine lv_aload_n gX gB dL_law_763 rfl (lv_at hl 4 rfl) ?_
    refine lv_iconst (v := 0) gX gB dL_law_764 (by decide) ?_
    refine gx_lald C hW (a := ow) (g := vp_updL g 0 (if r = 0 then 0 else 1)) (j := 0) ⟨0, rfl⟩ rfl (by decide) (by decide) dL_law_765 ?_
    refine gx_topl (show (vp_updL g 0 (if r = 0 then 0 else 1)) 0 = (if r = 0 then 0 else 1) from ul_eq) ?_
    refine lv_iload gX gB dL_law_766 (lv_at hl 0 rfl) ?_
    refine lv_if_eq (tgt := 775) gX gB dL_law_768 (by decide) (fun c768 => ?_) (fun c768 => ?_)
    · refine lv_lconst (v := 0) gX gB dL_law_775 (by decide) ?_
      refine gx_lc_eq (tgt := 782) C dL_law_776 dL_law_777 (by decide) (fun _ => ?_) (fun h9 => absurd (show (if r = 0 then 0 else 1) = (0 : Int64) from by rw [hval, if_pos c768]) h9)
      refine lv_goto (tgt := 1766) gX gB dL_law_782 (by decide) ?_
      have hW := gx_W.ofM hW
      refine W.widen (k := cells + 64) (n := slots + 2000) (by omega) (by omega) ?_
      exact kk _ _ _ _ (hnew _ _) hW (lv_sub hl [2, 3, 4, 5, 6, 7] rfl)
    · refine lv_lconst (v := 1) gX gB dL_law_771 (by decide) ?_
      refine lv_goto (tgt := 776) gX gB dL_law_772 (by decide) ?_
      refine gx_lc_eq (tgt := 782) C dL_law_776 dL_law_777 (by decide) (fun _ => ?_) (fun h9 => absurd (show (if r = 0 then 0 else 1) = (1 : Int64) from by rw [hval, if_neg c768]) h9)
      refine lv_goto (tgt := 1766) gX gB dL_law_782 (by decide) ?_
      have hW := gx_W.ofM hW
      refine W.widen (k := cells + 64) (n := slots + 2000) (by omega) (by omega) ?_
      exact kk _ _ _ _ (hnew _ _) hW (lv_sub hl [2, 3, 4, 5, 6, 7] rfl)
  · have hW : gx_W G A s ([(oD, .inl (G.2.1 4, 1, .inr (.inr (.inr (.inl gD))))), (ad 0, .inr (11, [.int cd, .int (nI pa.length), .ref (ad 1), .ref (ad 2), .ref (ad 3), .ref (ad 4), .ref (ad 5), .int (nI fa.length), .ref (ad 6), .ref (ad 7), .int (nI dn), .ref (ad 8), .long ex, .long ey, .long eg, .int (nI cn), .ref (ad 9), .ref (ad 10), .int (nI n), .int at0, .int fl, .int (nI ds.length), .ref (ad 11), .ref (ad 12)])), (ad 1, .inl (G.2.1 2, 16, .inr (.inl px))), (ad 2, .inl (G.2.1 2, 16, .inr (.inl py))), (ad 3, .inl (G.2.1 2, 16, .inr (.inl pz))), (ad 4, .inl (G.2.1 2, 16, .inr (.inl gr))), (ad 5, .inl (G.2.1 2, 16, .inr (.inl ou))), (ad 6, .inl (G.2.1 2, 12, .inr (.inl fx))), (ad 7, .inl (G.2.1 2, 12, .inr (.inl fy))), (ad 8, .inl (G.2.1 1, 8, .inl od)), (ad 9, .inl (G.2.1 1, 12, .inl cr)), (ad 10, .inl (G.2.1 1, 200, .inl ty)), (ad 11, .inl (G.2.1 1, 48, .inl to_)), (ad 12, .inl (G.2.1 1, 48, .inl dr))] ++ ([(ow, .inl (G.2.1 2, 1, .inr (.inl g)))] ++ u)) H locs := hW
    refine W.eq (g2 := F0 m 672 ls [.int 1]) rfl ?_
    refine W.widen (k := cells + 4) (n := slots + 24) (by dsimp only; omega) (by dsimp only; omega) ?_
    refine lv_istore (lv' := [(6, .int 1), (5, .int (nI i)), (4, .ref oD), (3, .ref ow), (2, .ref (ad 0)), (1, .ref x), (0, .ref b0)]) gX gB dL_law_672 hl (by decide) rfl (fun ls hl => ?_)
    refine lv_aload_n gX gB dL_law_674 rfl (lv_at hl 4 rfl) ?_
    refine lv_aload_n gX gB dL_law_675 rfl (lv_at hl 6 rfl) ?_
    refine lv_iload gX gB dL_law_676 (lv_at hl 1 rfl) ?_
    refine lv_iconst (v := 1) gX gB dL_law_678 (by decide) ?_
    refine lv_iadd gX gB dL_law_679 ?_
    refine gx_topi (show ((nI i) + 1) = nI (i + 1) from nI_add i 1) ?_
    refine va_sld C.x C.b hX hbl hbA hW.2.2 (nI_in (by omega) (by omega)) dL_law_680 ?_
    refine gx_topi (show xs (nI (i + 1)).toNatClampNeg = xs (i + 1) from by rw [nI_clamp (by omega)]) ?_
    refine lv_i2l gX gB dL_law_681 rfl ?_
    refine lv_bipush (v := 32) gX gB dL_law_682 (by decide) ?_
    refine lv_lshl gX gB dL_law_684 rfl ?_
    refine lv_aload_n gX gB dL_law_685 rfl (lv_at hl 6 rfl) ?_
    refine lv_iload gX gB dL_law_686 (lv_at hl 1 rfl) ?_
    refine lv_iconst (v := 2) gX gB dL_law_688 (by decide) ?_
    refine lv_iadd gX gB dL_law_689 ?_
    refine gx_topi (show ((nI i) + 2) = nI (i + 2) from nI_add i 2) ?_
    refine va_sld C.x C.b hX hbl hbA hW.2.2 (nI_in (by omega) (by omega)) dL_law_690 ?_
    refine gx_topi (show xs (nI (i + 2)).toNatClampNeg = xs (i + 2) from by rw [nI_clamp (by omega)]) ?_
    refine lv_i2l gX gB dL_law_691 rfl ?_
    refine gx_ldc2 (v := 4294967295) C (tq_6 2 (by decide +kernel) rfl) dL_law_692 ?_
    refine lv_land gX gB dL_law_695 ?_
    refine lv_lor gX gB dL_law_696 ?_
    refine gx_topl (show ((((xs (i + 1)).toInt64) <<< ((32 : Int32).toInt64 &&& 63)) ||| (((xs (i + 2)).toInt64) &&& 4294967295)) = sc_l xs (i + 1) from rfl) ?_
    refine lv_aload_n gX gB dL_law_697 rfl (lv_at hl 6 rfl) ?_
    refine lv_iload gX gB dL_law_698 (lv_at hl 1 rfl) ?_
    refine lv_iconst (v := 3) gX gB dL_law_700 (by decide) ?_
    refine lv_iadd gX gB dL_law_701 ?_
    refine gx_topi (show ((nI i) + 3) = nI (i + 3) from nI_add i 3) ?_
    refine va_sld C.x C.b hX hbl hbA hW.2.2 (nI_in (by omega) (by omega)) dL_law_702 ?_
    refine gx_topi (show xs (nI (i + 3)).toNatClampNeg = xs (i + 3) from by rw [nI_clamp (by omega)]) ?_
    refine lv_i2l gX gB dL_law_703 rfl ?_
    refine lv_bipush (v := 32) gX gB dL_law_704 (by decide) ?_
    refine lv_lshl gX gB dL_law_706 rfl ?_
    refine lv_aload_n gX gB dL_law_707 rfl (lv_at hl 6 rfl) ?_
    refine lv_iload gX gB dL_law_708 (lv_at hl 1 rfl) ?_
    refine lv_iconst (v := 4) gX gB dL_law_710 (by decide) ?_
    refine lv_iadd gX gB dL_law_711 ?_
    refine gx_topi (show ((nI i) + 4) = nI (i + 4) from nI_add i 4) ?_
    refine va_sld C.x C.b hX hbl hbA hW.2.2 (nI_in (by omega) (by omega)) dL_law_712 ?_
    refine gx_topi (show xs (nI (i + 4)).toNatClampNeg = xs (i + 4) from by rw [nI_clamp (by omega)]) ?_
    refine lv_i2l gX gB dL_law_713 rfl ?_
    refine gx_ldc2 (v := 4294967295) C (tq_6 2 (by decide +kernel) rfl) dL_law_714 ?_
    refine lv_land gX gB dL_law_717 ?_
    refine lv_lor gX gB dL_law_718 ?_
    refine gx_topl (show ((((xs (i + 3)).toInt64) <<< ((32 : Int32).toInt64 &&& 63)) ||| (((xs (i + 4)).toInt64) &&& 4294967295)) = sc_l xs (i + 3) from rfl) ?_
    refine lv_aload_n gX gB dL_law_719 rfl (lv_at hl 6 rfl) ?_
    refine lv_iload gX gB dL_law_720 (lv_at hl 1 rfl) ?_
    refine lv_iconst (v := 5) gX gB dL_law_722 (by decide) ?_
    refine lv_iadd gX gB dL_law_723 ?_
    refine gx_topi (show ((nI i) + 5) = nI (i + 5) from nI_add i 5) ?_
    refine va_sld C.x C.b hX hbl hbA hW.2.2 (nI_in (by omega) (by omega)) dL_law_724 ?_
    refine gx_topi (show xs (nI (i + 5)).toNatClampNeg = xs (i + 5) from by rw [nI_clamp (by omega)]) ?_
    refine lv_i2l gX gB dL_law_725 rfl ?_
    refine lv_bipush (v := 32) gX gB dL_law_726 (by decide) ?_
    refine lv_lshl gX gB dL_law_728 rfl ?_
    refine lv_aload_n gX gB dL_law_729 rfl (lv_at hl 6 rfl) ?_
    refine lv_iload gX gB dL_law_730 (lv_at hl 1 rfl) ?_
    refine lv_bipush (v := 6) gX gB dL_law_732 (by decide) ?_
    refine lv_iadd gX gB dL_law_734 ?_
    refine gx_topi (show ((nI i) + 6) = nI (i + 6) from nI_add i 6) ?_
    refine va_sld C.x C.b hX hbl hbA hW.2.2 (nI_in (by omega) (by omega)) dL_law_735 ?_
    refine gx_topi (show xs (nI (i + 6)).toNatClampNeg = xs (i + 6) from by rw [nI_clamp (by omega)]) ?_
    refine lv_i2l gX gB dL_law_736 rfl ?_
    refine gx_ldc2 (v := 4294967295) C (tq_6 2 (by decide +kernel) rfl) dL_law_737 ?_
    refine lv_land gX gB dL_law_740 ?_
    refine lv_lor gX gB dL_law_741 ?_
    refine gx_topl (show ((((xs (i + 5)).toInt64) <<< ((32 : Int32).toInt64 &&& 63)) ||| (((xs (i + 6)).toInt64) &&& 4294967295)) = sc_l xs (i + 5) from rfl) ?_
    have hW := gx_W.toM hW
    have hW : gx_W G A s ((([(ow, .inl (G.2.1 2, 1, .inr (.inl g)))] ++ u) ++ [(oD, .inl (G.2.1 4, 1, .inr (.inr (.inr (.inl gD)))))]) ++ [(ad 0, .inr (11, [.int cd, .int (nI pa.length), .ref (ad 1), .ref (ad 2), .ref (ad 3), .ref (ad 4), .ref (ad 5), .int (nI fa.length), .ref (ad 6), .ref (ad 7), .int (nI dn), .ref (ad 8), .long ex, .long ey, .long eg, .int (nI cn), .ref (ad 9), .ref (ad 10), .int (nI n), .int at0, .int fl, .int (nI ds.length), .ref (ad 11), .ref (ad 12)])), (ad 1, .inl (G.2.1 2, 16, .inr (.inl px))), (ad 2, .inl (G.2.1 2, 16, .inr (.inl py))), (ad 3, .inl (G.2.1 2, 16, .inr (.inl pz))), (ad 4, .inl (G.2.1 2, 16, .inr (.inl gr))), (ad 5, .inl (G.2.1 2, 16, .inr (.inl ou))), (ad 6, .inl (G.2.1 2, 12, .inr (.inl fx))), (ad 7, .inl (G.2.1 2, 12, .inr (.inl fy))), (ad 8, .inl (G.2.1 1, 8, .inl od)), (ad 9, .inl (G.2.1 1, 12, .inl cr)), (ad 10, .inl (G.2.1 1, 200, .inl ty)), (ad 11, .inl (G.2.1 1, 48, .inl to_)), (ad 12, .inl (G.2.1 1, 48, .inl dr))]) H locs := hW
    refine gx_callV (wr := ([(ow, .inl (G.2.1 2, 1, .inr (.inl g)))] ++ u) ++ [(oD, .inl (G.2.1 4, 1, .inr (.inr (.inr (.inl gD)))))]) (rest := []) C hW sL_95 (kX6_person l G ad cd pa.length fa.length dn cn n ds.length ex ey eg at0 fl px py pz gr ou fx fy od cr ty to_ dr (sc_l xs (i + 1)) (sc_l xs (i + 3)) (sc_l xs (i + 5))) ⟨0, rfl⟩ rfl rfl ⟨(by dsimp only; omega), (by dsimp only; omega)⟩ hl.1 rfl (Nat.le_of_ble_eq_true rfl) dL_law_742 ⟨(by dsimp only; omega), (by dsimp only; omega)⟩ (fun v9 u9 H locs hm hW => ?_)
    obtain ⟨bb, rfl, hval, hout⟩ := pr_person_1 (ow := ow) (oD := oD) (cd := cd) (at0 := at0) (fl := fl) (dr := dr) hrl hpx9 hm
    obtain ⟨cd9, pn9, fn9, dn9, cn9, sn9, tn9, ex9, ey9, eg9, at9, fl9, px9, py9, pz9, gr9, ou9, fx9, fy9, od9, cr9, ty9, to9, dr9, rfl, hcd, hnew⟩ := hout
    have hW : gx_W G A s ((([(ow, .inl (G.2.1 2, 1, .inr (.inl g)))] ++ u) ++ [(oD, .inl (G.2.1 4, 1, .inr (.inr (.inr (.inl gD)))))]) ++ [(ad 0, .inr (11, [.int cd9, .int (nI pn9), .ref (ad 1), .ref (ad 2), .ref (ad 3), .ref (ad 4), .ref (ad 5), .int (nI fn9), .ref (ad 6), .ref (ad 7), .int (nI dn9), .ref (ad 8), .long ex9, .long ey9, .long eg9, .int (nI cn9), .ref (ad 9), .ref (ad 10), .int (nI sn9), .int at9, .int fl9, .int (nI tn9), .ref (ad 11), .ref (ad 12)])), (ad 1, .inl (G.2.1 2, 16, .inr (.inl px9))), (ad 2, .inl (G.2.1 2, 16, .inr (.inl py9))), (ad 3, .inl (G.2.1 2, 16, .inr (.inl pz9))), (ad 4, .inl (G.2.1 2, 16, .inr (.inl gr9))), (ad 5, .inl (G.2.1 2, 16, .inr (.inl ou9))), (ad 6, .inl (G.2.1 2, 12, .inr (.inl fx9))), (ad 7, .inl (G.2.1 2, 12, .inr (.inl fy9))), (ad 8, .inl (G.2.1 1, 8, .inl od9)), (ad 9, .inl (G.2.1 1, 12, .inl cr9)), (ad 10, .inl (G.2.1 1, 200, .inl ty9)), (ad 11, .inl (G.2.1 1, 48, .inl to9)), (ad 12, .inl (G.2.1 1, 48, .inl dr9))]) H locs := hW
    refine W.eq (g2 := F0 m 745 ls [.int bb]) rfl ?_
    refine W.widen (k := cells + 4 + 0) (n := slots + 24 + 0) (by dsimp only; omega) (by dsimp only; omega) ?_
    refine lv_istore (lv' := [(7, .int bb), (6, .int 1), (5, .int (nI i)), (4, .ref oD), (3, .ref ow), (2, .ref (ad 0)), (1, .ref x), (0, .ref b0)]) gX gB dL_law_745 hl (by decide) rfl (fun ls hl => ?_)
    refine lv_aload_n gX gB dL_law_747 rfl (lv_at hl 5 rfl) ?_
    refine gx_callV (wr := ([(ow, .inl (G.2.1 2, 1, .inr (.inl g)))] ++ u) ++ [(oD, .inl (G.2.1 4, 1, .inr (.inr (.inr (.inl gD)))))]) (rest := []) C hW sL_81 (kX6_thrown l G ad cd9 pn9 fn9 dn9 cn9 sn9 tn9 ex9 ey9 eg9 at9 fl9 px9 py9 pz9 gr9 ou9 fx9 fy9 od9 cr9 ty9 to9 dr9) ⟨0, rfl⟩ rfl rfl ⟨(by dsimp only; omega), (by dsimp only; omega)⟩ hl.1 rfl (Nat.le_of_ble_eq_true rfl) dL_law_748 ⟨(by dsimp only; omega), (by dsimp only; omega)⟩ (fun v9 u9 H locs hp hW => ?_)
    obtain ⟨rfl, rfl⟩ := hp
    have hW : gx_W G A s ((([(ow, .inl (G.2.1 2, 1, .inr (.inl g)))] ++ u) ++ [(oD, .inl (G.2.1 4, 1, .inr (.inr (.inr (.inl gD)))))]) ++ [(ad 0, .inr (11, [.int cd9, .int (nI pn9), .ref (ad 1), .ref (ad 2), .ref (ad 3), .ref (ad 4), .ref (ad 5), .int (nI fn9), .ref (ad 6), .ref (ad 7), .int (nI dn9), .ref (ad 8), .long ex9, .long ey9, .long eg9, .int (nI cn9), .ref (ad 9), .ref (ad 10), .int (nI sn9), .int at9, .int fl9, .int (nI tn9), .ref (ad 11), .ref (ad 12)])), (ad 1, .inl (G.2.1 2, 16, .inr (.inl px9))), (ad 2, .inl (G.2.1 2, 16, .inr (.inl py9))), (ad 3, .inl (G.2.1 2, 16, .inr (.inl pz9))), (ad 4, .inl (G.2.1 2, 16, .inr (.inl gr9))), (ad 5, .inl (G.2.1 2, 16, .inr (.inl ou9))), (ad 6, .inl (G.2.1 2, 12, .inr (.inl fx9))), (ad 7, .inl (G.2.1 2, 12, .inr (.inl fy9))), (ad 8, .inl (G.2.1 1, 8, .inl od9)), (ad 9, .inl (G.2.1 1, 12, .inl cr9)), (ad 10, .inl (G.2.1 1, 200, .inl ty9)), (ad 11, .inl (G.2.1 1, 48, .inl to9)), (ad 12, .inl (G.2.1 1, 48, .inl dr9))]) H locs := hW
    refine W.eq (g2 := F0 m 751 ls [.int cd9]) rfl ?_
    refine W.widen (k := cells + 4 + 0 + 0) (n := slots + 24 + 0 + 0) (by dsimp only; omega) (by dsimp only; omega) ?_
    refine lv_iload gX gB dL_law_751 (lv_at hl 1 rfl) ?_
    refine lv_icmp_eq (tgt := 758) gX gB dL_law_753 (by decide) (fun _ => ?_) (fun h9 => absurd (show cd9 = (1 : Int32) from hcd) h9)
    refine lv_iload gX gB dL_law_758 (lv_at hl 1 rfl) ?_
    refine lv_if_ne (tgt := 782) gX gB dL_law_760 (by decide) (fun _ => ?_) (fun h9 => absurd h9 (show ¬ 1 = (0 : Int32) from by decide))
    refine lv_goto (tgt := 1766) gX gB dL_law_782 (by decide) ?_
    have hW := gx_W.ofM hW
    refine W.widen (k := cells + 64) (n := slots + 2000) (by omega) (by omega) ?_
    exact kk _ _ _ _ (hnew _ _) hW (lv_sub hl [2, 3, 4, 5, 6, 7] rfl)
