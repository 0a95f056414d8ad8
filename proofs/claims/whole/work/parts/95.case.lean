/-! THE LAW: test, anchor, centre. -/
def ds_k (ds : List rt_T) (j : Nat) : Nat := (ds.getD j (0, 0, 0, 0)).2.2.2.toNatClampNeg
abbrev ds_t (ds : List rt_T) (j : Nat) : ld_T × Int32 := tr_d (ds.getD j (0, 0, 0, 0))
theorem dk_is {G : gx_T} {L : List Nat} {f : Nat → va_E} {x : Nat} {P F S X N T E : Nat} {dn : Nat} {bP : Option Nat} {pa : List Nat} {ps : Nat → ld_T} {bF : Option Nat} {fa : List Nat} {fd : Nat → ft_T} {bS : Option Nat} {sa : List Nat} {sd : Nat → sd_T} {b cap n : Nat} {t : Nat → Nat} {bT : Option Nat} {ta : List Nat} {ds : List rt_T} {ex ey eg : Int64} {cn : Nat} {cf : Nat → Nat} {px py pz gr ou fx fy : Nat → Int64} {od cr ty to_ : Nat → Int32} (h : rl_at G L f x P F S X N T E dn bP pa ps bF fa fd bS sa sd b cap n t bT ta ds ex ey eg cn cf px py pz gr ou fx fy od cr ty to_) {k : Nat} (hk : k < ds.length) : (ds.getD k (0, 0, 0, 0)).2.2.2 = nI (ds_k ds k) ∧ ds_k ds k < 2 ^ 31 := by
  obtain ⟨d, h1, h2⟩ := h.2.2.2.2.2.2.2.2.2.2.2.2.2.2.2.2.2.2.2.2.2.2.2.2.2.2.2.2.2.2.2.2.2.2.2.2.2.2.2.2.2.2.2.1 k hk
  unfold ds_k
  rw [h1, nI_clamp h2]
  exact ⟨rfl, h2⟩
theorem op_is {dn d : Nat} (h : dn ≤ 8) (hd : d < 2 ^ 31) : op_n (nI dn) (nI d) = nI (op_q dn d) := by
  unfold op_q
  show (if nI d < nI dn then nI d else nI dn) = _
  by_cases h1 : dn < d
  · rw [if_pos h1, if_neg (fun z => absurd ((nI_ltI hd (by omega)).mp z) (by omega))]
  · rw [if_neg h1]
    by_cases h2 : d < dn
    · rw [if_pos ((nI_ltI hd (by omega)).mpr h2)]
    · rw [if_neg (fun z => h2 ((nI_ltI hd (by omega)).mp z)), show d = dn by omega]
theorem tv_is {G : gx_T} {L : List Nat} {f : Nat → va_E} {x : Nat} {P F S X N T E : Nat} {dn : Nat} {bP : Option Nat} {pa : List Nat} {ps : Nat → ld_T} {bF : Option Nat} {fa : List Nat} {fd : Nat → ft_T} {bS : Option Nat} {sa : List Nat} {sd : Nat → sd_T} {b cap n : Nat} {t : Nat → Nat} {bT : Option Nat} {ta : List Nat} {ds : List rt_T} {ex ey eg : Int64} {cn : Nat} {cf : Nat → Nat} {px py pz gr ou fx fy : Nat → Int64} {od cr ty to_ : Nat → Int32} (h : rl_at G L f x P F S X N T E dn bP pa ps bF fa fd bS sa sd b cap n t bT ta ds ex ey eg cn cf px py pz gr ou fx fy od cr ty to_) {k : Nat} (hk : k < ds.length) (n0 : ¬ sa.length = 0) : vd_at (fun j => mo_of (sd j).2.1 (sd j).2.2 (op_n (nI dn) (ds_t ds k).2) (ds_t ds k).1 ps pa.length) sa.length = tv_at fx fy px gr (yy_f ps py ou) cf to_ (ds_k ds) dn cn pa.length k := by
  obtain ⟨h1, h2⟩ := dk_is h hk
  have h3 : op_n (nI dn) (ds_t ds k).2 = nI (op_q dn (ds_k ds k)) := by
    rw [← op_is (h.2.2.2.2.2.2.2.2.2.2.2.2.2.2.2.2.2.2.2.2.2.2.2.2.2.2.2.2.2.2.2.2.2.1) h2, ← h1]
    rfl
  obtain ⟨t1, t2, t3, -⟩ := h.2.2.2.2.2.2.2.2.2.2.2.2.2.2.2.2.2.2.2.2.2.2.2.2.2.2.2.2.2.2.2.2.2.2.2.2.2.2.2.2.2.2.1 k hk
  have h4 := vq_is h (op_q dn (ds_k ds k)) n0 (to_ (4 * k)).toInt64 (to_ (4 * k + 1)).toInt64 (to_ (4 * k + 2)).toInt64
  rw [h3]
  rw [t1, t2, t3] at h4
  unfold tv_at
  rw [t1, t2, t3]
  exact h4
theorem ts_inv {n s : Nat} {k w : Int32} (h : ts_code n s k w = 0) : ¬ k < 0 ∧ k < nI n ∧ ¬ w < 0 ∧ ¬ 2 < w ∧ (w = 0 → ¬ s = 0) := by
  unfold ts_code at h
  by_cases h1 : k < 0 ∨ ¬ k < nI n
  · rw [if_pos h1] at h
    exact absurd h (by decide)
  · rw [if_neg h1] at h
    by_cases h2 : w < 0 ∨ 2 < w
    · rw [if_pos h2] at h
      exact absurd h (by decide)
    · rw [if_neg h2] at h
      by_cases h3 : w = 0 ∧ s = 0
      · rw [if_pos h3] at h
        exact absurd h (by decide)
      · exact ⟨fun z => h1 (Or.inl z), Classical.not_not.mp fun z => h1 (Or.inr z), fun z => h2 (Or.inl z), fun z => h2 (Or.inr z), fun a b => h3 ⟨a, b⟩⟩
theorem an_cong {v w : Nat → Nat} {n : Nat} (h : ∀ j, j < n → v j = w j) : an_at v n = an_at w n := by
  by_cases h1 : ∀ j, j < n → v j = 0
  · rw [an_yes h1, an_yes (fun j hj => by rw [← h j hj]; exact h1 j hj)]
  · have h2 : ∃ j, j < n ∧ ¬ v j = 0 := Classical.byContradiction fun z => h1 (fun j hj => Classical.byContradiction fun y => z ⟨j, hj, y⟩)
    obtain ⟨j, hj, hv⟩ := h2
    rw [an_no hj hv, an_no hj (by rw [← h j hj]; exact hv)]
theorem px3_c1 {A B D : String} {c : Int32} (h : px3 A B D c A) (h1 : A ≠ B) (h2 : A ≠ D) : c = 1 := by
  rcases h with h | h | h
  · exact h.2
  · exact absurd h.1 h1
  · exact absurd h.1 h2
theorem px3_c2 {A B D : String} {c : Int32} (h : px3 A B D c B) (h1 : B ≠ A) (h2 : B ≠ D) : c = 2 := by
  rcases h with h | h | h
  · exact absurd h.1 h1
  · exact h.2
  · exact absurd h.1 h2
theorem px3_c3 {A B D : String} {c : Int32} (h : px3 A B D c D) (h1 : D ≠ A) (h2 : D ≠ B) : c = 3 := by
  rcases h with h | h | h
  · exact absurd h.1 h1
  · exact absurd h.1 h2
  · exact h.2
set_option maxRecDepth 100000 in
theorem pr_test_0 {G : gx_T} {L : List Nat} {f : Nat → va_E} {x ow oD : Nat} {ad : Nat → Nat} {P F S X N T E : Nat} {dn : Nat} {bP : Option Nat} {pa : List Nat} {ps : Nat → ld_T} {bF : Option Nat} {fa : List Nat} {fd : Nat → ft_T} {bS : Option Nat} {sa : List Nat} {sd : Nat → sd_T} {b cap n : Nat} {t : Nat → Nat} {bT : Option Nat} {ta : List Nat} {ds : List rt_T} {ex ey eg : Int64} {cn : Nat} {cf : Nat → Nat} {px py pz gr ou fx fy : Nat → Int64} {od cr ty to_ : Nat → Int32} {cd at0 fl : Int32} {dr : Nat → Int32} {p0 p1 : Int32} (hrl : rl_at G L f x P F S X N T E dn bP pa ps bF fa fd bS sa sd b cap n t bT ta ds ex ey eg cn cf px py pz gr ou fx fy od cr ty to_) {u M : va_W} {v : Option Value}  {r : Int32} (hpo : (fun (v : Option Value) (u : va_W) => v = some (.int (ts_val (ds_t ds) (nI dn) (fun p0 who => vd_at (fun j => mo_of (sd j).2.1 (sd j).2.2 p0 who ps pa.length) sa.length) p0 p1)) ∧ u = va_pl L f ∧ ts_code ta.length sa.length p0 p1 = 0) (some (.int r)) u) (hm : (fun (v : Option Value) (u : va_W) => (ts_code ds.length (sn_of cn) p0 p1 = 0 ∧ v = some (.int (if p1 = 1 then to_ (4 * p0.toNatClampNeg + 2) else if p1 = 2 then nI (op_q dn ((ds_k ds) p0.toNatClampNeg)) else nI (tv_at fx fy px gr (yy_f ps py ou) cf to_ (ds_k ds) dn cn pa.length p0.toNatClampNeg))) ∧ u = [(ad 0, .inr (11, [.int 0, .int (nI pa.length), .ref (ad 1), .ref (ad 2), .ref (ad 3), .ref (ad 4), .ref (ad 5), .int (nI fa.length), .ref (ad 6), .ref (ad 7), .int (nI dn), .ref (ad 8), .long ex, .long ey, .long eg, .int (nI cn), .ref (ad 9), .ref (ad 10), .int (nI n), .int at0, .int fl, .int (nI ds.length), .ref (ad 11), .ref (ad 12)])), (ad 1, .inl (G.2.1 2, 16, .inr (.inl px))), (ad 2, .inl (G.2.1 2, 16, .inr (.inl py))), (ad 3, .inl (G.2.1 2, 16, .inr (.inl pz))), (ad 4, .inl (G.2.1 2, 16, .inr (.inl gr))), (ad 5, .inl (G.2.1 2, 16, .inr (.inl ou))), (ad 6, .inl (G.2.1 2, 12, .inr (.inl fx))), (ad 7, .inl (G.2.1 2, 12, .inr (.inl fy))), (ad 8, .inl (G.2.1 1, 8, .inl od)), (ad 9, .inl (G.2.1 1, 12, .inl cr)), (ad 10, .inl (G.2.1 1, 200, .inl ty)), (ad 11, .inl (G.2.1 1, 48, .inl to_)), (ad 12, .inl (G.2.1 1, 48, .inl dr))]) ∨ (¬ ts_code ds.length (sn_of cn) p0 p1 = 0 ∧ v = some (.int 0) ∧ u = [(ad 0, .inr (11, [.int (ts_code ds.length (sn_of cn) p0 p1), .int (nI pa.length), .ref (ad 1), .ref (ad 2), .ref (ad 3), .ref (ad 4), .ref (ad 5), .int (nI fa.length), .ref (ad 6), .ref (ad 7), .int (nI dn), .ref (ad 8), .long ex, .long ey, .long eg, .int (nI cn), .ref (ad 9), .ref (ad 10), .int (nI n), .int at0, .int fl, .int (nI ds.length), .ref (ad 11), .ref (ad 12)])), (ad 1, .inl (G.2.1 2, 16, .inr (.inl px))), (ad 2, .inl (G.2.1 2, 16, .inr (.inl py))), (ad 3, .inl (G.2.1 2, 16, .inr (.inl pz))), (ad 4, .inl (G.2.1 2, 16, .inr (.inl gr))), (ad 5, .inl (G.2.1 2, 16, .inr (.inl ou))), (ad 6, .inl (G.2.1 2, 12, .inr (.inl fx))), (ad 7, .inl (G.2.1 2, 12, .inr (.inl fy))), (ad 8, .inl (G.2.1 1, 8, .inl od)), (ad 9, .inl (G.2.1 1, 12, .inl cr)), (ad 10, .inl (G.2.1 1, 200, .inl ty)), (ad 11, .inl (G.2.1 1, 48, .inl to_)), (ad 12, .inl (G.2.1 1, 48, .inl dr))])) v M) : ∃ bb : Int32, v = some (.int bb) ∧ r.toInt64 = bb.toInt64 ∧ lw_out G x ow oD ad 0 u M := by
  obtain ⟨e1, rfl, hc⟩ := hpo
  have slE := hrl.2.2.2.2.2.2.2.2.2.2.2.2.2.2.2.2.2.2.2.2.2.2.2.2.2.2.2.2.2.2.2.2.2.2.2.1
  have tl := hrl.2.2.2.2.2.2.2.2.2.2.2.2.2.2.2.2.2.2.2.2.2.2.2.2.2.2.2.2.2.2.2.1
  have t12 := hrl.2.2.2.2.2.2.2.2.2.2.2.2.2.2.2.2.2.2.2.2.2.2.2.2.2.2.2.2.2.2.1
  have d8 := hrl.2.2.2.2.2.2.2.2.2.2.2.2.2.2.2.2.2.2.2.2.2.2.2.2.2.2.2.2.2.2.2.2.2.1
  have rT := hrl.2.2.2.2.2.2.2.2.2.2.2.2.2.2.2.2.2.2.2.2.2.2.2.2.2.2.2.2.2.2.2.2.2.2.2.2.2.2.2.2.2.2.1
  rcases hm with ⟨-, rfl, rfl⟩ | ⟨h1, -, -⟩
  · injection e1 with e1
    injection e1 with e1
    obtain ⟨k0, k1, w0, w1, hs0⟩ := ts_inv hc
    obtain ⟨j, hj, rfl⟩ := nI_cases p0 (by omega) k0 k1
    have hj2 : j < ds.length := by omega
    obtain ⟨d1, d2⟩ := dk_is hrl hj2
    obtain ⟨-, -, t3, -⟩ := rT j hj2
    have hv : ts_val (ds_t ds) (nI dn) (fun k who => vd_at (fun j => mo_of (sd j).2.1 (sd j).2.2 k who ps pa.length) sa.length) (nI j) p1 = (if p1 = 1 then to_ (4 * (nI j).toNatClampNeg + 2) else if p1 = 2 then nI (op_q dn (ds_k ds (nI j).toNatClampNeg)) else nI (tv_at fx fy px gr (yy_f ps py ou) cf to_ (ds_k ds) dn cn pa.length (nI j).toNatClampNeg)) := by
      unfold ts_val
      rw [nI_clamp (by omega)]
      by_cases h1 : p1 = 1
      · rw [if_pos h1, if_pos h1, t3]
        exact Int32.toInt32_toInt64 _
      · rw [if_neg h1, if_neg h1]
        by_cases h2 : p1 = 2
        · rw [if_pos h2, if_pos h2, ← op_is d8 d2, ← d1]
          rfl
        · rw [if_neg h2, if_neg h2]
          exact congrArg nI (tv_is hrl hj2 (hs0 (ts_w w0 w1 h1 h2)))
    exact ⟨_, rfl, by rw [e1, hv], ⟨(0), pa.length, fa.length, dn, cn, n, ds.length, ex, ey, eg, at0, fl, px, py, pz, gr, ou, fx, fy, od, cr, ty, to_, dr, rfl, rfl, fun g gD => ⟨L, f, P, F, S, X, N, T, E, dn, bP, pa, ps, bF, fa, fd, bS, sa, sd, b, cap, n, t, bT, ta, ds, ex, ey, eg, cn, cf, px, py, pz, gr, ou, fx, fy, od, cr, ty, to_, _, at0, fl, dr, g, gD, rfl, hrl⟩⟩⟩
  · rw [← slE, ← tl] at h1
    exact absurd hc h1
set_option maxRecDepth 100000 in
theorem pr_test_1 {G : gx_T} {L : List Nat} {f : Nat → va_E} {x ow oD : Nat} {ad : Nat → Nat} {P F S X N T E : Nat} {dn : Nat} {bP : Option Nat} {pa : List Nat} {ps : Nat → ld_T} {bF : Option Nat} {fa : List Nat} {fd : Nat → ft_T} {bS : Option Nat} {sa : List Nat} {sd : Nat → sd_T} {b cap n : Nat} {t : Nat → Nat} {bT : Option Nat} {ta : List Nat} {ds : List rt_T} {ex ey eg : Int64} {cn : Nat} {cf : Nat → Nat} {px py pz gr ou fx fy : Nat → Int64} {od cr ty to_ : Nat → Int32} {cd at0 fl : Int32} {dr : Nat → Int32} {p0 p1 : Int32} (hrl : rl_at G L f x P F S X N T E dn bP pa ps bF fa fd bS sa sd b cap n t bT ta ds ex ey eg cn cf px py pz gr ou fx fy od cr ty to_) {u M : va_W} {v : Option Value}  (hpo : (fun (Ex : String) (u : va_W) => u = va_pl L f ∧ px3 gx_E3 gx_E2 gx_E1 (ts_code ta.length sa.length p0 p1) Ex) gx_E3 u) (hm : (fun (v : Option Value) (u : va_W) => (ts_code ds.length (sn_of cn) p0 p1 = 0 ∧ v = some (.int (if p1 = 1 then to_ (4 * p0.toNatClampNeg + 2) else if p1 = 2 then nI (op_q dn ((ds_k ds) p0.toNatClampNeg)) else nI (tv_at fx fy px gr (yy_f ps py ou) cf to_ (ds_k ds) dn cn pa.length p0.toNatClampNeg))) ∧ u = [(ad 0, .inr (11, [.int 0, .int (nI pa.length), .ref (ad 1), .ref (ad 2), .ref (ad 3), .ref (ad 4), .ref (ad 5), .int (nI fa.length), .ref (ad 6), .ref (ad 7), .int (nI dn), .ref (ad 8), .long ex, .long ey, .long eg, .int (nI cn), .ref (ad 9), .ref (ad 10), .int (nI n), .int at0, .int fl, .int (nI ds.length), .ref (ad 11), .ref (ad 12)])), (ad 1, .inl (G.2.1 2, 16, .inr (.inl px))), (ad 2, .inl (G.2.1 2, 16, .inr (.inl py))), (ad 3, .inl (G.2.1 2, 16, .inr (.inl pz))), (ad 4, .inl (G.2.1 2, 16, .inr (.inl gr))), (ad 5, .inl (G.2.1 2, 16, .inr (.inl ou))), (ad 6, .inl (G.2.1 2, 12, .inr (.inl fx))), (ad 7, .inl (G.2.1 2, 12, .inr (.inl fy))), (ad 8, .inl (G.2.1 1, 8, .inl od)), (ad 9, .inl (G.2.1 1, 12, .inl cr)), (ad 10, .inl (G.2.1 1, 200, .inl ty)), (ad 11, .inl (G.2.1 1, 48, .inl to_)), (ad 12, .inl (G.2.1 1, 48, .inl dr))]) ∨ (¬ ts_code ds.length (sn_of cn) p0 p1 = 0 ∧ v = some (.int 0) ∧ u = [(ad 0, .inr (11, [.int (ts_code ds.length (sn_of cn) p0 p1), .int (nI pa.length), .ref (ad 1), .ref (ad 2), .ref (ad 3), .ref (ad 4), .ref (ad 5), .int (nI fa.length), .ref (ad 6), .ref (ad 7), .int (nI dn), .ref (ad 8), .long ex, .long ey, .long eg, .int (nI cn), .ref (ad 9), .ref (ad 10), .int (nI n), .int at0, .int fl, .int (nI ds.length), .ref (ad 11), .ref (ad 12)])), (ad 1, .inl (G.2.1 2, 16, .inr (.inl px))), (ad 2, .inl (G.2.1 2, 16, .inr (.inl py))), (ad 3, .inl (G.2.1 2, 16, .inr (.inl pz))), (ad 4, .inl (G.2.1 2, 16, .inr (.inl gr))), (ad 5, .inl (G.2.1 2, 16, .inr (.inl ou))), (ad 6, .inl (G.2.1 2, 12, .inr (.inl fx))), (ad 7, .inl (G.2.1 2, 12, .inr (.inl fy))), (ad 8, .inl (G.2.1 1, 8, .inl od)), (ad 9, .inl (G.2.1 1, 12, .inl cr)), (ad 10, .inl (G.2.1 1, 200, .inl ty)), (ad 11, .inl (G.2.1 1, 48, .inl to_)), (ad 12, .inl (G.2.1 1, 48, .inl dr))])) v M) : ∃ bb : Int32, v = some (.int bb) ∧ True ∧ lw_out G x ow oD ad 1 u M := by
  obtain ⟨rfl, hp⟩ := hpo
  have slE := hrl.2.2.2.2.2.2.2.2.2.2.2.2.2.2.2.2.2.2.2.2.2.2.2.2.2.2.2.2.2.2.2.2.2.2.2.1
  have tl := hrl.2.2.2.2.2.2.2.2.2.2.2.2.2.2.2.2.2.2.2.2.2.2.2.2.2.2.2.2.2.2.2.1
  have hc := px3_c1 hp (by decide) (by decide)
  rcases hm with ⟨h1, -, -⟩ | ⟨-, rfl, rfl⟩
  · rw [← slE, ← tl, hc] at h1
    exact absurd h1 (by decide)
  · exact ⟨_, rfl, trivial, ⟨((ts_code ds.length (sn_of cn) p0 p1)), pa.length, fa.length, dn, cn, n, ds.length, ex, ey, eg, at0, fl, px, py, pz, gr, ou, fx, fy, od, cr, ty, to_, dr, rfl, (by rw [← slE, ← tl, hc]), fun g gD => ⟨L, f, P, F, S, X, N, T, E, dn, bP, pa, ps, bF, fa, fd, bS, sa, sd, b, cap, n, t, bT, ta, ds, ex, ey, eg, cn, cf, px, py, pz, gr, ou, fx, fy, od, cr, ty, to_, _, at0, fl, dr, g, gD, rfl, hrl⟩⟩⟩
set_option maxRecDepth 100000 in
theorem pr_test_2 {G : gx_T} {L : List Nat} {f : Nat → va_E} {x ow oD : Nat} {ad : Nat → Nat} {P F S X N T E : Nat} {dn : Nat} {bP : Option Nat} {pa : List Nat} {ps : Nat → ld_T} {bF : Option Nat} {fa : List Nat} {fd : Nat → ft_T} {bS : Option Nat} {sa : List Nat} {sd : Nat → sd_T} {b cap n : Nat} {t : Nat → Nat} {bT : Option Nat} {ta : List Nat} {ds : List rt_T} {ex ey eg : Int64} {cn : Nat} {cf : Nat → Nat} {px py pz gr ou fx fy : Nat → Int64} {od cr ty to_ : Nat → Int32} {cd at0 fl : Int32} {dr : Nat → Int32} {p0 p1 : Int32} (hrl : rl_at G L f x P F S X N T E dn bP pa ps bF fa fd bS sa sd b cap n t bT ta ds ex ey eg cn cf px py pz gr ou fx fy od cr ty to_) {u M : va_W} {v : Option Value}  (hpo : (fun (Ex : String) (u : va_W) => u = va_pl L f ∧ px3 gx_E3 gx_E2 gx_E1 (ts_code ta.length sa.length p0 p1) Ex) gx_E2 u) (hm : (fun (v : Option Value) (u : va_W) => (ts_code ds.length (sn_of cn) p0 p1 = 0 ∧ v = some (.int (if p1 = 1 then to_ (4 * p0.toNatClampNeg + 2) else if p1 = 2 then nI (op_q dn ((ds_k ds) p0.toNatClampNeg)) else nI (tv_at fx fy px gr (yy_f ps py ou) cf to_ (ds_k ds) dn cn pa.length p0.toNatClampNeg))) ∧ u = [(ad 0, .inr (11, [.int 0, .int (nI pa.length), .ref (ad 1), .ref (ad 2), .ref (ad 3), .ref (ad 4), .ref (ad 5), .int (nI fa.length), .ref (ad 6), .ref (ad 7), .int (nI dn), .ref (ad 8), .long ex, .long ey, .long eg, .int (nI cn), .ref (ad 9), .ref (ad 10), .int (nI n), .int at0, .int fl, .int (nI ds.length), .ref (ad 11), .ref (ad 12)])), (ad 1, .inl (G.2.1 2, 16, .inr (.inl px))), (ad 2, .inl (G.2.1 2, 16, .inr (.inl py))), (ad 3, .inl (G.2.1 2, 16, .inr (.inl pz))), (ad 4, .inl (G.2.1 2, 16, .inr (.inl gr))), (ad 5, .inl (G.2.1 2, 16, .inr (.inl ou))), (ad 6, .inl (G.2.1 2, 12, .inr (.inl fx))), (ad 7, .inl (G.2.1 2, 12, .inr (.inl fy))), (ad 8, .inl (G.2.1 1, 8, .inl od)), (ad 9, .inl (G.2.1 1, 12, .inl cr)), (ad 10, .inl (G.2.1 1, 200, .inl ty)), (ad 11, .inl (G.2.1 1, 48, .inl to_)), (ad 12, .inl (G.2.1 1, 48, .inl dr))]) ∨ (¬ ts_code ds.length (sn_of cn) p0 p1 = 0 ∧ v = some (.int 0) ∧ u = [(ad 0, .inr (11, [.int (ts_code ds.length (sn_of cn) p0 p1), .int (nI pa.length), .ref (ad 1), .ref (ad 2), .ref (ad 3), .ref (ad 4), .ref (ad 5), .int (nI fa.length), .ref (ad 6), .ref (ad 7), .int (nI dn), .ref (ad 8), .long ex, .long ey, .long eg, .int (nI cn), .ref (ad 9), .ref (ad 10), .int (nI n), .int at0, .int fl, .int (nI ds.length), .ref (ad 11), .ref (ad 12)])), (ad 1, .inl (G.2.1 2, 16, .inr (.inl px))), (ad 2, .inl (G.2.1 2, 16, .inr (.inl py))), (ad 3, .inl (G.2.1 2, 16, .inr (.inl pz))), (ad 4, .inl (G.2.1 2, 16, .inr (.inl gr))), (ad 5, .inl (G.2.1 2, 16, .inr (.inl ou))), (ad 6, .inl (G.2.1 2, 12, .inr (.inl fx))), (ad 7, .inl (G.2.1 2, 12, .inr (.inl fy))), (ad 8, .inl (G.2.1 1, 8, .inl od)), (ad 9, .inl (G.2.1 1, 12, .inl cr)), (ad 10, .inl (G.2.1 1, 200, .inl ty)), (ad 11, .inl (G.2.1 1, 48, .inl to_)), (ad 12, .inl (G.2.1 1, 48, .inl dr))])) v M) : ∃ bb : Int32, v = some (.int bb) ∧ True ∧ lw_out G x ow oD ad 2 u M := by
  obtain ⟨rfl, hp⟩ := hpo
  have slE := hrl.2.2.2.2.2.2.2.2.2.2.2.2.2.2.2.2.2.2.2.2.2.2.2.2.2.2.2.2.2.2.2.2.2.2.2.1
  have tl := hrl.2.2.2.2.2.2.2.2.2.2.2.2.2.2.2.2.2.2.2.2.2.2.2.2.2.2.2.2.2.2.2.1
  have hc := px3_c2 hp (by decide) (by decide)
  rcases hm with ⟨h1, -, -⟩ | ⟨-, rfl, rfl⟩
  · rw [← slE, ← tl, hc] at h1
    exact absurd h1 (by decide)
  · exact ⟨_, rfl, trivial, ⟨((ts_code ds.length (sn_of cn) p0 p1)), pa.length, fa.length, dn, cn, n, ds.length, ex, ey, eg, at0, fl, px, py, pz, gr, ou, fx, fy, od, cr, ty, to_, dr, rfl, (by rw [← slE, ← tl, hc]), fun g gD => ⟨L, f, P, F, S, X, N, T, E, dn, bP, pa, ps, bF, fa, fd, bS, sa, sd, b, cap, n, t, bT, ta, ds, ex, ey, eg, cn, cf, px, py, pz, gr, ou, fx, fy, od, cr, ty, to_, _, at0, fl, dr, g, gD, rfl, hrl⟩⟩⟩
set_option maxRecDepth 100000 in
theorem pr_test_3 {G : gx_T} {L : List Nat} {f : Nat → va_E} {x ow oD : Nat} {ad : Nat → Nat} {P F S X N T E : Nat} {dn : Nat} {bP : Option Nat} {pa : List Nat} {ps : Nat → ld_T} {bF : Option Nat} {fa : List Nat} {fd : Nat → ft_T} {bS : Option Nat} {sa : List Nat} {sd : Nat → sd_T} {b cap n : Nat} {t : Nat → Nat} {bT : Option Nat} {ta : List Nat} {ds : List rt_T} {ex ey eg : Int64} {cn : Nat} {cf : Nat → Nat} {px py pz gr ou fx fy : Nat → Int64} {od cr ty to_ : Nat → Int32} {cd at0 fl : Int32} {dr : Nat → Int32} {p0 p1 : Int32} (hrl : rl_at G L f x P F S X N T E dn bP pa ps bF fa fd bS sa sd b cap n t bT ta ds ex ey eg cn cf px py pz gr ou fx fy od cr ty to_) {u M : va_W} {v : Option Value}  (hpo : (fun (Ex : String) (u : va_W) => u = va_pl L f ∧ px3 gx_E3 gx_E2 gx_E1 (ts_code ta.length sa.length p0 p1) Ex) gx_E1 u) (hm : (fun (v : Option Value) (u : va_W) => (ts_code ds.length (sn_of cn) p0 p1 = 0 ∧ v = some (.int (if p1 = 1 then to_ (4 * p0.toNatClampNeg + 2) else if p1 = 2 then nI (op_q dn ((ds_k ds) p0.toNatClampNeg)) else nI (tv_at fx fy px gr (yy_f ps py ou) cf to_ (ds_k ds) dn cn pa.length p0.toNatClampNeg))) ∧ u = [(ad 0, .inr (11, [.int 0, .int (nI pa.length), .ref (ad 1), .ref (ad 2), .ref (ad 3), .ref (ad 4), .ref (ad 5), .int (nI fa.length), .ref (ad 6), .ref (ad 7), .int (nI dn), .ref (ad 8), .long ex, .long ey, .long eg, .int (nI cn), .ref (ad 9), .ref (ad 10), .int (nI n), .int at0, .int fl, .int (nI ds.length), .ref (ad 11), .ref (ad 12)])), (ad 1, .inl (G.2.1 2, 16, .inr (.inl px))), (ad 2, .inl (G.2.1 2, 16, .inr (.inl py))), (ad 3, .inl (G.2.1 2, 16, .inr (.inl pz))), (ad 4, .inl (G.2.1 2, 16, .inr (.inl gr))), (ad 5, .inl (G.2.1 2, 16, .inr (.inl ou))), (ad 6, .inl (G.2.1 2, 12, .inr (.inl fx))), (ad 7, .inl (G.2.1 2, 12, .inr (.inl fy))), (ad 8, .inl (G.2.1 1, 8, .inl od)), (ad 9, .inl (G.2.1 1, 12, .inl cr)), (ad 10, .inl (G.2.1 1, 200, .inl ty)), (ad 11, .inl (G.2.1 1, 48, .inl to_)), (ad 12, .inl (G.2.1 1, 48, .inl dr))]) ∨ (¬ ts_code ds.length (sn_of cn) p0 p1 = 0 ∧ v = some (.int 0) ∧ u = [(ad 0, .inr (11, [.int (ts_code ds.length (sn_of cn) p0 p1), .int (nI pa.length), .ref (ad 1), .ref (ad 2), .ref (ad 3), .ref (ad 4), .ref (ad 5), .int (nI fa.length), .ref (ad 6), .ref (ad 7), .int (nI dn), .ref (ad 8), .long ex, .long ey, .long eg, .int (nI cn), .ref (ad 9), .ref (ad 10), .int (nI n), .int at0, .int fl, .int (nI ds.length), .ref (ad 11), .ref (ad 12)])), (ad 1, .inl (G.2.1 2, 16, .inr (.inl px))), (ad 2, .inl (G.2.1 2, 16, .inr (.inl py))), (ad 3, .inl (G.2.1 2, 16, .inr (.inl pz))), (ad 4, .inl (G.2.1 2, 16, .inr (.inl gr))), (ad 5, .inl (G.2.1 2, 16, .inr (.inl ou))), (ad 6, .inl (G.2.1 2, 12, .inr (.inl fx))), (ad 7, .inl (G.2.1 2, 12, .inr (.inl fy))), (ad 8, .inl (G.2.1 1, 8, .inl od)), (ad 9, .inl (G.2.1 1, 12, .inl cr)), (ad 10, .inl (G.2.1 1, 200, .inl ty)), (ad 11, .inl (G.2.1 1, 48, .inl to_)), (ad 12, .inl (G.2.1 1, 48, .inl dr))])) v M) : ∃ bb : Int32, v = some (.int bb) ∧ True ∧ lw_out G x ow oD ad 3 u M := by
  obtain ⟨rfl, hp⟩ := hpo
  have slE := hrl.2.2.2.2.2.2.2.2.2.2.2.2.2.2.2.2.2.2.2.2.2.2.2.2.2.2.2.2.2.2.2.2.2.2.2.1
  have tl := hrl.2.2.2.2.2.2.2.2.2.2.2.2.2.2.2.2.2.2.2.2.2.2.2.2.2.2.2.2.2.2.2.1
  have hc := px3_c3 hp (by decide) (by decide)
  rcases hm with ⟨h1, -, -⟩ | ⟨-, rfl, rfl⟩
  · rw [← slE, ← tl, hc] at h1
    exact absurd h1 (by decide)
  · exact ⟨_, rfl, trivial, ⟨((ts_code ds.length (sn_of cn) p0 p1)), pa.length, fa.length, dn, cn, n, ds.length, ex, ey, eg, at0, fl, px, py, pz, gr, ou, fx, fy, od, cr, ty, to_, dr, rfl, (by rw [← slE, ← tl, hc]), fun g gD => ⟨L, f, P, F, S, X, N, T, E, dn, bP, pa, ps, bF, fa, fd, bS, sa, sd, b, cap, n, t, bT, ta, ds, ex, ey, eg, cn, cf, px, py, pz, gr, ou, fx, fy, od, cr, ty, to_, _, at0, fl, dr, g, gD, rfl, hrl⟩⟩⟩
set_option maxHeartbeats 8000000 in
set_option maxRecDepth 100000 in
theorem lc_test {l : Launch} (hfl : l.flags = flags0) {p : Program} {e : Env} {R : Room} {s : State} {m : MethodId} {below : List Frame} {meth : Method} {c : Code} {A : Nat → Prop} {G : gx_T} {b0 Ls : Nat} {xs : Nat → Int32} {x ow oD : Nat} {ad : Nat → Nat} {H : Heap} {locs : List Loc} {cells slots : Nat} {Q : State → Prop} {ls : Array Slot} {i : Nat} {ws : va_W} (C : gx_C G p s m #[Value.ref b0] meth c cL_law 9 RL A) (hX : va_X b0 Ls xs s s.heap) (hbl : b0 < s.heap.size) (hbA : ¬ A b0) (hi : i + 9 ≤ Ls) (hLs : Ls ≤ 4608) (hR : 100 ≤ R.frames ∧ 4000 ≤ R.locals ∧ cells + 64 ≤ R.cells ∧ slots + 2000 ≤ R.slots) (hinv : lw_inv G x ow oD ad ws) (hW : gx_W G A s ws H locs) (hl : lv_has ls 9 [(5, .int (nI i)), (4, .ref oD), (3, .ref ow), (2, .ref (ad 0)), (1, .ref x), (0, .ref b0)]) (kk : ∀ (ws2 : va_W) (H2 : Heap) (locs2 : List Loc) (ls2 : Array Slot), lw_inv G x ow oD ad ws2 → gx_W G A s ws2 H2 locs2 → lv_has ls2 9 [(5, .int (nI i)), (4, .ref oD), (3, .ref ow), (2, .ref (ad 0)), (1, .ref x), (0, .ref b0)] → W p l e R s m #[Value.ref b0] below meth c H2 locs2 (cells + 64) (slots + 2000) Q (F0 m 1766 ls2 [])) : W p l e R s m #[Value.ref b0] below meth c H locs cells slots Q (F0 m 1113 ls []) := by
  have gX := C.x
  have gB := C.b
  obtain ⟨L, f, P, F, S, X, N, T, E, dn, bP, pa, ps, bF, fa, fd, bS, sa, sd, b, cap, n, t, bT, ta, ds, ex, ey, eg, cn, cf, px, py, pz, gr, ou, fx, fy, od, cr, ty, to_, cd, at0, fl, dr, g, gD, rfl, hrl⟩ := hinv
  obtain ⟨hx, fx0, lP, lF, lS, lT, tb, hN, hE, pP, pF, pS, pT, nPF, nPS, nPT, nFS, nFT, nST, rPF, rPS, rPT, rFS, rFT, rST, nd, Nn, En, p16, f12, t12, tl, n2, d8, c12, sl, rP, rO, rQ, rF, rE, rX, rT, rD, rC, rS⟩ := id hrl
  refine lv_aload_n gX gB dL_law_1113 rfl (lv_at hl 4 rfl) ?_
  refine lv_aload_n gX gB dL_law_1114 rfl (lv_at hl 5 rfl) ?_
  refine lv_iload gX gB dL_law_1115 (lv_at hl 0 rfl) ?_
  refine lv_iconst (v := 1) gX gB dL_law_1117 (by decide) ?_
  refine lv_iadd gX gB dL_law_1118 ?_
  refine gx_topi (show ((nI i) + 1) = nI (i + 1) from nI_add i 1) ?_
  refine va_sld C.x C.b hX hbl hbA hW.2.2 (nI_in (by omega) (by omega)) dL_law_1119 ?_
  refine gx_topi (show xs (nI (i + 1)).toNatClampNeg = xs (i + 1) from by rw [nI_clamp (by omega)]) ?_
  refine lv_aload_n gX gB dL_law_1120 rfl (lv_at hl 5 rfl) ?_
  refine lv_iload gX gB dL_law_1121 (lv_at hl 0 rfl) ?_
  refine lv_iconst (v := 2) gX gB dL_law_1123 (by decide) ?_
  refine lv_iadd gX gB dL_law_1124 ?_
  refine gx_topi (show ((nI i) + 2) = nI (i + 2) from nI_add i 2) ?_
  refine va_sld C.x C.b hX hbl hbA hW.2.2 (nI_in (by omega) (by omega)) dL_law_1125 ?_
  refine gx_topi (show xs (nI (i + 2)).toNatClampNeg = xs (i + 2) from by rw [nI_clamp (by omega)]) ?_
  refine lv_aload_n gX gB dL_law_1126 rfl (lv_at hl 2 rfl) ?_
  refine gx_callSH (wr := [(oD, .inl (G.2.1 4, 1, .inr (.inr (.inr (.inl gD))))), (ad 0, .inr (11, [.int cd, .int (nI pa.length), .ref (ad 1), .ref (ad 2), .ref (ad 3), .ref (ad 4), .ref (ad 5), .int (nI fa.length), .ref (ad 6), .ref (ad 7), .int (nI dn), .ref (ad 8), .long ex, .long ey, .long eg, .int (nI cn), .ref (ad 9), .ref (ad 10), .int (nI n), .int at0, .int fl, .int (nI ds.length), .ref (ad 11), .ref (ad 12)])), (ad 1, .inl (G.2.1 2, 16, .inr (.inl px))), (ad 2, .inl (G.2.1 2, 16, .inr (.inl py))), (ad 3, .inl (G.2.1 2, 16, .inr (.inl pz))), (ad 4, .inl (G.2.1 2, 16, .inr (.inl gr))), (ad 5, .inl (G.2.1 2, 16, .inr (.inl ou))), (ad 6, .inl (G.2.1 2, 12, .inr (.inl fx))), (ad 7, .inl (G.2.1 2, 12, .inr (.inl fy))), (ad 8, .inl (G.2.1 1, 8, .inl od)), (ad 9, .inl (G.2.1 1, 12, .inl cr)), (ad 10, .inl (G.2.1 1, 200, .inl ty)), (ad 11, .inl (G.2.1 1, 48, .inl to_)), (ad 12, .inl (G.2.1 1, 48, .inl dr))]) (rest := []) C hW sLH_123 (kL_test l G L f x _ hx fx0 ow g (xs (i + 1)) (xs (i + 2)) _ _ (kX5_test l hfl G L f x P F S X N T E (nI dn) hx fx0 bP pa ps lP pP bS sa sd lS pS bT ta (ds_t ds) lT (fun z1 z2 => (pT z1 z2).is) (xs (i + 1)) (xs (i + 2))) (fun v u h => ⟨_, h.1⟩) (fun E u h => h.2.imp (fun z => z.1) (fun z => z.imp (fun z => z.1) (fun z => z.1)))) rfl ⟨(by dsimp only; omega), (by dsimp only; omega)⟩ hl.1 rfl (Nat.le_of_ble_eq_true rfl) dL_law_1127 ⟨(by dsimp only; omega), (by dsimp only; omega)⟩ (fun v9 u9 H locs hp hW => ?_)
  rcases hp with ⟨r, u, hpo, rfl, rfl⟩ | ⟨u, hpx9, rfl, rfl⟩ | ⟨u, hpx9, rfl, rfl⟩ | ⟨u, hpx9, rfl, rfl⟩
  · have hW : gx_W G A s ([(oD, .inl (G.2.1 4, 1, .inr (.inr (.inr (.inl gD))))), (ad 0, .inr (11, [.int cd, .int (nI pa.length), .ref (ad 1), .ref (ad 2), .ref (ad 3), .ref (ad 4), .ref (ad 5), .int (nI fa.length), .ref (ad 6), .ref (ad 7), .int (nI dn), .ref (ad 8), .long ex, .long ey, .long eg, .int (nI cn), .ref (ad 9), .ref (ad 10), .int (nI n), .int at0, .int fl, .int (nI ds.length), .ref (ad 11), .ref (ad 12)])), (ad 1, .inl (G.2.1 2, 16, .inr (.inl px))), (ad 2, .inl (G.2.1 2, 16, .inr (.inl py))), (ad 3, .inl (G.2.1 2, 16, .inr (.inl pz))), (ad 4, .inl (G.2.1 2, 16, .inr (.inl gr))), (ad 5, .inl (G.2.1 2, 16, .inr (.inl ou))), (ad 6, .inl (G.2.1 2, 12, .inr (.inl fx))), (ad 7, .inl (G.2.1 2, 12, .inr (.inl fy))), (ad 8, .inl (G.2.1 1, 8, .inl od)), (ad 9, .inl (G.2.1 1, 12, .inl cr)), (ad 10, .inl (G.2.1 1, 200, .inl ty)), (ad 11, .inl (G.2.1 1, 48, .inl to_)), (ad 12, .inl (G.2.1 1, 48, .inl dr))] ++ ([(ow, .inl (G.2.1 2, 1, .inr (.inl (vp_updL g 0 r.toInt64))))] ++ u)) H locs := hW
    refine W.eq (g2 := F0 m 1130 ls [.int 0]) rfl ?_
    refine W.widen (k := cells + 2) (n := slots + 12) (by dsimp only; omega) (by dsimp only; omega) ?_
    refine lv_istore (lv' := [(6, .int 0), (5, .int (nI i)), (4, .ref oD), (3, .ref ow), (2, .ref (ad 0)), (1, .ref x), (0, .ref b0)]) gX gB dL_law_1130 hl (by decide) rfl (fun ls hl => ?_)
    refine lv_aload_n gX gB dL_law_1132 rfl (lv_at hl 4 rfl) ?_
    refine lv_aload_n gX gB dL_law_1133 rfl (lv_at hl 6 rfl) ?_
    refine lv_iload gX gB dL_law_1134 (lv_at hl 1 rfl) ?_
    refine lv_iconst (v := 1) gX gB dL_law_1136 (by decide) ?_
    refine lv_iadd gX gB dL_law_1137 ?_
    refine gx_topi (show ((nI i) + 1) = nI (i + 1) from nI_add i 1) ?_
    refine va_sld C.x C.b hX hbl hbA hW.2.2 (nI_in (by omega) (by omega)) dL_law_1138 ?_
    refine gx_topi (show xs (nI (i + 1)).toNatClampNeg = xs (i + 1) from by rw [nI_clamp (by omega)]) ?_
    refine lv_aload_n gX gB dL_law_1139 rfl (lv_at hl 6 rfl) ?_
    refine lv_iload gX gB dL_law_1140 (lv_at hl 1 rfl) ?_
    refine lv_iconst (v := 2) gX gB dL_law_1142 (by decide) ?_
    refine lv_iadd gX gB dL_law_1143 ?_
    refine gx_topi (show ((nI i) + 2) = nI (i + 2) from nI_add i 2) ?_
    refine va_sld C.x C.b hX hbl hbA hW.2.2 (nI_in (by omega) (by omega)) dL_law_1144 ?_
    refine gx_topi (show xs (nI (i + 2)).toNatClampNeg = xs (i + 2) from by rw [nI_clamp (by omega)]) ?_
    have hW := gx_W.toM hW
    have hW : gx_W G A s ((([(ow, .inl (G.2.1 2, 1, .inr (.inl (vp_updL g 0 r.toInt64))))] ++ u) ++ [(oD, .inl (G.2.1 4, 1, .inr (.inr (.inr (.inl gD)))))]) ++ [(ad 0, .inr (11, [.int cd, .int (nI pa.length), .ref (ad 1), .ref (ad 2), .ref (ad 3), .ref (ad 4), .ref (ad 5), .int (nI fa.length), .ref (ad 6), .ref (ad 7), .int (nI dn), .ref (ad 8), .long ex, .long ey, .long eg, .int (nI cn), .ref (ad 9), .ref (ad 10), .int (nI n), .int at0, .int fl, .int (nI ds.length), .ref (ad 11), .ref (ad 12)])), (ad 1, .inl (G.2.1 2, 16, .inr (.inl px))), (ad 2, .inl (G.2.1 2, 16, .inr (.inl py))), (ad 3, .inl (G.2.1 2, 16, .inr (.inl pz))), (ad 4, .inl (G.2.1 2, 16, .inr (.inl gr))), (ad 5, .inl (G.2.1 2, 16, .inr (.inl ou))), (ad 6, .inl (G.2.1 2, 12, .inr (.inl fx))), (ad 7, .inl (G.2.1 2, 12, .inr (.inl fy))), (ad 8, .inl (G.2.1 1, 8, .inl od)), (ad 9, .inl (G.2.1 1, 12, .inl cr)), (ad 10, .inl (G.2.1 1, 200, .inl ty)), (ad 11, .inl (G.2.1 1, 48, .inl to_)), (ad 12, .inl (G.2.1 1, 48, .inl dr))]) H locs := hW
    refine gx_callV (wr := ([(ow, .inl (G.2.1 2, 1, .inr (.inl (vp_updL g 0 r.toInt64))))] ++ u) ++ [(oD, .inl (G.2.1 4, 1, .inr (.inr (.inr (.inl gD)))))]) (rest := []) C hW sL_125 (kX6_test l G ad cd pa.length fa.length dn cn n ds.length ex ey eg at0 fl px py pz gr ou fx fy od cr ty to_ dr p16 c12 cf (fun z1 z2 => (rC z1 z2).1) (fun z1 z2 => Nat.lt_of_lt_of_le (rC z1 z2).2 f12) d8 (yy_f ps py ou) (fun z1 z2 z3 z4 => yy_is (rP z3 z4) z2 d8) (Nat.le_trans (Nat.le_of_eq tl.symm) t12) (ds_k ds) (fun z1 z2 => ((rT z1 z2).2.2.2.trans (dk_is hrl z2).1)) (fun z1 z2 => (dk_is hrl z2).2) (xs (i + 1)) (xs (i + 2))) ⟨0, rfl⟩ rfl rfl ⟨(by dsimp only; omega), (by dsimp only; omega)⟩ hl.1 rfl (Nat.le_of_ble_eq_true rfl) dL_law_1145 ⟨(by dsimp only; omega), (by dsimp only; omega)⟩ (fun v9 u9 H locs hm hW => ?_)
    obtain ⟨bb, rfl, hval, hout⟩ := pr_test_0 (ow := ow) (oD := oD) (cd := cd) (at0 := at0) (fl := fl) (dr := dr) hrl hpo hm
    obtain ⟨cd9, pn9, fn9, dn9, cn9, sn9, tn9, ex9, ey9, eg9, at9, fl9, px9, py9, pz9, gr9, ou9, fx9, fy9, od9, cr9, ty9, to9, dr9, rfl, hcd, hnew⟩ := hout
    have hW : gx_W G A s ((([(ow, .inl (G.2.1 2, 1, .inr (.inl (vp_updL g 0 r.toInt64))))] ++ u) ++ [(oD, .inl (G.2.1 4, 1, .inr (.inr (.inr (.inl gD)))))]) ++ [(ad 0, .inr (11, [.int cd9, .int (nI pn9), .ref (ad 1), .ref (ad 2), .ref (ad 3), .ref (ad 4), .ref (ad 5), .int (nI fn9), .ref (ad 6), .ref (ad 7), .int (nI dn9), .ref (ad 8), .long ex9, .long ey9, .long eg9, .int (nI cn9), .ref (ad 9), .ref (ad 10), .int (nI sn9), .int at9, .int fl9, .int (nI tn9), .ref (ad 11), .ref (ad 12)])), (ad 1, .inl (G.2.1 2, 16, .inr (.inl px9))), (ad 2, .inl (G.2.1 2, 16, .inr (.inl py9))), (ad 3, .inl (G.2.1 2, 16, .inr (.inl pz9))), (ad 4, .inl (G.2.1 2, 16, .inr (.inl gr9))), (ad 5, .inl (G.2.1 2, 16, .inr (.inl ou9))), (ad 6, .inl (G.2.1 2, 12, .inr (.inl fx9))), (ad 7, .inl (G.2.1 2, 12, .inr (.inl fy9))), (ad 8, .inl (G.2.1 1, 8, .inl od9)), (ad 9, .inl (G.2.1 1, 12, .inl cr9)), (ad 10, .inl (G.2.1 1, 200, .inl ty9)), (ad 11, .inl (G.2.1 1, 48, .inl to9)), (ad 12, .inl (G.2.1 1, 48, .inl dr9))]) H locs := hW
    refine W.eq (g2 := F0 m 1148 ls [.int bb]) rfl ?_
    refine W.widen (k := cells + 2 + 0) (n := slots + 12 + 0) (by dsimp only; omega) (by dsimp only; omega) ?_
    refine lv_istore (lv' := [(7, .int bb), (6, .int 0), (5, .int (nI i)), (4, .ref oD), (3, .ref ow), (2, .ref (ad 0)), (1, .ref x), (0, .ref b0)]) gX gB dL_law_1148 hl (by decide) rfl (fun ls hl => ?_)
    refine lv_aload_n gX gB dL_law_1150 rfl (lv_at hl 5 rfl) ?_
    refine gx_callV (wr := ([(ow, .inl (G.2.1 2, 1, .inr (.inl (vp_updL g 0 r.toInt64))))] ++ u) ++ [(oD, .inl (G.2.1 4, 1, .inr (.inr (.inr (.inl gD)))))]) (rest := []) C hW sL_81 (kX6_thrown l G ad cd9 pn9 fn9 dn9 cn9 sn9 tn9 ex9 ey9 eg9 at9 fl9 px9 py9 pz9 gr9 ou9 fx9 fy9 od9 cr9 ty9 to9 dr9) ⟨0, rfl⟩ rfl rfl ⟨(by dsimp only; omega), (by dsimp only; omega)⟩ hl.1 rfl (Nat.le_of_ble_eq_true rfl) dL_law_1151 ⟨(by dsimp only; omega), (by dsimp only; omega)⟩ (fun v9 u9 H locs hp hW => ?_)
    obtain ⟨rfl, rfl⟩ := hp
    have hW : gx_W G A s ((([(ow, .inl (G.2.1 2, 1, .inr (.inl (vp_updL g 0 r.toInt64))))] ++ u) ++ [(oD, .inl (G.2.1 4, 1, .inr (.inr (.inr (.inl gD)))))]) ++ [(ad 0, .inr (11, [.int cd9, .int (nI pn9), .ref (ad 1), .ref (ad 2), .ref (ad 3), .ref (ad 4), .ref (ad 5), .int (nI fn9), .ref (ad 6), .ref (ad 7), .int (nI dn9), .ref (ad 8), .long ex9, .long ey9, .long eg9, .int (nI cn9), .ref (ad 9), .ref (ad 10), .int (nI sn9), .int at9, .int fl9, .int (nI tn9), .ref (ad 11), .ref (ad 12)])), (ad 1, .inl (G.2.1 2, 16, .inr (.inl px9))), (ad 2, .inl (G.2.1 2, 16, .inr (.inl py9))), (ad 3, .inl (G.2.1 2, 16, .inr (.inl pz9))), (ad 4, .inl (G.2.1 2, 16, .inr (.inl gr9))), (ad 5, .inl (G.2.1 2, 16, .inr (.inl ou9))), (ad 6, .inl (G.2.1 2, 12, .inr (.inl fx9))), (ad 7, .inl (G.2.1 2, 12, .inr (.inl fy9))), (ad 8, .inl (G.2.1 1, 8, .inl od9)), (ad 9, .inl (G.2.1 1, 12, .inl cr9)), (ad 10, .inl (G.2.1 1, 200, .inl ty9)), (ad 11, .inl (G.2.1 1, 48, .inl to9)), (ad 12, .inl (G.2.1 1, 48, .inl dr9))]) H locs := hW
    refine W.eq (g2 := F0 m 1154 ls [.int cd9]) rfl ?_
    refine W.widen (k := cells + 2 + 0 + 0) (n := slots + 12 + 0 + 0) (by dsimp only; omega) (by dsimp only; omega) ?_
    refine lv_iload gX gB dL_law_1154 (lv_at hl 1 rfl) ?_
    refine lv_icmp_eq (tgt := 1161) gX gB dL_law_1156 (by decide) (fun _ => ?_) (fun h9 => absurd (show cd9 = (0 : Int32) from hcd) h9)
    refine lv_iload gX gB dL_law_1161 (lv_at hl 1 rfl) ?_
    refine lv_if_ne (tgt := 1178) gX gB dL_law_1163 (by decide) (fun h9 => absurd (show ¬ 0 = (0 : Int32) from h9) (by decide)) (fun _ => ?_)
    refine lv_aload_n gX gB dL_law_1166 rfl (lv_at hl 4 rfl) ?_
    refine lv_iconst (v := 0) gX gB dL_law_1167 (by decide) ?_
    refine gx_lald C hW (a := ow) (g := vp_updL g 0 r.toInt64) (j := 0) ⟨0, rfl⟩ rfl (by decide) (by decide) dL_law_1168 ?_
    refine gx_topl (show (vp_updL g 0 r.toInt64) 0 = r.toInt64 from ul_eq) ?_
    refine lv_iload gX gB dL_law_1169 (lv_at hl 0 rfl) ?_
    refine lv_i2l gX gB dL_law_1171 rfl ?_
    refine gx_lc_eq (tgt := 1178) C dL_law_1172 dL_law_1173 (by decide) (fun _ => ?_) (fun h9 => absurd (show r.toInt64 = bb.toInt64 from hval) h9)
    refine lv_goto (tgt := 1766) gX gB dL_law_1178 (by decide) ?_
    have hW := gx_W.ofM hW
    refine W.widen (k := cells + 64) (n := slots + 2000) (by omega) (by omega) ?_
    exact kk _ _ _ _ (hnew _ _) hW (lv_sub hl [2, 3, 4, 5, 6, 7] rfl)
  · have hW : gx_W G A s ([(oD, .inl (G.2.1 4, 1, .inr (.inr (.inr (.inl gD))))), (ad 0, .inr (11, [.int cd, .int (nI pa.length), .ref (ad 1), .ref (ad 2), .ref (ad 3), .ref (ad 4), .ref (ad 5), .int (nI fa.length), .ref (ad 6), .ref (ad 7), .int (nI dn), .ref (ad 8), .long ex, .long ey, .long eg, .int (nI cn), .ref (ad 9), .ref (ad 10), .int (nI n), .int at0, .int fl, .int (nI ds.length), .ref (ad 11), .ref (ad 12)])), (ad 1, .inl (G.2.1 2, 16, .inr (.inl px))), (ad 2, .inl (G.2.1 2, 16, .inr (.inl py))), (ad 3, .inl (G.2.1 2, 16, .inr (.inl pz))), (ad 4, .inl (G.2.1 2, 16, .inr (.inl gr))), (ad 5, .inl (G.2.1 2, 16, .inr (.inl ou))), (ad 6, .inl (G.2.1 2, 12, .inr (.inl fx))), (ad 7, .inl (G.2.1 2, 12, .inr (.inl fy))), (ad 8, .inl (G.2.1 1, 8, .inl od)), (ad 9, .inl (G.2.1 1, 12, .inl cr)), (ad 10, .inl (G.2.1 1, 200, .inl ty)), (ad 11, .inl (G.2.1 1, 48, .inl to_)), (ad 12, .inl (G.2.1 1, 48, .inl dr))] ++ ([(ow, .inl (G.2.1 2, 1, .inr (.inl g)))] ++ u)) H locs := hW
    refine W.eq (g2 := F0 m 1130 ls [.int 1]) rfl ?_
    refine W.widen (k := cells + 2) (n := slots + 12) (by dsimp only; omega) (by dsimp only; omega) ?_
    refine lv_istore (lv' := [(6, .int 1), (5, .int (nI i)), (4, .ref oD), (3, .ref ow), (2, .ref (ad 0)), (1, .ref x), (0, .ref b0)]) gX gB dL_law_1130 hl (by decide) rfl (fun ls hl => ?_)
    refine lv_aload_n gX gB dL_law_1132 rfl (lv_at hl 4 rfl) ?_
    refine lv_aload_n gX gB dL_law_1133 rfl (lv_at hl 6 rfl) ?_
    refine lv_iload gX gB dL_law_1134 (lv_at hl 1 rfl) ?_
    refine lv_iconst (v := 1) gX gB dL_law_1136 (by decide) ?_
    refine lv_iadd gX gB dL_law_1137 ?_
    refine gx_topi (show ((nI i) + 1) = nI (i + 1) from nI_add i 1) ?_
    refine va_sld C.x C.b hX hbl hbA hW.2.2 (nI_in (by omega) (by omega)) dL_law_1138 ?_
    refine gx_topi (show xs (nI (i + 1)).toNatClampNeg = xs (i + 1) from by rw [nI_clamp (by omega)]) ?_
    refine lv_aload_n gX gB dL_law_1139 rfl (lv_at hl 6 rfl) ?_
    refine lv_iload gX gB dL_law_1140 (lv_at hl 1 rfl) ?_
    refine lv_iconst (v := 2) gX gB dL_law_1142 (by decide) ?_
    refine lv_iadd gX gB dL_law_1143 ?_
    refine gx_topi (show ((nI i) + 2) = nI (i + 2) from nI_add i 2) ?_
    refine va_sld C.x C.b hX hbl hbA hW.2.2 (nI_in (by omega) (by omega)) dL_law_1144 ?_
    refine gx_topi (show xs (nI (i + 2)).toNatClampNeg = xs (i + 2) from by rw [nI_clamp (by omega)]) ?_
    have hW := gx_W.toM hW
    have hW : gx_W G A s ((([(ow, .inl (G.2.1 2, 1, .inr (.inl g)))] ++ u) ++ [(oD, .inl (G.2.1 4, 1, .inr (.inr (.inr (.inl gD)))))]) ++ [(ad 0, .inr (11, [.int cd, .int (nI pa.length), .ref (ad 1), .ref (ad 2), .ref (ad 3), .ref (ad 4), .ref (ad 5), .int (nI fa.length), .ref (ad 6), .ref (ad 7), .int (nI dn), .ref (ad 8), .long ex, .long ey, .long eg, .int (nI cn), .ref (ad 9), .ref (ad 10), .int (nI n), .int at0, .int fl, .int (nI ds.length), .ref (ad 11), .ref (ad 12)])), (ad 1, .inl (G.2.1 2, 16, .inr (.inl px))), (ad 2, .inl (G.2.1 2, 16, .inr (.inl py))), (ad 3, .inl (G.2.1 2, 16, .inr (.inl pz))), (ad 4, .inl (G.2.1 2, 16, .inr (.inl gr))), (ad 5, .inl (G.2.1 2, 16, .inr (.inl ou))), (ad 6, .inl (G.2.1 2, 12, .inr (.inl fx))), (ad 7, .inl (G.2.1 2, 12, .inr (.inl fy))), (ad 8, .inl (G.2.1 1, 8, .inl od)), (ad 9, .inl (G.2.1 1, 12, .inl cr)), (ad 10, .inl (G.2.1 1, 200, .inl ty)), (ad 11, .inl (G.2.1 1, 48, .inl to_)), (ad 12, .inl (G.2.1 1, 48, .inl dr))]) H locs := hW
    refine gx_callV (wr := ([(ow, .inl (G.2.1 2, 1, .inr (.inl g)))] ++ u) ++ [(oD, .inl (G.2.1 4, 1, .inr (.inr (.inr (.inl gD)))))]) (rest := []) C hW sL_125 (kX6_test l G ad cd pa.length fa.length dn cn n ds.length ex ey eg at0 fl px py pz gr ou fx fy od cr ty to_ dr p16 c12 cf (fun z1 z2 => (rC z1 z2).1) (fun z1 z2 => Nat.lt_of_lt_of_le (rC z1 z2).2 f12) d8 (yy_f ps py ou) (fun z1 z2 z3 z4 => yy_is (rP z3 z4) z2 d8) (Nat.le_trans (Nat.le_of_eq tl.symm) t12) (ds_k ds) (fun z1 z2 => ((rT z1 z2).2.2.2.trans (dk_is hrl z2).1)) (fun z1 z2 => (dk_is hrl z2).2) (xs (i + 1)) (xs (i + 2))) ⟨0, rfl⟩ rfl rfl ⟨(by dsimp only; omega), (by dsimp only; omega)⟩ hl.1 rfl (Nat.le_of_ble_eq_true rfl) dL_law_1145 ⟨(by dsimp only; omega), (by dsimp only; omega)⟩ (fun v9 u9 H locs hm hW => ?_)
    obtain ⟨bb, rfl, hval, hout⟩ := pr_test_1 (ow := ow) (oD := oD) (cd := cd) (at0 := at0) (fl := fl) (dr := dr) hrl hpx9 hm
    obtain ⟨cd9, pn9, fn9, dn9, cn9, sn9, tn9, ex9, ey9, eg9, at9, fl9, px9, py9, pz9, gr9, ou9, fx9, fy9, od9, cr9, ty9, to9, dr9, rfl, hcd, hnew⟩ := hout
    have hW : gx_W G A s ((([(ow, .inl (G.2.1 2, 1, .inr (.inl g)))] ++ u) ++ [(oD, .inl (G.2.1 4, 1, .inr (.inr (.inr (.inl gD)))))]) ++ [(ad 0, .inr (11, [.int cd9, .int (nI pn9), .ref (ad 1), .ref (ad 2), .ref (ad 3), .ref (ad 4), .ref (ad 5), .int (nI fn9), .ref (ad 6), .ref (ad 7), .int (nI dn9), .ref (ad 8), .long ex9, .long ey9, .long eg9, .int (nI cn9), .ref (ad 9), .ref (ad 10), .int (nI sn9), .int at9, .int fl9, .int (nI tn9), .ref (ad 11), .ref (ad 12)])), (ad 1, .inl (G.2.1 2, 16, .inr (.inl px9))), (ad 2, .inl (G.2.1 2, 16, .inr (.inl py9))), (ad 3, .inl (G.2.1 2, 16, .inr (.inl pz9))), (ad 4, .inl (G.2.1 2, 16, .inr (.inl gr9))), (ad 5, .inl (G.2.1 2, 16, .inr (.inl ou9))), (ad 6, .inl (G.2.1 2, 12, .inr (.inl fx9))), (ad 7, .inl (G.2.1 2, 12, .inr (.inl fy9))), (ad 8, .inl (G.2.1 1, 8, .inl od9)), (ad 9, .inl (G.2.1 1, 12, .inl cr9)), (ad 10, .inl (G.2.1 1, 200, .inl ty9)), (ad 11, .inl (G.2.1 1, 48, .inl to9)), (ad 12, .inl (G.2.1 1, 48, .inl dr9))]) H locs := hW
    refine W.eq (g2 := F0 m 1148 ls [.int bb]) rfl ?_
    refine W.widen (k := cells + 2 + 0) (n := slots + 12 + 0) (by dsimp only; omega) (by dsimp only; omega) ?_
    refine lv_istore (lv' := [(7, .int bb), (6, .int 1), (5, .int (nI i)), (4, .ref oD), (3, .ref ow), (2, .ref (ad 0)), (1, .ref x), (0, .ref b0)]) gX gB dL_law_1148 hl (by decide) rfl (fun ls hl => ?_)
    refine lv_aload_n gX gB dL_law_1150 rfl (lv_at hl 5 rfl) ?_
    refine gx_callV (wr := ([(ow, .inl (G.2.1 2, 1, .inr (.inl g)))] ++ u) ++ [(oD, .inl (G.2.1 4, 1, .inr (.inr (.inr (.inl gD)))))]) (rest := []) C hW sL_81 (kX6_thrown l G ad cd9 pn9 fn9 dn9 cn9 sn9 tn9 ex9 ey9 eg9 at9 fl9 px9 py9 pz9 gr9 ou9 fx9 fy9 od9 cr9 ty9 to9 dr9) ⟨0, rfl⟩ rfl rfl ⟨(by dsimp only; omega), (by dsimp only; omega)⟩ hl.1 rfl (Nat.le_of_ble_eq_true rfl) dL_law_1151 ⟨(by dsimp only; omega), (by dsimp only; omega)⟩ (fun v9 u9 H locs hp hW => ?_)
    obtain ⟨rfl, rfl⟩ := hp
    have hW : gx_W G A s ((([(ow, .inl (G.2.1 2, 1, .inr (.inl g)))] ++ u) ++ [(oD, .inl (G.2.1 4, 1, .inr (.inr (.inr (.inl gD)))))]) ++ [(ad 0, .inr (11, [.int cd9, .int (nI pn9), .ref (ad 1), .ref (ad 2), .ref (ad 3), .ref (ad 4), .ref (ad 5), .int (nI fn9), .ref (ad 6), .ref (ad 7), .int (nI dn9), .ref (ad 8), .long ex9, .long ey9, .long eg9, .int (nI cn9), .ref (ad 9), .ref (ad 10), .int (nI sn9), .int at9, .int fl9, .int (nI tn9), .ref (ad 11), .ref (ad 12)])), (ad 1, .inl (G.2.1 2, 16, .inr (.inl px9))), (ad 2, .inl (G.2.1 2, 16, .inr (.inl py9))), (ad 3, .inl (G.2.1 2, 16, .inr (.inl pz9))), (ad 4, .inl (G.2.1 2, 16, .inr (.inl gr9))), (ad 5, .inl (G.2.1 2, 16, .inr (.inl ou9))), (ad 6, .inl (G.2.1 2, 12, .inr (.inl fx9))), (ad 7, .inl (G.2.1 2, 12, .inr (.inl fy9))), (ad 8, .inl (G.2.1 1, 8, .inl od9)), (ad 9, .inl (G.2.1 1, 12, .inl cr9)), (ad 10, .inl (G.2.1 1, 200, .inl ty9)), (ad 11, .inl (G.2.1 1, 48, .inl to9)), (ad 12, .inl (G.2.1 1, 48, .inl dr9))]) H locs := hW
    refine W.eq (g2 := F0 m 1154 ls [.int cd9]) rfl ?_
    refine W.widen (k := cells + 2 + 0 + 0) (n := slots + 12 + 0 + 0) (by dsimp only; omega) (by dsimp only; omega) ?_
    refine lv_iload gX gB dL_law_1154 (lv_at hl 1 rfl) ?_
    refine lv_icmp_eq (tgt := 1161) gX gB dL_law_1156 (by decide) (fun _ => ?_) (fun h9 => absurd (show cd9 = (1 : Int32) from hcd) h9)
    refine lv_iload gX gB dL_law_1161 (lv_at hl 1 rfl) ?_
    refine lv_if_ne (tgt := 1178) gX gB dL_law_1163 (by decide) (fun _ => ?_) (fun h9 => absurd h9 (show ¬ 1 = (0 : Int32) from by decide))
    refine lv_goto (tgt := 1766) gX gB dL_law_1178 (by decide) ?_
    have hW := gx_W.ofM hW
    refine W.widen (k := cells + 64) (n := slots + 2000) (by omega) (by omega) ?_
    exact kk _ _ _ _ (hnew _ _) hW (lv_sub hl [2, 3, 4, 5, 6, 7] rfl)
  · have hW : gx_W G A s ([(oD, .inl (G.2.1 4, 1, .inr (.inr (.inr (.inl gD))))), (ad 0, .inr (11, [.int cd, .int (nI pa.length), .ref (ad 1), .ref (ad 2), .ref (ad 3), .ref (ad 4), .ref (ad 5), .int (nI fa.length), .ref (ad 6), .ref (ad 7), .int (nI dn), .ref (ad 8), .long ex, .long ey, .long eg, .int (nI cn), .ref (ad 9), .ref (ad 10), .int (nI n), .int at0, .int fl, .int (nI ds.length), .ref (ad 11), .ref (ad 12)])), (ad 1, .inl (G.2.1 2, 16, .inr (.inl px))), (ad 2, .inl (G.2.1 2, 16, .inr (.inl py))), (ad 3, .inl (G.2.1 2, 16, .inr (.inl pz))), (ad 4, .inl (G.2.1 2, 16, .inr (.inl gr))), (ad 5, .inl (G.2.1 2, 16, .inr (.inl ou))), (ad 6, .inl (G.2.1 2, 12, .inr (.inl fx))), (ad 7, .inl (G.2.1 2, 12, .inr (.inl fy))), (ad 8, .inl (G.2.1 1, 8, .inl od)), (ad 9, .inl (G.2.1 1, 12, .inl cr)), (ad 10, .inl (G.2.1 1, 200, .inl ty)), (ad 11, .inl (G.2.1 1, 48, .inl to_)), (ad 12, .inl (G.2.1 1, 48, .inl dr))] ++ ([(ow, .inl (G.2.1 2, 1, .inr (.inl g)))] ++ u)) H locs := hW
    refine W.eq (g2 := F0 m 1130 ls [.int 2]) rfl ?_
    refine W.widen (k := cells + 2) (n := slots + 12) (by dsimp only; omega) (by dsimp only; omega) ?_
    refine lv_istore (lv' := [(6, .int 2), (5, .int (nI i)), (4, .ref oD), (3, .ref ow), (2, .ref (ad 0)), (1, .ref x), (0, .ref b0)]) gX gB dL_law_1130 hl (by decide) rfl (fun ls hl => ?_)
    refine lv_aload_n gX gB dL_law_1132 rfl (lv_at hl 4 rfl) ?_
    refine lv_aload_n gX gB dL_law_1133 rfl (lv_at hl 6 rfl) ?_
    refine lv_iload gX gB dL_law_1134 (lv_at hl 1 rfl) ?_
    refine lv_iconst (v := 1) gX gB dL_law_1136 (by decide) ?_
    refine lv_iadd gX gB dL_law_1137 ?_
    refine gx_topi (show ((nI i) + 1) = nI (i + 1) from nI_add i 1) ?_
    refine va_sld C.x C.b hX hbl hbA hW.2.2 (nI_in (by omega) (by omega)) dL_law_1138 ?_
    refine gx_topi (show xs (nI (i + 1)).toNatClampNeg = xs (i + 1) from by rw [nI_clamp (by omega)]) ?_
    refine lv_aload_n gX gB dL_law_1139 rfl (lv_at hl 6 rfl) ?_
    refine lv_iload gX gB dL_law_1140 (lv_at hl 1 rfl) ?_
    refine lv_iconst (v := 2) gX gB dL_law_1142 (by decide) ?_
    refine lv_iadd gX gB dL_law_1143 ?_
    refine gx_topi (show ((nI i) + 2) = nI (i + 2) from nI_add i 2) ?_
    refine va_sld C.x C.b hX hbl hbA hW.2.2 (nI_in (by omega) (by omega)) dL_law_1144 ?_
    refine gx_topi (show xs (nI (i + 2)).toNatClampNeg = xs (i + 2) from by rw [nI_clamp (by omega)]) ?_
    have hW := gx_W.toM hW
    have hW : gx_W G A s ((([(ow, .inl (G.2.1 2, 1, .inr (.inl g)))] ++ u) ++ [(oD, .inl (G.2.1 4, 1, .inr (.inr (.inr (.inl gD)))))]) ++ [(ad 0, .inr (11, [.int cd, .int (nI pa.length), .ref (ad 1), .ref (ad 2), .ref (ad 3), .ref (ad 4), .ref (ad 5), .int (nI fa.length), .ref (ad 6), .ref (ad 7), .int (nI dn), .ref (ad 8), .long ex, .long ey, .long eg, .int (nI cn), .ref (ad 9), .ref (ad 10), .int (nI n), .int at0, .int fl, .int (nI ds.length), .ref (ad 11), .ref (ad 12)])), (ad 1, .inl (G.2.1 2, 16, .inr (.inl px))), (ad 2, .inl (G.2.1 2, 16, .inr (.inl py))), (ad 3, .inl (G.2.1 2, 16, .inr (.inl pz))), (ad 4, .inl (G.2.1 2, 16, .inr (.inl gr))), (ad 5, .inl (G.2.1 2, 16, .inr (.inl ou))), (ad 6, .inl (G.2.1 2, 12, .inr (.inl fx))), (ad 7, .inl (G.2.1 2, 12, .inr (.inl fy))), (ad 8, .inl (G.2.1 1, 8, .inl od)), (ad 9, .inl (G.2.1 1, 12, .inl cr)), (ad 10, .inl (G.2.1 1, 200, .inl ty)), (ad 11, .inl (G.2.1 1, 48, .inl to_)), (ad 12, .inl (G.2.1 1, 48, .inl dr))]) H locs := hW
    refine gx_callV (wr := ([(ow, .inl (G.2.1 2, 1, .inr (.inl g)))] ++ u) ++ [(oD, .inl (G.2.1 4, 1, .inr (.inr (.inr (.inl gD)))))]) (rest := []) C hW sL_125 (kX6_test l G ad cd pa.length fa.length dn cn n ds.length ex ey eg at0 fl px py pz gr ou fx fy od cr ty to_ dr p16 c12 cf (fun z1 z2 => (rC z1 z2).1) (fun z1 z2 => Nat.lt_of_lt_of_le (rC z1 z2).2 f12) d8 (yy_f ps py ou) (fun z1 z2 z3 z4 => yy_is (rP z3 z4) z2 d8) (Nat.le_trans (Nat.le_of_eq tl.symm) t12) (ds_k ds) (fun z1 z2 => ((rT z1 z2).2.2.2.trans (dk_is hrl z2).1)) (fun z1 z2 => (dk_is hrl z2).2) (xs (i + 1)) (xs (i + 2))) ⟨0, rfl⟩ rfl rfl ⟨(by dsimp only; omega), (by dsimp only; omega)⟩ hl.1 rfl (Nat.le_of_ble_eq_true rfl) dL_law_1145 ⟨(by dsimp only; omega), (by dsimp only; omega)⟩ (fun v9 u9 H locs hm hW => ?_)
    obtain ⟨bb, rfl, hval, hout⟩ := pr_test_2 (ow := ow) (oD := oD) (cd := cd) (at0 := at0) (fl := fl) (dr := dr) hrl hpx9 hm
    obtain ⟨cd9, pn9, fn9, dn9, cn9, sn9, tn9, ex9, ey9, eg9, at9, fl9, px9, py9, pz9, gr9, ou9, fx9, fy9, od9, cr9, ty9, to9, dr9, rfl, hcd, hnew⟩ := hout
    have hW : gx_W G A s ((([(ow, .inl (G.2.1 2, 1, .inr (.inl g)))] ++ u) ++ [(oD, .inl (G.2.1 4, 1, .inr (.inr (.inr (.inl gD)))))]) ++ [(ad 0, .inr (11, [.int cd9, .int (nI pn9), .ref (ad 1), .ref (ad 2), .ref (ad 3), .ref (ad 4), .ref (ad 5), .int (nI fn9), .ref (ad 6), .ref (ad 7), .int (nI dn9), .ref (ad 8), .long ex9, .long ey9, .long eg9, .int (nI cn9), .ref (ad 9), .ref (ad 10), .int (nI sn9), .int at9, .int fl9, .int (nI tn9), .ref (ad 11), .ref (ad 12)])), (ad 1, .inl (G.2.1 2, 16, .inr (.inl px9))), (ad 2, .inl (G.2.1 2, 16, .inr (.inl py9))), (ad 3, .inl (G.2.1 2, 16, .inr (.inl pz9))), (ad 4, .inl (G.2.1 2, 16, .inr (.inl gr9))), (ad 5, .inl (G.2.1 2, 16, .inr (.inl ou9))), (ad 6, .inl (G.2.1 2, 12, .inr (.inl fx9))), (ad 7, .inl (G.2.1 2, 12, .inr (.inl fy9))), (ad 8, .inl (G.2.1 1, 8, .inl od9)), (ad 9, .inl (G.2.1 1, 12, .inl cr9)), (ad 10, .inl (G.2.1 1, 200, .inl ty9)), (ad 11, .inl (G.2.1 1, 48, .inl to9)), (ad 12, .inl (G.2.1 1, 48, .inl dr9))]) H locs := hW
    refine W.eq (g2 := F0 m 1148 ls [.int bb]) rfl ?_
    refine W.widen (k := cells + 2 + 0) (n := slots + 12 + 0) (by dsimp only; omega) (by dsimp only; omega) ?_
    refine lv_istore (lv' := [(7, .int bb), (6, .int 2), (5, .int (nI i)), (4, .ref oD), (3, .ref ow), (2, .ref (ad 0)), (1, .ref x), (0, .ref b0)]) gX gB dL_law_1148 hl (by decide) rfl (fun ls hl => ?_)
    refine lv_aload_n gX gB dL_law_1150 rfl (lv_at hl 5 rfl) ?_
    refine gx_callV (wr := ([(ow, .inl (G.2.1 2, 1, .inr (.inl g)))] ++ u) ++ [(oD, .inl (G.2.1 4, 1, .inr (.inr (.inr (.inl gD)))))]) (rest := []) C hW sL_81 (kX6_thrown l G ad cd9 pn9 fn9 dn9 cn9 sn9 tn9 ex9 ey9 eg9 at9 fl9 px9 py9 pz9 gr9 ou9 fx9 fy9 od9 cr9 ty9 to9 dr9) ⟨0, rfl⟩ rfl rfl ⟨(by dsimp only; omega), (by dsimp only; omega)⟩ hl.1 rfl (Nat.le_of_ble_eq_true rfl) dL_law_1151 ⟨(by dsimp only; omega), (by dsimp only; omega)⟩ (fun v9 u9 H locs hp hW => ?_)
    obtain ⟨rfl, rfl⟩ := hp
    have hW : gx_W G A s ((([(ow, .inl (G.2.1 2, 1, .inr (.inl g)))] ++ u) ++ [(oD, .inl (G.2.1 4, 1, .inr (.inr (.inr (.inl gD)))))]) ++ [(ad 0, .inr (11, [.int cd9, .int (nI pn9), .ref (ad 1), .ref (ad 2), .ref (ad 3), .ref (ad 4), .ref (ad 5), .int (nI fn9), .ref (ad 6), .ref (ad 7), .int (nI dn9), .ref (ad 8), .long ex9, .long ey9, .long eg9, .int (nI cn9), .ref (ad 9), .ref (ad 10), .int (nI sn9), .int at9, .int fl9, .int (nI tn9), .ref (ad 11), .ref (ad 12)])), (ad 1, .inl (G.2.1 2, 16, .inr (.inl px9))), (ad 2, .inl (G.2.1 2, 16, .inr (.inl py9))), (ad 3, .inl (G.2.1 2, 16, .inr (.inl pz9))), (ad 4, .inl (G.2.1 2, 16, .inr (.inl gr9))), (ad 5, .inl (G.2.1 2, 16, .inr (.inl ou9))), (ad 6, .inl (G.2.1 2, 12, .inr (.inl fx9))), (ad 7, .inl (G.2.1 2, 12, .inr (.inl fy9))), (ad 8, .inl (G.2.1 1, 8, .inl od9)), (ad 9, .inl (G.2.1 1, 12, .inl cr9)), (ad 10, .inl (G.2.1 1, 200, .inl ty9)), (ad 11, .inl (G.2.1 1, 48, .inl to9)), (ad 12, .inl (G.2.1 1, 48, .inl dr9))]) H locs := hW
    refine W.eq (g2 := F0 m 1154 ls [.int cd9]) rfl ?_
    refine W.widen (k := cells + 2 + 0 + 0) (n := slots + 12 + 0 + 0) (by dsimp only; omega) (by dsimp only; omega) ?_
    refine lv_iload gX gB dL_law_1154 (lv_at hl 1 rfl) ?_
    refine lv_icmp_eq (tgt := 1161) gX gB dL_law_1156 (by decide) (fun _ => ?_) (fun h9 => absurd (show cd9 = (2 : Int32) from hcd) h9)
    refine lv_iload gX gB dL_law_1161 (lv_at hl 1 rfl) ?_
    refine lv_if_ne (tgt := 1178) gX gB dL_law_1163 (by decide) (fun _ => ?_) (fun h9 => absurd h9 (show ¬ 2 = (0 : Int32) from by decide))
    refine lv_goto (tgt := 1766) gX gB dL_law_1178 (by decide) ?_
    have hW := gx_W.ofM hW
    refine W.widen (k := cells + 64) (n := slots + 2000) (by omega) (by omega) ?_
    exact kk _ _ _ _ (hnew _ _) hW (lv_sub hl [2, 3, 4, 5, 6, 7] rfl)
  · have hW : gx_W G A s ([(oD, .inl (G.2.1 4, 1, .inr (.inr (.inr (.inl gD))))), (ad 0, .inr (11, [.int cd, .int (nI pa.length), .ref (ad 1), .ref (ad 2), .ref (ad 3), .ref (ad 4), .ref (ad 5), .int (nI fa.length), .ref (ad 6), .ref (ad 7), .int (nI dn), .ref (ad 8), .long ex, .long ey, .long eg, .int (nI cn), .ref (ad 9), .ref (ad 10), .int (nI n), .int at0, .int fl, .int (nI ds.length), .ref (ad 11), .ref (ad 12)])), (ad 1, .inl (G.2.1 2, 16, .inr (.inl px))), (ad 2, .inl (G.2.1 2, 16, .inr (.inl py))), (ad 3, .inl (G.2.1 2, 16, .inr (.inl pz))), (ad 4, .inl (G.2.1 2, 16, .inr (.inl gr))), (ad 5, .inl (G.2.1 2, 16, .inr (.inl ou))), (ad 6, .inl (G.2.1 2, 12, .inr (.inl fx))), (ad 7, .inl (G.2.1 2, 12, .inr (.inl fy))), (ad 8, .inl (G.2.1 1, 8, .inl od)), (ad 9, .inl (G.2.1 1, 12, .inl cr)), (ad 10, .inl (G.2.1 1, 200, .inl ty)), (ad 11, .inl (G.2.1 1, 48, .inl to_)), (ad 12, .inl (G.2.1 1, 48, .inl dr))] ++ ([(ow, .inl (G.2.1 2, 1, .inr (.inl g)))] ++ u)) H locs := hW
    refine W.eq (g2 := F0 m 1130 ls [.int 3]) rfl ?_
    refine W.widen (k := cells + 2) (n := slots + 12) (by dsimp only; omega) (by dsimp only; omega) ?_
    refine lv_istore (lv' := [(6, .int 3), (5, .int (nI i)), (4, .ref oD), (3, .ref ow), (2, .ref (ad 0)), (1, .ref x), (0, .ref b0)]) gX gB dL_law_1130 hl (by decide) rfl (fun ls hl => ?_)
    refine lv_aload_n gX gB dL_law_1132 rfl (lv_at hl 4 rfl) ?_
    refine lv_aload_n gX gB dL_law_1133 rfl (lv_at hl 6 rfl) ?_
    refine lv_iload gX gB dL_law_1134 (lv_at hl 1 rfl) ?_
    refine lv_iconst (v := 1) gX gB dL_law_1136 (by decide) ?_
    refine lv_iadd gX gB dL_law_1137 ?_
    refine gx_topi (show ((nI i) + 1) = nI (i + 1) from nI_add i 1) ?_
    refine va_sld C.x C.b hX hbl hbA hW.2.2 (nI_in (by omega) (by omega)) dL_law_1138 ?_
    refine gx_topi (show xs (nI (i + 1)).toNatClampNeg = xs (i + 1) from by rw [nI_clamp (by omega)]) ?_
    refine lv_aload_n gX gB dL_law_1139 rfl (lv_at hl 6 rfl) ?_
    refine lv_iload gX gB dL_law_1140 (lv_at hl 1 rfl) ?_
    refine lv_iconst (v := 2) gX gB dL_law_1142 (by decide) ?_
    refine lv_iadd gX gB dL_law_1143 ?_
    refine gx_topi (show ((nI i) + 2) = nI (i + 2) from nI_add i 2) ?_
    refine va_sld C.x C.b hX hbl hbA hW.2.2 (nI_in (by omega) (by omega)) dL_law_1144 ?_
    refine gx_topi (show xs (nI (i + 2)).toNatClampNeg = xs (i + 2) from by rw [nI_clamp (by omega)]) ?_
    have hW := gx_W.toM hW
    have hW : gx_W G A s ((([(ow, .inl (G.2.1 2, 1, .inr (.inl g)))] ++ u) ++ [(oD, .inl (G.2.1 4, 1, .inr (.inr (.inr (.inl gD)))))]) ++ [(ad 0, .inr (11, [.int cd, .int (nI pa.length), .ref (ad 1), .ref (ad 2), .ref (ad 3), .ref (ad 4), .ref (ad 5), .int (nI fa.length), .ref (ad 6), .ref (ad 7), .int (nI dn), .ref (ad 8), .long ex, .long ey, .long eg, .int (nI cn), .ref (ad 9), .ref (ad 10), .int (nI n), .int at0, .int fl, .int (nI ds.length), .ref (ad 11), .ref (ad 12)])), (ad 1, .inl (G.2.1 2, 16, .inr (.inl px))), (ad 2, .inl (G.2.1 2, 16, .inr (.inl py))), (ad 3, .inl (G.2.1 2, 16, .inr (.inl pz))), (ad 4, .inl (G.2.1 2, 16, .inr (.inl gr))), (ad 5, .inl (G.2.1 2, 16, .inr (.inl ou))), (ad 6, .inl (G.2.1 2, 12, .inr (.inl fx))), (ad 7, .inl (G.2.1 2, 12, .inr (.inl fy))), (ad 8, .inl (G.2.1 1, 8, .inl od)), (ad 9, .inl (G.2.1 1, 12, .inl cr)), (ad 10, .inl (G.2.1 1, 200, .inl ty)), (ad 11, .inl (G.2.1 1, 48, .inl to_)), (ad 12, .inl (G.2.1 1, 48, .inl dr))]) H locs := hW
    refine gx_callV (wr := ([(ow, .inl (G.2.1 2, 1, .inr (.inl g)))] ++ u) ++ [(oD, .inl (G.2.1 4, 1, .inr (.inr (.inr (.inl gD)))))]) (rest := []) C hW sL_125 (kX6_test l G ad cd pa.length fa.length dn cn n ds.length ex ey eg at0 fl px py pz gr ou fx fy od cr ty to_ dr p16 c12 cf (fun z1 z2 => (rC z1 z2).1) (fun z1 z2 => Nat.lt_of_lt_of_le (rC z1 z2).2 f12) d8 (yy_f ps py ou) (fun z1 z2 z3 z4 => yy_is (rP z3 z4) z2 d8) (Nat.le_trans (Nat.le_of_eq tl.symm) t12) (ds_k ds) (fun z1 z2 => ((rT z1 z2).2.2.2.trans (dk_is hrl z2).1)) (fun z1 z2 => (dk_is hrl z2).2) (xs (i + 1)) (xs (i + 2))) ⟨0, rfl⟩ rfl rfl ⟨(by dsimp only; omega), (by dsimp only; omega)⟩ hl.1 rfl (Nat.le_of_ble_eq_true rfl) dL_law_1145 ⟨(by dsimp only; omega), (by dsimp only; omega)⟩ (fun v9 u9 H locs hm hW => ?_)
    obtain ⟨bb, rfl, hval, hout⟩ := pr_test_3 (ow := ow) (oD := oD) (cd := cd) (at0 := at0) (fl := fl) (dr := dr) hrl hpx9 hm
    obtain ⟨cd9, pn9, fn9, dn9, cn9, sn9, tn9, ex9, ey9, eg9, at9, fl9, px9, py9, pz9, gr9, ou9, fx9, fy9, od9, cr9, ty9, to9, dr9, rfl, hcd, hnew⟩ := hout
    have hW : gx_W G A s ((([(ow, .inl (G.2.1 2, 1, .inr (.inl g)))] ++ u) ++ [(oD, .inl (G.2.1 4, 1, .inr (.inr (.inr (.inl gD)))))]) ++ [(ad 0, .inr (11, [.int cd9, .int (nI pn9), .ref (ad 1), .ref (ad 2), .ref (ad 3), .ref (ad 4), .ref (ad 5), .int (nI fn9), .ref (ad 6), .ref (ad 7), .int (nI dn9), .ref (ad 8), .long ex9, .long ey9, .long eg9, .int (nI cn9), .ref (ad 9), .ref (ad 10), .int (nI sn9), .int at9, .int fl9, .int (nI tn9), .ref (ad 11), .ref (ad 12)])), (ad 1, .inl (G.2.1 2, 16, .inr (.inl px9))), (ad 2, .inl (G.2.1 2, 16, .inr (.inl py9))), (ad 3, .inl (G.2.1 2, 16, .inr (.inl pz9))), (ad 4, .inl (G.2.1 2, 16, .inr (.inl gr9))), (ad 5, .inl (G.2.1 2, 16, .inr (.inl ou9))), (ad 6, .inl (G.2.1 2, 12, .inr (.inl fx9))), (ad 7, .inl (G.2.1 2, 12, .inr (.inl fy9))), (ad 8, .inl (G.2.1 1, 8, .inl od9)), (ad 9, .inl (G.2.1 1, 12, .inl cr9)), (ad 10, .inl (G.2.1 1, 200, .inl ty9)), (ad 11, .inl (G.2.1 1, 48, .inl to9)), (ad 12, .inl (G.2.1 1, 48, .inl dr9))]) H locs := hW
    refine W.eq (g2 := F0 m 1148 ls [.int bb]) rfl ?_
    refine W.widen (k := cells + 2 + 0) (n := slots + 12 + 0) (by dsimp only; omega) (by dsimp only; omega) ?_
    refine lv_istore (lv' := [(7, .int bb), (6, .int 3), (5, .int (nI i)), (4, .ref oD), (3, .ref ow), (2, .ref (ad 0)), (1, .ref x), (0, .ref b0)]) gX gB dL_law_1148 hl (by decide) rfl (fun ls hl => ?_)
    refine lv_aload_n gX gB dL_law_1150 rfl (lv_at hl 5 rfl) ?_
    refine gx_callV (wr := ([(ow, .inl (G.2.1 2, 1, .inr (.inl g)))] ++ u) ++ [(oD, .inl (G.2.1 4, 1, .inr (.inr (.inr (.inl gD)))))]) (rest := []) C hW sL_81 (kX6_thrown l G ad cd9 pn9 fn9 dn9 cn9 sn9 tn9 ex9 ey9 eg9 at9 fl9 px9 py9 pz9 gr9 ou9 fx9 fy9 od9 cr9 ty9 to9 dr9) ⟨0, rfl⟩ rfl rfl ⟨(by dsimp only; omega), (by dsimp only; omega)⟩ hl.1 rfl (Nat.le_of_ble_eq_true rfl) dL_law_1151 ⟨(by dsimp only; omega), (by dsimp only; omega)⟩ (fun v9 u9 H locs hp hW => ?_)
    obtain ⟨rfl, rfl⟩ := hp
    have hW : gx_W G A s ((([(ow, .inl (G.2.1 2, 1, .inr (.inl g)))] ++ u) ++ [(oD, .inl (G.2.1 4, 1, .inr (.inr (.inr (.inl gD)))))]) ++ [(ad 0, .inr (11, [.int cd9, .int (nI pn9), .ref (ad 1), .ref (ad 2), .ref (ad 3), .ref (ad 4), .ref (ad 5), .int (nI fn9), .ref (ad 6), .ref (ad 7), .int (nI dn9), .ref (ad 8), .long ex9, .long ey9, .long eg9, .int (nI cn9), .ref (ad 9), .ref (ad 10), .int (nI sn9), .int at9, .int fl9, .int (nI tn9), .ref (ad 11), .ref (ad 12)])), (ad 1, .inl (G.2.1 2, 16, .inr (.inl px9))), (ad 2, .inl (G.2.1 2, 16, .inr (.inl py9))), (ad 3, .inl (G.2.1 2, 16, .inr (.inl pz9))), (ad 4, .inl (G.2.1 2, 16, .inr (.inl gr9))), (ad 5, .inl (G.2.1 2, 16, .inr (.inl ou9))), (ad 6, .inl (G.2.1 2, 12, .inr (.inl fx9))), (ad 7, .inl (G.2.1 2, 12, .inr (.inl fy9))), (ad 8, .inl (G.2.1 1, 8, .inl od9)), (ad 9, .inl (G.2.1 1, 12, .inl cr9)), (ad 10, .inl (G.2.1 1, 200, .inl ty9)), (ad 11, .inl (G.2.1 1, 48, .inl to9)), (ad 12, .inl (G.2.1 1, 48, .inl dr9))]) H locs := hW
    refine W.eq (g2 := F0 m 1154 ls [.int cd9]) rfl ?_
    refine W.widen (k := cells + 2 + 0 + 0) (n := slots + 12 + 0 + 0) (by dsimp only; omega) (by dsimp only; omega) ?_
    refine lv_iload gX gB dL_law_1154 (lv_at hl 1 rfl) ?_
    refine lv_icmp_eq (tgt := 1161) gX gB dL_law_1156 (by decide) (fun _ => ?_) (fun h9 => absurd (show cd9 = (3 : Int32) from hcd) h9)
    refine lv_iload gX gB dL_law_1161 (lv_at hl 1 rfl) ?_
    refine lv_if_ne (tgt := 1178) gX gB dL_law_1163 (by decide) (fun _ => ?_) (fun h9 => absurd h9 (show ¬ 3 = (0 : Int32) from by decide))
    refine lv_goto (tgt := 1766) gX gB dL_law_1178 (by decide) ?_
    have hW := gx_W.ofM hW
    refine W.widen (k := cells + 64) (n := slots + 2000) (by omega) (by omega) ?_
    exact kk _ _ _ _ (hnew _ _) hW (lv_sub hl [2, 3, 4, 5, 6, 7] rfl)
set_option maxRecDepth 100000 in
theorem pr_anchor_0 {G : gx_T} {L : List Nat} {f : Nat → va_E} {x ow oD : Nat} {ad : Nat → Nat} {P F S X N T E : Nat} {dn : Nat} {bP : Option Nat} {pa : List Nat} {ps : Nat → ld_T} {bF : Option Nat} {fa : List Nat} {fd : Nat → ft_T} {bS : Option Nat} {sa : List Nat} {sd : Nat → sd_T} {b cap n : Nat} {t : Nat → Nat} {bT : Option Nat} {ta : List Nat} {ds : List rt_T} {ex ey eg : Int64} {cn : Nat} {cf : Nat → Nat} {px py pz gr ou fx fy : Nat → Int64} {od cr ty to_ : Nat → Int32} {cd at0 fl : Int32} {dr : Nat → Int32}  (hrl : rl_at G L f x P F S X N T E dn bP pa ps bF fa fd bS sa sd b cap n t bT ta ds ex ey eg cn cf px py pz gr ou fx fy od cr ty to_) {u M : va_W} {v : Option Value}  {r : Int32} (hpo : (fun (v : Option Value) (u : va_W) => v = some (.int (an_at (fun j => vd_at (fun j_1 => mo_of (sd j_1).2.1 (sd j_1).2.2 (op_n (nI dn) ((ds_t ds) j).2) ((ds_t ds) j).1 ps pa.length) sa.length) ta.length)) ∧ u = va_pl L f ∧ ms_code sa.length = 0) (some (.int r)) u) (hm : (fun (v : Option Value) (u : va_W) => (ms_code (sn_of cn) = 0 ∧ v = some (.int (an_at (tv_at fx fy px gr (yy_f ps py ou) cf to_ (ds_k ds) dn cn pa.length) ds.length)) ∧ u = [(ad 0, .inr (11, [.int 0, .int (nI pa.length), .ref (ad 1), .ref (ad 2), .ref (ad 3), .ref (ad 4), .ref (ad 5), .int (nI fa.length), .ref (ad 6), .ref (ad 7), .int (nI dn), .ref (ad 8), .long ex, .long ey, .long eg, .int (nI cn), .ref (ad 9), .ref (ad 10), .int (nI n), .int at0, .int fl, .int (nI ds.length), .ref (ad 11), .ref (ad 12)])), (ad 1, .inl (G.2.1 2, 16, .inr (.inl px))), (ad 2, .inl (G.2.1 2, 16, .inr (.inl py))), (ad 3, .inl (G.2.1 2, 16, .inr (.inl pz))), (ad 4, .inl (G.2.1 2, 16, .inr (.inl gr))), (ad 5, .inl (G.2.1 2, 16, .inr (.inl ou))), (ad 6, .inl (G.2.1 2, 12, .inr (.inl fx))), (ad 7, .inl (G.2.1 2, 12, .inr (.inl fy))), (ad 8, .inl (G.2.1 1, 8, .inl od)), (ad 9, .inl (G.2.1 1, 12, .inl cr)), (ad 10, .inl (G.2.1 1, 200, .inl ty)), (ad 11, .inl (G.2.1 1, 48, .inl to_)), (ad 12, .inl (G.2.1 1, 48, .inl dr))]) ∨ (¬ ms_code (sn_of cn) = 0 ∧ v = some (.int 0) ∧ u = [(ad 0, .inr (11, [.int (ms_code (sn_of cn)), .int (nI pa.length), .ref (ad 1), .ref (ad 2), .ref (ad 3), .ref (ad 4), .ref (ad 5), .int (nI fa.length), .ref (ad 6), .ref (ad 7), .int (nI dn), .ref (ad 8), .long ex, .long ey, .long eg, .int (nI cn), .ref (ad 9), .ref (ad 10), .int (nI n), .int at0, .int fl, .int (nI ds.length), .ref (ad 11), .ref (ad 12)])), (ad 1, .inl (G.2.1 2, 16, .inr (.inl px))), (ad 2, .inl (G.2.1 2, 16, .inr (.inl py))), (ad 3, .inl (G.2.1 2, 16, .inr (.inl pz))), (ad 4, .inl (G.2.1 2, 16, .inr (.inl gr))), (ad 5, .inl (G.2.1 2, 16, .inr (.inl ou))), (ad 6, .inl (G.2.1 2, 12, .inr (.inl fx))), (ad 7, .inl (G.2.1 2, 12, .inr (.inl fy))), (ad 8, .inl (G.2.1 1, 8, .inl od)), (ad 9, .inl (G.2.1 1, 12, .inl cr)), (ad 10, .inl (G.2.1 1, 200, .inl ty)), (ad 11, .inl (G.2.1 1, 48, .inl to_)), (ad 12, .inl (G.2.1 1, 48, .inl dr))])) v M) : ∃ bb : Int32, v = some (.int bb) ∧ r = bb ∧ lw_out G x ow oD ad 0 u M := by
  obtain ⟨e1, rfl, hc⟩ := hpo
  have slE := hrl.2.2.2.2.2.2.2.2.2.2.2.2.2.2.2.2.2.2.2.2.2.2.2.2.2.2.2.2.2.2.2.2.2.2.2.1
  have tl := hrl.2.2.2.2.2.2.2.2.2.2.2.2.2.2.2.2.2.2.2.2.2.2.2.2.2.2.2.2.2.2.2.1
  rcases hm with ⟨-, rfl, rfl⟩ | ⟨h1, -, -⟩
  · injection e1 with e1
    injection e1 with e1
    have n0 := ms_inv hc
    have hv := an_cong (n := ta.length) (fun j hj => tv_is hrl (k := j) (by omega) n0)
    exact ⟨_, rfl, by rw [e1, ← tl]; exact hv, ⟨(0), pa.length, fa.length, dn, cn, n, ds.length, ex, ey, eg, at0, fl, px, py, pz, gr, ou, fx, fy, od, cr, ty, to_, dr, rfl, rfl, fun g gD => ⟨L, f, P, F, S, X, N, T, E, dn, bP, pa, ps, bF, fa, fd, bS, sa, sd, b, cap, n, t, bT, ta, ds, ex, ey, eg, cn, cf, px, py, pz, gr, ou, fx, fy, od, cr, ty, to_, _, at0, fl, dr, g, gD, rfl, hrl⟩⟩⟩
  · rw [← slE] at h1
    exact absurd hc h1
set_option maxRecDepth 100000 in
theorem pr_anchor_1 {G : gx_T} {L : List Nat} {f : Nat → va_E} {x ow oD : Nat} {ad : Nat → Nat} {P F S X N T E : Nat} {dn : Nat} {bP : Option Nat} {pa : List Nat} {ps : Nat → ld_T} {bF : Option Nat} {fa : List Nat} {fd : Nat → ft_T} {bS : Option Nat} {sa : List Nat} {sd : Nat → sd_T} {b cap n : Nat} {t : Nat → Nat} {bT : Option Nat} {ta : List Nat} {ds : List rt_T} {ex ey eg : Int64} {cn : Nat} {cf : Nat → Nat} {px py pz gr ou fx fy : Nat → Int64} {od cr ty to_ : Nat → Int32} {cd at0 fl : Int32} {dr : Nat → Int32}  (hrl : rl_at G L f x P F S X N T E dn bP pa ps bF fa fd bS sa sd b cap n t bT ta ds ex ey eg cn cf px py pz gr ou fx fy od cr ty to_) {u M : va_W} {v : Option Value}  (hpo : (fun (Ex : String) (u : va_W) => u = va_pl L f ∧ px1 gx_E1 (ms_code sa.length) Ex) gx_E1 u) (hm : (fun (v : Option Value) (u : va_W) => (ms_code (sn_of cn) = 0 ∧ v = some (.int (an_at (tv_at fx fy px gr (yy_f ps py ou) cf to_ (ds_k ds) dn cn pa.length) ds.length)) ∧ u = [(ad 0, .inr (11, [.int 0, .int (nI pa.length), .ref (ad 1), .ref (ad 2), .ref (ad 3), .ref (ad 4), .ref (ad 5), .int (nI fa.length), .ref (ad 6), .ref (ad 7), .int (nI dn), .ref (ad 8), .long ex, .long ey, .long eg, .int (nI cn), .ref (ad 9), .ref (ad 10), .int (nI n), .int at0, .int fl, .int (nI ds.length), .ref (ad 11), .ref (ad 12)])), (ad 1, .inl (G.2.1 2, 16, .inr (.inl px))), (ad 2, .inl (G.2.1 2, 16, .inr (.inl py))), (ad 3, .inl (G.2.1 2, 16, .inr (.inl pz))), (ad 4, .inl (G.2.1 2, 16, .inr (.inl gr))), (ad 5, .inl (G.2.1 2, 16, .inr (.inl ou))), (ad 6, .inl (G.2.1 2, 12, .inr (.inl fx))), (ad 7, .inl (G.2.1 2, 12, .inr (.inl fy))), (ad 8, .inl (G.2.1 1, 8, .inl od)), (ad 9, .inl (G.2.1 1, 12, .inl cr)), (ad 10, .inl (G.2.1 1, 200, .inl ty)), (ad 11, .inl (G.2.1 1, 48, .inl to_)), (ad 12, .inl (G.2.1 1, 48, .inl dr))]) ∨ (¬ ms_code (sn_of cn) = 0 ∧ v = some (.int 0) ∧ u = [(ad 0, .inr (11, [.int (ms_code (sn_of cn)), .int (nI pa.length), .ref (ad 1), .ref (ad 2), .ref (ad 3), .ref (ad 4), .ref (ad 5), .int (nI fa.length), .ref (ad 6), .ref (ad 7), .int (nI dn), .ref (ad 8), .long ex, .long ey, .long eg, .int (nI cn), .ref (ad 9), .ref (ad 10), .int (nI n), .int at0, .int fl, .int (nI ds.length), .ref (ad 11), .ref (ad 12)])), (ad 1, .inl (G.2.1 2, 16, .inr (.inl px))), (ad 2, .inl (G.2.1 2, 16, .inr (.inl py))), (ad 3, .inl (G.2.1 2, 16, .inr (.inl pz))), (ad 4, .inl (G.2.1 2, 16, .inr (.inl gr))), (ad 5, .inl (G.2.1 2, 16, .inr (.inl ou))), (ad 6, .inl (G.2.1 2, 12, .inr (.inl fx))), (ad 7, .inl (G.2.1 2, 12, .inr (.inl fy))), (ad 8, .inl (G.2.1 1, 8, .inl od)), (ad 9, .inl (G.2.1 1, 12, .inl cr)), (ad 10, .inl (G.2.1 1, 200, .inl ty)), (ad 11, .inl (G.2.1 1, 48, .inl to_)), (ad 12, .inl (G.2.1 1, 48, .inl dr))])) v M) : ∃ bb : Int32, v = some (.int bb) ∧ True ∧ lw_out G x ow oD ad 1 u M := by
  obtain ⟨rfl, hp⟩ := hpo
  have slE := hrl.2.2.2.2.2.2.2.2.2.2.2.2.2.2.2.2.2.2.2.2.2.2.2.2.2.2.2.2.2.2.2.2.2.2.2.1
  have hc := px1_c hp
  rcases hm with ⟨h1, -, -⟩ | ⟨-, rfl, rfl⟩
  · rw [← slE, hc] at h1
    exact absurd h1 (by decide)
  · exact ⟨_, rfl, trivial, ⟨((ms_code (sn_of cn))), pa.length, fa.length, dn, cn, n, ds.length, ex, ey, eg, at0, fl, px, py, pz, gr, ou, fx, fy, od, cr, ty, to_, dr, rfl, (by rw [← slE, hc]), fun g gD => ⟨L, f, P, F, S, X, N, T, E, dn, bP, pa, ps, bF, fa, fd, bS, sa, sd, b, cap, n, t, bT, ta, ds, ex, ey, eg, cn, cf, px, py, pz, gr, ou, fx, fy, od, cr, ty, to_, _, at0, fl, dr, g, gD, rfl, hrl⟩⟩⟩
set_option maxHeartbeats 8000000 in
set_option maxRecDepth 100000 in
theorem lc_anchor {l : Launch} (hfl : l.flags = flags0) {p : Program} {e : Env} {R : Room} {s : State} {m : MethodId} {below : List Frame} {meth : Method} {c : Code} {A : Nat → Prop} {G : gx_T} {b0 Ls : Nat} {xs : Nat → Int32} {x ow oD : Nat} {ad : Nat → Nat} {H : Heap} {locs : List Loc} {cells slots : Nat} {Q : State → Prop} {ls : Array Slot} {i : Nat} {ws : va_W} (C : gx_C G p s m #[Value.ref b0] meth c cL_law 9 RL A) (hX : va_X b0 Ls xs s s.heap) (hbl : b0 < s.heap.size) (hbA : ¬ A b0) (hi : i + 9 ≤ Ls) (hLs : Ls ≤ 4608) (hR : 100 ≤ R.frames ∧ 4000 ≤ R.locals ∧ cells + 64 ≤ R.cells ∧ slots + 2000 ≤ R.slots) (hinv : lw_inv G x ow oD ad ws) (hW : gx_W G A s ws H locs) (hl : lv_has ls 9 [(5, .int (nI i)), (4, .ref oD), (3, .ref ow), (2, .ref (ad 0)), (1, .ref x), (0, .ref b0)]) (kk : ∀ (ws2 : va_W) (H2 : Heap) (locs2 : List Loc) (ls2 : Array Slot), lw_inv G x ow oD ad ws2 → gx_W G A s ws2 H2 locs2 → lv_has ls2 9 [(5, .int (nI i)), (4, .ref oD), (3, .ref ow), (2, .ref (ad 0)), (1, .ref x), (0, .ref b0)] → W p l e R s m #[Value.ref b0] below meth c H2 locs2 (cells + 64) (slots + 2000) Q (F0 m 1766 ls2 [])) : W p l e R s m #[Value.ref b0] below meth c H locs cells slots Q (F0 m 1181 ls []) := by
  have gX := C.x
  have gB := C.b
  obtain ⟨L, f, P, F, S, X, N, T, E, dn, bP, pa, ps, bF, fa, fd, bS, sa, sd, b, cap, n, t, bT, ta, ds, ex, ey, eg, cn, cf, px, py, pz, gr, ou, fx, fy, od, cr, ty, to_, cd, at0, fl, dr, g, gD, rfl, hrl⟩ := hinv
  obtain ⟨hx, fx0, lP, lF, lS, lT, tb, hN, hE, pP, pF, pS, pT, nPF, nPS, nPT, nFS, nFT, nST, rPF, rPS, rPT, rFS, rFT, rST, nd, Nn, En, p16, f12, t12, tl, n2, d8, c12, sl, rP, rO, rQ, rF, rE, rX, rT, rD, rC, rS⟩ := id hrl
  refine lv_aload_n gX gB dL_law_1181 rfl (lv_at hl 4 rfl) ?_
  refine lv_aload_n gX gB dL_law_1182 rfl (lv_at hl 2 rfl) ?_
  refine gx_callSH (wr := [(oD, .inl (G.2.1 4, 1, .inr (.inr (.inr (.inl gD))))), (ad 0, .inr (11, [.int cd, .int (nI pa.length), .ref (ad 1), .ref (ad 2), .ref (ad 3), .ref (ad 4), .ref (ad 5), .int (nI fa.length), .ref (ad 6), .ref (ad 7), .int (nI dn), .ref (ad 8), .long ex, .long ey, .long eg, .int (nI cn), .ref (ad 9), .ref (ad 10), .int (nI n), .int at0, .int fl, .int (nI ds.length), .ref (ad 11), .ref (ad 12)])), (ad 1, .inl (G.2.1 2, 16, .inr (.inl px))), (ad 2, .inl (G.2.1 2, 16, .inr (.inl py))), (ad 3, .inl (G.2.1 2, 16, .inr (.inl pz))), (ad 4, .inl (G.2.1 2, 16, .inr (.inl gr))), (ad 5, .inl (G.2.1 2, 16, .inr (.inl ou))), (ad 6, .inl (G.2.1 2, 12, .inr (.inl fx))), (ad 7, .inl (G.2.1 2, 12, .inr (.inl fy))), (ad 8, .inl (G.2.1 1, 8, .inl od)), (ad 9, .inl (G.2.1 1, 12, .inl cr)), (ad 10, .inl (G.2.1 1, 200, .inl ty)), (ad 11, .inl (G.2.1 1, 48, .inl to_)), (ad 12, .inl (G.2.1 1, 48, .inl dr))]) (rest := []) C hW sLH_126 (kL_anchor l G L f x _ hx fx0 ow g _ _ (kX5_anchor l hfl G L f x P F S X N T E (nI dn) hx fx0 bP pa ps lP pP bS sa sd lS pS bT ta (ds_t ds) lT (fun z1 z2 => (pT z1 z2).is)) (fun v u h => ⟨_, h.1⟩) (fun E u h => h.2.1)) rfl ⟨(by dsimp only; omega), (by dsimp only; omega)⟩ hl.1 rfl (Nat.le_of_ble_eq_true rfl) dL_law_1183 ⟨(by dsimp only; omega), (by dsimp only; omega)⟩ (fun v9 u9 H locs hp hW => ?_)
  rcases hp with ⟨r, u, hpo, rfl, rfl⟩ | ⟨u, hpx9, rfl, rfl⟩
  · have hW : gx_W G A s ([(oD, .inl (G.2.1 4, 1, .inr (.inr (.inr (.inl gD))))), (ad 0, .inr (11, [.int cd, .int (nI pa.length), .ref (ad 1), .ref (ad 2), .ref (ad 3), .ref (ad 4), .ref (ad 5), .int (nI fa.length), .ref (ad 6), .ref (ad 7), .int (nI dn), .ref (ad 8), .long ex, .long ey, .long eg, .int (nI cn), .ref (ad 9), .ref (ad 10), .int (nI n), .int at0, .int fl, .int (nI ds.length), .ref (ad 11), .ref (ad 12)])), (ad 1, .inl (G.2.1 2, 16, .inr (.inl px))), (ad 2, .inl (G.2.1 2, 16, .inr (.inl py))), (ad 3, .inl (G.2.1 2, 16, .inr (.inl pz))), (ad 4, .inl (G.2.1 2, 16, .inr (.inl gr))), (ad 5, .inl (G.2.1 2, 16, .inr (.inl ou))), (ad 6, .inl (G.2.1 2, 12, .inr (.inl fx))), (ad 7, .inl (G.2.1 2, 12, .inr (.inl fy))), (ad 8, .inl (G.2.1 1, 8, .inl od)), (ad 9, .inl (G.2.1 1, 12, .inl cr)), (ad 10, .inl (G.2.1 1, 200, .inl ty)), (ad 11, .inl (G.2.1 1, 48, .inl to_)), (ad 12, .inl (G.2.1 1, 48, .inl dr))] ++ ([(ow, .inl (G.2.1 2, 1, .inr (.inl (vp_updL g 0 (if r = 0 then 0 else 1)))))] ++ u)) H locs := hW
    refine W.eq (g2 := F0 m 1186 ls [.int 0]) rfl ?_
    refine W.widen (k := cells + 1) (n := slots + 6) (by dsimp only; omega) (by dsimp only; omega) ?_
    refine lv_istore (lv' := [(6, .int 0), (5, .int (nI i)), (4, .ref oD), (3, .ref ow), (2, .ref (ad 0)), (1, .ref x), (0, .ref b0)]) gX gB dL_law_1186 hl (by decide) rfl (fun ls hl => ?_)
    refine lv_aload_n gX gB dL_law_1188 rfl (lv_at hl 4 rfl) ?_
    have hW := gx_W.toM hW
    have hW : gx_W G A s ((([(ow, .inl (G.2.1 2, 1, .inr (.inl (vp_updL g 0 (if r = 0 then 0 else 1)))))] ++ u) ++ [(oD, .inl (G.2.1 4, 1, .inr (.inr (.inr (.inl gD)))))]) ++ [(ad 0, .inr (11, [.int cd, .int (nI pa.length), .ref (ad 1), .ref (ad 2), .ref (ad 3), .ref (ad 4), .ref (ad 5), .int (nI fa.length), .ref (ad 6), .ref (ad 7), .int (nI dn), .ref (ad 8), .long ex, .long ey, .long eg, .int (nI cn), .ref (ad 9), .ref (ad 10), .int (nI n), .int at0, .int fl, .int (nI ds.length), .ref (ad 11), .ref (ad 12)])), (ad 1, .inl (G.2.1 2, 16, .inr (.inl px))), (ad 2, .inl (G.2.1 2, 16, .inr (.inl py))), (ad 3, .inl (G.2.1 2, 16, .inr (.inl pz))), (ad 4, .inl (G.2.1 2, 16, .inr (.inl gr))), (ad 5, .inl (G.2.1 2, 16, .inr (.inl ou))), (ad 6, .inl (G.2.1 2, 12, .inr (.inl fx))), (ad 7, .inl (G.2.1 2, 12, .inr (.inl fy))), (ad 8, .inl (G.2.1 1, 8, .inl od)), (ad 9, .inl (G.2.1 1, 12, .inl cr)), (ad 10, .inl (G.2.1 1, 200, .inl ty)), (ad 11, .inl (G.2.1 1, 48, .inl to_)), (ad 12, .inl (G.2.1 1, 48, .inl dr))]) H locs := hW
    refine gx_callV (wr := ([(ow, .inl (G.2.1 2, 1, .inr (.inl (vp_updL g 0 (if r = 0 then 0 else 1)))))] ++ u) ++ [(oD, .inl (G.2.1 4, 1, .inr (.inr (.inr (.inl gD)))))]) (rest := []) C hW sL_128 (kX6_anchor l G ad cd pa.length fa.length dn cn n ds.length ex ey eg at0 fl px py pz gr ou fx fy od cr ty to_ dr p16 c12 cf (fun z1 z2 => (rC z1 z2).1) (fun z1 z2 => Nat.lt_of_lt_of_le (rC z1 z2).2 f12) d8 (yy_f ps py ou) (fun z1 z2 z3 z4 => yy_is (rP z3 z4) z2 d8) (Nat.le_trans (Nat.le_of_eq tl.symm) t12) (ds_k ds) (fun z1 z2 => ((rT z1 z2).2.2.2.trans (dk_is hrl z2).1)) (fun z1 z2 => (dk_is hrl z2).2)) ⟨0, rfl⟩ rfl rfl ⟨(by dsimp only; omega), (by dsimp only; omega)⟩ hl.1 rfl (Nat.le_of_ble_eq_true rfl) dL_law_1189 ⟨(by dsimp only; omega), (by dsimp only; omega)⟩ (fun v9 u9 H locs hm hW => ?_)
    obtain ⟨bb, rfl, hval, hout⟩ := pr_anchor_0 (ow := ow) (oD := oD) (cd := cd) (at0 := at0) (fl := fl) (dr := dr) hrl hpo hm
    obtain ⟨cd9, pn9, fn9, dn9, cn9, sn9, tn9, ex9, ey9, eg9, at9, fl9, px9, py9, pz9, gr9, ou9, fx9, fy9, od9, cr9, ty9, to9, dr9, rfl, hcd, hnew⟩ := hout
    have hW : gx_W G A s ((([(ow, .inl (G.2.1 2, 1, .inr (.inl (vp_updL g 0 (if r = 0 then 0 else 1)))))] ++ u) ++ [(oD, .inl (G.2.1 4, 1, .inr (.inr (.inr (.inl gD)))))]) ++ [(ad 0, .inr (11, [.int cd9, .int (nI pn9), .ref (ad 1), .ref (ad 2), .ref (ad 3), .ref (ad 4), .ref (ad 5), .int (nI fn9), .ref (ad 6), .ref (ad 7), .int (nI dn9), .ref (ad 8), .long ex9, .long ey9, .long eg9, .int (nI cn9), .ref (ad 9), .ref (ad 10), .int (nI sn9), .int at9, .int fl9, .int (nI tn9), .ref (ad 11), .ref (ad 12)])), (ad 1, .inl (G.2.1 2, 16, .inr (.inl px9))), (ad 2, .inl (G.2.1 2, 16, .inr (.inl py9))), (ad 3, .inl (G.2.1 2, 16, .inr (.inl pz9))), (ad 4, .inl (G.2.1 2, 16, .inr (.inl gr9))), (ad 5, .inl (G.2.1 2, 16, .inr (.inl ou9))), (ad 6, .inl (G.2.1 2, 12, .inr (.inl fx9))), (ad 7, .inl (G.2.1 2, 12, .inr (.inl fy9))), (ad 8, .inl (G.2.1 1, 8, .inl od9)), (ad 9, .inl (G.2.1 1, 12, .inl cr9)), (ad 10, .inl (G.2.1 1, 200, .inl ty9)), (ad 11, .inl (G.2.1 1, 48, .inl to9)), (ad 12, .inl (G.2.1 1, 48, .inl dr9))]) H locs := hW
    refine W.eq (g2 := F0 m 1192 ls [.int bb]) rfl ?_
    refine W.widen (k := cells + 1 + 0) (n := slots + 6 + 0) (by dsimp only; omega) (by dsimp only; omega) ?_
    refine lv_istore (lv' := [(7, .int bb), (6, .int 0), (5, .int (nI i)), (4, .ref oD), (3, .ref ow), (2, .ref (ad 0)), (1, .ref x), (0, .ref b0)]) gX gB dL_law_1192 hl (by decide) rfl (fun ls hl => ?_)
    refine lv_aload_n gX gB dL_law_1194 rfl (lv_at hl 5 rfl) ?_
    refine gx_callV (wr := ([(ow, .inl (G.2.1 2, 1, .inr (.inl (vp_updL g 0 (if r = 0 then 0 else 1)))))] ++ u) ++ [(oD, .inl (G.2.1 4, 1, .inr (.inr (.inr (.inl gD)))))]) (rest := []) C hW sL_81 (kX6_thrown l G ad cd9 pn9 fn9 dn9 cn9 sn9 tn9 ex9 ey9 eg9 at9 fl9 px9 py9 pz9 gr9 ou9 fx9 fy9 od9 cr9 ty9 to9 dr9) ⟨0, rfl⟩ rfl rfl ⟨(by dsimp only; omega), (by dsimp only; omega)⟩ hl.1 rfl (Nat.le_of_ble_eq_true rfl) dL_law_1195 ⟨(by dsimp only; omega), (by dsimp only; omega)⟩ (fun v9 u9 H locs hp hW => ?_)
    obtain ⟨rfl, rfl⟩ := hp
    have hW : gx_W G A s ((([(ow, .inl (G.2.1 2, 1, .inr (.inl (vp_updL g 0 (if r = 0 then 0 else 1)))))] ++ u) ++ [(oD, .inl (G.2.1 4, 1, .inr (.inr (.inr (.inl gD)))))]) ++ [(ad 0, .inr (11, [.int cd9, .int (nI pn9), .ref (ad 1), .ref (ad 2), .ref (ad 3), .ref (ad 4), .ref (ad 5), .int (nI fn9), .ref (ad 6), .ref (ad 7), .int (nI dn9), .ref (ad 8), .long ex9, .long ey9, .long eg9, .int (nI cn9), .ref (ad 9), .ref (ad 10), .int (nI sn9), .int at9, .int fl9, .int (nI tn9), .ref (ad 11), .ref (ad 12)])), (ad 1, .inl (G.2.1 2, 16, .inr (.inl px9))), (ad 2, .inl (G.2.1 2, 16, .inr (.inl py9))), (ad 3, .inl (G.2.1 2, 16, .inr (.inl pz9))), (ad 4, .inl (G.2.1 2, 16, .inr (.inl gr9))), (ad 5, .inl (G.2.1 2, 16, .inr (.inl ou9))), (ad 6, .inl (G.2.1 2, 12, .inr (.inl fx9))), (ad 7, .inl (G.2.1 2, 12, .inr (.inl fy9))), (ad 8, .inl (G.2.1 1, 8, .inl od9)), (ad 9, .inl (G.2.1 1, 12, .inl cr9)), (ad 10, .inl (G.2.1 1, 200, .inl ty9)), (ad 11, .inl (G.2.1 1, 48, .inl to9)), (ad 12, .inl (G.2.1 1, 48, .inl dr9))]) H locs := hW
    refine W.eq (g2 := F0 m 1198 ls [.int cd9]) rfl ?_
    refine W.widen (k := cells + 1 + 0 + 0) (n := slots + 6 + 0 + 0) (by dsimp only; omega) (by dsimp only; omega) ?_
    refine lv_iload gX gB dL_law_1198 (lv_at hl 1 rfl) ?_
    refine lv_icmp_eq (tgt := 1205) gX gB dL_law_1200 (by decide) (fun _ => ?_) (fun h9 => absurd (show cd9 = (0 : Int32) from hcd) h9)
    refine lv_iload gX gB dL_law_1205 (lv_at hl 1 rfl) ?_
    refine lv_if_ne (tgt := 1229) gX gB dL_law_1207 (by decide) (fun h9 => absurd (show ¬ 0 = (0 : Int32) from h9) (by decide)) (fun _ => ?_)
    refine lv_aload_n gX gB dL_law_1210 rfl (lv_at hl 4 rfl) ?_
    refine lv_iconst (v := 0) gX gB dL_law_1211 (by decide) ?_
    refine gx_lald C hW (a := ow) (g := vp_updL g 0 (if r = 0 then 0 else 1)) (j := 0) ⟨0, rfl⟩ rfl (by decide) (by decide) dL_law_1212 ?_
    refine gx_topl (show (vp_updL g 0 (if r = 0 then 0 else 1)) 0 = (if r = 0 then 0 else 1) from ul_eq) ?_
    refine lv_iload gX gB dL_law_1213 (lv_at hl 0 rfl) ?_
    refine lv_if_eq (tgt := 1222) gX gB dL_law_1215 (by decide) (fun c1215 => ?_) (fun c1215 => ?_)
    · refine lv_lconst (v := 0) gX gB dL_law_1222 (by decide) ?_
      refine gx_lc_eq (tgt := 1229) C dL_law_1223 dL_law_1224 (by decide) (fun _ => ?_) (fun h9 => absurd (show (if r = 0 then 0 else 1) = (0 : Int64) from by rw [hval, if_pos c1215]) h9)
      refine lv_goto (tgt := 1766) gX gB dL_law_1229 (by decide) ?_
      have hW := gx_W.ofM hW
      refine W.widen (k := cells + 64) (n := slots + 2000) (by omega) (by omega) ?_
      exact kk _ _ _ _ (hnew _ _) hW (lv_sub hl [2, 3, 4, 5, 6, 7] rfl)
    · refine lv_lconst (v := 1) gX gB dL_law_1218 (by decide) ?_
      refine lv_goto (tgt := 1223) gX gB dL_law_1219 (by decide) ?_
      refine gx_lc_eq (tgt := 1229) C dL_law_1223 dL_law_1224 (by decide) (fun _ => ?_) (fun h9 => absurd (show (if r = 0 then 0 else 1) = (1 : Int64) from by rw [hval, if_neg c1215]) h9)
      refine lv_goto (tgt := 1766) gX gB dL_law_1229 (by decide) ?_
      have hW := gx_W.ofM hW
      refine W.widen (k := cells + 64) (n := slots + 2000) (by omega) (by omega) ?_
      exact kk _ _ _ _ (hnew _ _) hW (lv_sub hl [2, 3, 4, 5, 6, 7] rfl)
  · have hW : gx_W G A s ([(oD, .inl (G.2.1 4, 1, .inr (.inr (.inr (.inl gD))))), (ad 0, .inr (11, [.int cd, .int (nI pa.length), .ref (ad 1), .ref (ad 2), .ref (ad 3), .ref (ad 4), .ref (ad 5), .int (nI fa.length), .ref (ad 6), .ref (ad 7), .int (nI dn), .ref (ad 8), .long ex, .long ey, .long eg, .int (nI cn), .ref (ad 9), .ref (ad 10), .int (nI n), .int at0, .int fl, .int (nI ds.length), .ref (ad 11), .ref (ad 12)])), (ad 1, .inl (G.2.1 2, 16, .inr (.inl px))), (ad 2, .inl (G.2.1 2, 16, .inr (.inl py))), (ad 3, .inl (G.2.1 2, 16, .inr (.inl pz))), (ad 4, .inl (G.2.1 2, 16, .inr (.inl gr))), (ad 5, .inl (G.2.1 2, 16, .inr (.inl ou))), (ad 6, .inl (G.2.1 2, 12, .inr (.inl fx))), (ad 7, .inl (G.2.1 2, 12, .inr (.inl fy))), (ad 8, .inl (G.2.1 1, 8, .inl od)), (ad 9, .inl (G.2.1 1, 12, .inl cr)), (ad 10, .inl (G.2.1 1, 200, .inl ty)), (ad 11, .inl (G.2.1 1, 48, .inl to_)), (ad 12, .inl (G.2.1 1, 48, .inl dr))] ++ ([(ow, .inl (G.2.1 2, 1, .inr (.inl g)))] ++ u)) H locs := hW
    refine W.eq (g2 := F0 m 1186 ls [.int 1]) rfl ?_
    refine W.widen (k := cells + 1) (n := slots + 6) (by dsimp only; omega) (by dsimp only; omega) ?_
    refine lv_istore (lv' := [(6, .int 1), (5, .int (nI i)), (4, .ref oD), (3, .ref ow), (2, .ref (ad 0)), (1, .ref x), (0, .ref b0)]) gX gB dL_law_1186 hl (by decide) rfl (fun ls hl => ?_)
    refine lv_aload_n gX gB dL_law_1188 rfl (lv_at hl 4 rfl) ?_
    have hW := gx_W.toM hW
    have hW : gx_W G A s ((([(ow, .inl (G.2.1 2, 1, .inr (.inl g)))] ++ u) ++ [(oD, .inl (G.2.1 4, 1, .inr (.inr (.inr (.inl gD)))))]) ++ [(ad 0, .inr (11, [.int cd, .int (nI pa.length), .ref (ad 1), .ref (ad 2), .ref (ad 3), .ref (ad 4), .ref (ad 5), .int (nI fa.length), .ref (ad 6), .ref (ad 7), .int (nI dn), .ref (ad 8), .long ex, .long ey, .long eg, .int (nI cn), .ref (ad 9), .ref (ad 10), .int (nI n), .int at0, .int fl, .int (nI ds.length), .ref (ad 11), .ref (ad 12)])), (ad 1, .inl (G.2.1 2, 16, .inr (.inl px))), (ad 2, .inl (G.2.1 2, 16, .inr (.inl py))), (ad 3, .inl (G.2.1 2, 16, .inr (.inl pz))), (ad 4, .inl (G.2.1 2, 16, .inr (.inl gr))), (ad 5, .inl (G.2.1 2, 16, .inr (.inl ou))), (ad 6, .inl (G.2.1 2, 12, .inr (.inl fx))), (ad 7, .inl (G.2.1 2, 12, .inr (.inl fy))), (ad 8, .inl (G.2.1 1, 8, .inl od)), (ad 9, .inl (G.2.1 1, 12, .inl cr)), (ad 10, .inl (G.2.1 1, 200, .inl ty)), (ad 11, .inl (G.2.1 1, 48, .inl to_)), (ad 12, .inl (G.2.1 1, 48, .inl dr))]) H locs := hW
    refine gx_callV (wr := ([(ow, .inl (G.2.1 2, 1, .inr (.inl g)))] ++ u) ++ [(oD, .inl (G.2.1 4, 1, .inr (.inr (.inr (.inl gD)))))]) (rest := []) C hW sL_128 (kX6_anchor l G ad cd pa.length fa.length dn cn n ds.length ex ey eg at0 fl px py pz gr ou fx fy od cr ty to_ dr p16 c12 cf (fun z1 z2 => (rC z1 z2).1) (fun z1 z2 => Nat.lt_of_lt_of_le (rC z1 z2).2 f12) d8 (yy_f ps py ou) (fun z1 z2 z3 z4 => yy_is (rP z3 z4) z2 d8) (Nat.le_trans (Nat.le_of_eq tl.symm) t12) (ds_k ds) (fun z1 z2 => ((rT z1 z2).2.2.2.trans (dk_is hrl z2).1)) (fun z1 z2 => (dk_is hrl z2).2)) ⟨0, rfl⟩ rfl rfl ⟨(by dsimp only; omega), (by dsimp only; omega)⟩ hl.1 rfl (Nat.le_of_ble_eq_true rfl) dL_law_1189 ⟨(by dsimp only; omega), (by dsimp only; omega)⟩ (fun v9 u9 H locs hm hW => ?_)
    obtain ⟨bb, rfl, hval, hout⟩ := pr_anchor_1 (ow := ow) (oD := oD) (cd := cd) (at0 := at0) (fl := fl) (dr := dr) hrl hpx9 hm
    obtain ⟨cd9, pn9, fn9, dn9, cn9, sn9, tn9, ex9, ey9, eg9, at9, fl9, px9, py9, pz9, gr9, ou9, fx9, fy9, od9, cr9, ty9, to9, dr9, rfl, hcd, hnew⟩ := hout
    have hW : gx_W G A s ((([(ow, .inl (G.2.1 2, 1, .inr (.inl g)))] ++ u) ++ [(oD, .inl (G.2.1 4, 1, .inr (.inr (.inr (.inl gD)))))]) ++ [(ad 0, .inr (11, [.int cd9, .int (nI pn9), .ref (ad 1), .ref (ad 2), .ref (ad 3), .ref (ad 4), .ref (ad 5), .int (nI fn9), .ref (ad 6), .ref (ad 7), .int (nI dn9), .ref (ad 8), .long ex9, .long ey9, .long eg9, .int (nI cn9), .ref (ad 9), .ref (ad 10), .int (nI sn9), .int at9, .int fl9, .int (nI tn9), .ref (ad 11), .ref (ad 12)])), (ad 1, .inl (G.2.1 2, 16, .inr (.inl px9))), (ad 2, .inl (G.2.1 2, 16, .inr (.inl py9))), (ad 3, .inl (G.2.1 2, 16, .inr (.inl pz9))), (ad 4, .inl (G.2.1 2, 16, .inr (.inl gr9))), (ad 5, .inl (G.2.1 2, 16, .inr (.inl ou9))), (ad 6, .inl (G.2.1 2, 12, .inr (.inl fx9))), (ad 7, .inl (G.2.1 2, 12, .inr (.inl fy9))), (ad 8, .inl (G.2.1 1, 8, .inl od9)), (ad 9, .inl (G.2.1 1, 12, .inl cr9)), (ad 10, .inl (G.2.1 1, 200, .inl ty9)), (ad 11, .inl (G.2.1 1, 48, .inl to9)), (ad 12, .inl (G.2.1 1, 48, .inl dr9))]) H locs := hW
    refine W.eq (g2 := F0 m 1192 ls [.int bb]) rfl ?_
    refine W.widen (k := cells + 1 + 0) (n := slots + 6 + 0) (by dsimp only; omega) (by dsimp only; omega) ?_
    refine lv_istore (lv' := [(7, .int bb), (6, .int 1), (5, .int (nI i)), (4, .ref oD), (3, .ref ow), (2, .ref (ad 0)), (1, .ref x), (0, .ref b0)]) gX gB dL_law_1192 hl (by decide) rfl (fun ls hl => ?_)
    refine lv_aload_n gX gB dL_law_1194 rfl (lv_at hl 5 rfl) ?_
    refine gx_callV (wr := ([(ow, .inl (G.2.1 2, 1, .inr (.inl g)))] ++ u) ++ [(oD, .inl (G.2.1 4, 1, .inr (.inr (.inr (.inl gD)))))]) (rest := []) C hW sL_81 (kX6_thrown l G ad cd9 pn9 fn9 dn9 cn9 sn9 tn9 ex9 ey9 eg9 at9 fl9 px9 py9 pz9 gr9 ou9 fx9 fy9 od9 cr9 ty9 to9 dr9) ⟨0, rfl⟩ rfl rfl ⟨(by dsimp only; omega), (by dsimp only; omega)⟩ hl.1 rfl (Nat.le_of_ble_eq_true rfl) dL_law_1195 ⟨(by dsimp only; omega), (by dsimp only; omega)⟩ (fun v9 u9 H locs hp hW => ?_)
    obtain ⟨rfl, rfl⟩ := hp
    have hW : gx_W G A s ((([(ow, .inl (G.2.1 2, 1, .inr (.inl g)))] ++ u) ++ [(oD, .inl (G.2.1 4, 1, .inr (.inr (.inr (.inl gD)))))]) ++ [(ad 0, .inr (11, [.int cd9, .int (nI pn9), .ref (ad 1), .ref (ad 2), .ref (ad 3), .ref (ad 4), .ref (ad 5), .int (nI fn9), .ref (ad 6), .ref (ad 7), .int (nI dn9), .ref (ad 8), .long ex9, .long ey9, .long eg9, .int (nI cn9), .ref (ad 9), .ref (ad 10), .int (nI sn9), .int at9, .int fl9, .int (nI tn9), .ref (ad 11), .ref (ad 12)])), (ad 1, .inl (G.2.1 2, 16, .inr (.inl px9))), (ad 2, .inl (G.2.1 2, 16, .inr (.inl py9))), (ad 3, .inl (G.2.1 2, 16, .inr (.inl pz9))), (ad 4, .inl (G.2.1 2, 16, .inr (.inl gr9))), (ad 5, .inl (G.2.1 2, 16, .inr (.inl ou9))), (ad 6, .inl (G.2.1 2, 12, .inr (.inl fx9))), (ad 7, .inl (G.2.1 2, 12, .inr (.inl fy9))), (ad 8, .inl (G.2.1 1, 8, .inl od9)), (ad 9, .inl (G.2.1 1, 12, .inl cr9)), (ad 10, .inl (G.2.1 1, 200, .inl ty9)), (ad 11, .inl (G.2.1 1, 48, .inl to9)), (ad 12, .inl (G.2.1 1, 48, .inl dr9))]) H locs := hW
    refine W.eq (g2 := F0 m 1198 ls [.int cd9]) rfl ?_
    refine W.widen (k := cells + 1 + 0 + 0) (n := slots + 6 + 0 + 0) (by dsimp only; omega) (by dsimp only; omega) ?_
    refine lv_iload gX gB dL_law_1198 (lv_at hl 1 rfl) ?_
    refine lv_icmp_eq (tgt := 1205) gX gB dL_law_1200 (by decide) (fun _ => ?_) (fun h9 => absurd (show cd9 = (1 : Int32) from hcd) h9)
    refine lv_iload gX gB dL_law_1205 (lv_at hl 1 rfl) ?_
    refine lv_if_ne (tgt := 1229) gX gB dL_law_1207 (by decide) (fun _ => ?_) (fun h9 => absurd h9 (show ¬ 1 = (0 : Int32) from by decide))
    refine lv_goto (tgt := 1766) gX gB dL_law_1229 (by decide) ?_
    have hW := gx_W.ofM hW
    refine W.widen (k := cells + 64) (n := slots + 2000) (by omega) (by omega) ?_
    exact kk _ _ _ _ (hnew _ _) hW (lv_sub hl [2, 3, 4, 5, 6, 7] rfl)
theorem gm_i {x : Int64} (h : gm_ok x) : 0 ≤ x.toInt ∧ x.toInt ≤ 1000000 := by
  obtain ⟨h1, h2⟩ := h
  rw [l_lt, l_0] at h1
  rw [l_lt, show (1000000 : Int64).toInt = 1000000 by decide] at h2
  omega
theorem w_pm {a b : Int64} (ha : gm_ok a) (hb : w_bd b) : -1000000000000 ≤ (a * b).toInt ∧ (a * b).toInt ≤ 1000000000000 := by
  have h1 := gm_i ha
  have h := i_mulb (u := a.toInt) (v := b.toInt) (A := 1000000) (by omega) (by omega)
  rw [Int64.toInt_mul, Int.bmod_eq_of_le (by omega) (by omega)]
  omega
theorem mo_bd {m0 : Int64} {g : Nat → Int64} {lo B : Nat} (hl : lo ≤ 1000000000000) (hB : B ≤ 1000000000000) (h0 : -(lo : Int) ≤ m0.toInt ∧ m0.toInt ≤ B) : ∀ n, n ≤ 16 → (∀ i, i < n → -(lo : Int) ≤ (g i).toInt ∧ (g i).toInt ≤ B) → -(((n + 1) * lo : Nat) : Int) ≤ (mo_sum m0 g n).toInt ∧ (mo_sum m0 g n).toInt ≤ (((n + 1) * B : Nat) : Int) := by
  intro n
  induction n with
  | zero =>
    intro _ _
    show -(((0 + 1) * lo : Nat) : Int) ≤ m0.toInt ∧ m0.toInt ≤ (((0 + 1) * B : Nat) : Int)
    rw [Nat.zero_add, Nat.one_mul, Nat.one_mul]
    exact h0
  | succ n ih =>
    intro hn h
    obtain ⟨i1, i2⟩ := ih (by omega) (fun i hi => h i (by omega))
    obtain ⟨g1, g2⟩ := h n (by omega)
    have e1 : (n + 1 + 1) * lo = (n + 1) * lo + lo := Nat.succ_mul _ _
    have e2 : (n + 1 + 1) * B = (n + 1) * B + B := Nat.succ_mul _ _
    have b1 : (n + 1) * lo ≤ 17 * 1000000000000 := Nat.mul_le_mul (by omega) hl
    have b2 : (n + 1) * B ≤ 17 * 1000000000000 := Nat.mul_le_mul (by omega) hB
    show -(((n + 1 + 1) * lo : Nat) : Int) ≤ (mo_sum m0 g n + g n).toInt ∧ (mo_sum m0 g n + g n).toInt ≤ (((n + 1 + 1) * B : Nat) : Int)
    rw [e1, e2, Int64.toInt_add, Int.bmod_eq_of_le (by omega) (by omega)]
    omega
theorem lN_nat {x : Int64} (h : 0 ≤ x.toInt) : x = lN x.toInt.toNat := by
  have h1 := Int64.toInt_lt x
  refine l_eq.mpr ?_
  rw [show (lN x.toInt.toNat).toInt = ((x.toInt.toNat : Nat) : Int) from lg_ofNat_toInt (by omega)]
  omega
theorem ce_ex {G : gx_T} {L : List Nat} {f : Nat → va_E} {x : Nat} {P F S X N T E : Nat} {dn : Nat} {bP : Option Nat} {pa : List Nat} {ps : Nat → ld_T} {bF : Option Nat} {fa : List Nat} {fd : Nat → ft_T} {bS : Option Nat} {sa : List Nat} {sd : Nat → sd_T} {b cap n : Nat} {t : Nat → Nat} {bT : Option Nat} {ta : List Nat} {ds : List rt_T} {ex ey eg : Int64} {cn : Nat} {cf : Nat → Nat} {px py pz gr ou fx fy : Nat → Int64} {od cr ty to_ : Nat → Int32} (h : rl_at G L f x P F S X N T E dn bP pa ps bF fa fd bS sa sd b cap n t bT ta ds ex ey eg cn cf px py pz gr ou fx fy od cr ty to_) (ax : Int32) : ce_all ((ex, ey, 0, eg, -1, 0) : ld_T) ps pa.length = mo_sum eg gr pa.length ∧ ce_sum ((ex, ey, 0, eg, -1, 0) : ld_T) ps ax pa.length = mo_sum (rc_s0 ex ey eg ax) (rc_mm px py pz gr ax) pa.length ∧ ∃ gN sN : Nat, mo_sum eg gr pa.length = lN gN ∧ gN < 2 ^ 26 ∧ (if 0 < mo_sum (rc_s0 ex ey eg ax) (rc_mm px py pz gr ax) pa.length then mo_sum (rc_s0 ex ey eg ax) (rc_mm px py pz gr ax) pa.length else -mo_sum (rc_s0 ex ey eg ax) (rc_mm px py pz gr ax) pa.length) = lN sN ∧ sN < 2 ^ 44 ∧ gN * sN < 2 ^ 70 := by
  obtain ⟨hx, fx0, lP, lF, lS, lT, tb, hN, hE, pP, pF, pS, pT, nPF, nPS, nPT, nFS, nFT, nST, rPF, rPS, rPT, rFS, rFT, rST, nd, Nn, En, p16, f12, t12, tl, n2, d8, c12, sl, rP, rO, rQ, rF, rE, rX, rT, rD, rC, rS⟩ := h
  refine ⟨mo_cong rfl _ (fun i hi => (rP i hi).2.2.2.1), mo_cong ?_ _ (fun i hi => ?_), ?_⟩
  · show eg * (if ax = 0 then ex else if ax = 1 then ey else 0) = if ax = 0 then eg * ex else if ax = 1 then eg * ey else 0
    by_cases h0 : ax = 0
    · rw [if_pos h0, if_pos h0]
    · rw [if_neg h0, if_neg h0]
      by_cases h1 : ax = 1
      · rw [if_pos h1, if_pos h1]
      · rw [if_neg h1, if_neg h1, Int64.mul_zero]
  · obtain ⟨a1, a2, a3, a4, -⟩ := rP i hi
    show (ps i).2.2.2.1 * (if ax = 0 then (ps i).1 else if ax = 1 then (ps i).2.1 else (ps i).2.2.1) = gr i * (if ax = 0 then px i else if ax = 1 then py i else pz i)
    rw [a1, a2, a3, a4]
  · have hg := mo_bd (m0 := eg) (g := gr) (lo := 0) (B := 1000000) (by omega) (by omega) (by have := gm_i rE.2.2; omega) pa.length p16 (fun i hi => by
      obtain ⟨-, -, -, -, -, -, -, -, a9, -⟩ := rP i hi
      have := gm_i a9
      omega)
    have hs := mo_bd (m0 := rc_s0 ex ey eg ax) (g := rc_mm px py pz gr ax) (lo := 1000000000000) (B := 1000000000000) (by omega) (by omega) (by
      have x1 := w_pm rE.2.2 rE.1
      have x2 := w_pm rE.2.2 rE.2.1
      show -(1000000000000 : Int) ≤ (if ax = 0 then eg * ex else if ax = 1 then eg * ey else 0).toInt ∧ (if ax = 0 then eg * ex else if ax = 1 then eg * ey else 0).toInt ≤ (1000000000000 : Int)
      by_cases h0 : ax = 0
      · rw [if_pos h0]
        exact x1
      · rw [if_neg h0]
        by_cases h1 : ax = 1
        · rw [if_pos h1]
          exact x2
        · rw [if_neg h1, l_0]
          omega) pa.length p16 (fun i hi => by
      obtain ⟨-, -, -, -, -, a6, a7, a8, a9, -⟩ := rP i hi
      show -(1000000000000 : Int) ≤ (gr i * (if ax = 0 then px i else if ax = 1 then py i else pz i)).toInt ∧ (gr i * (if ax = 0 then px i else if ax = 1 then py i else pz i)).toInt ≤ (1000000000000 : Int)
      by_cases h0 : ax = 0
      · rw [if_pos h0]
        exact w_pm a9 a6
      · rw [if_neg h0]
        by_cases h1 : ax = 1
        · rw [if_pos h1]
          exact w_pm a9 a7
        · rw [if_neg h1]
          exact w_pm a9 a8)
    generalize mo_sum eg gr pa.length = Gs at hg ⊢
    generalize mo_sum (rc_s0 ex ey eg ax) (rc_mm px py pz gr ax) pa.length = Ss at hs ⊢
    have b1 : (pa.length + 1) * 1000000 ≤ 17 * 1000000 := Nat.mul_le_mul_right _ (by omega)
    have b2 : (pa.length + 1) * 1000000000000 ≤ 17 * 1000000000000 := Nat.mul_le_mul_right _ (by omega)
    have g0 : 0 ≤ Gs.toInt := by omega
    have g1 : Gs.toInt.toNat ≤ 17000000 := by omega
    have s1 : Ss.toInt.natAbs ≤ 17000000000000 := by omega
    refine ⟨Gs.toInt.toNat, Ss.toInt.natAbs, lN_nat g0, by omega, ?_, by omega, ?_⟩
    · by_cases h0 : 0 < Ss
      · rw [if_pos h0]
        rw [l_lt, l_0] at h0
        rw [show Ss.toInt.natAbs = Ss.toInt.toNat by omega]
        exact lN_nat (by omega)
      · rw [if_neg h0]
        rw [l_lt, l_0] at h0
        have e : (-Ss).toInt = -Ss.toInt := by
          rw [Int64.toInt_neg]
          exact Int.bmod_eq_of_le (by omega) (by omega)
        rw [show Ss.toInt.natAbs = (-Ss).toInt.toNat by omega]
        exact lN_nat (by omega)
    · have := Nat.mul_le_mul g1 s1
      omega
set_option maxRecDepth 100000 in
theorem pr_centre_0 {G : gx_T} {L : List Nat} {f : Nat → va_E} {x ow oD : Nat} {ad : Nat → Nat} {P F S X N T E : Nat} {dn : Nat} {bP : Option Nat} {pa : List Nat} {ps : Nat → ld_T} {bF : Option Nat} {fa : List Nat} {fd : Nat → ft_T} {bS : Option Nat} {sa : List Nat} {sd : Nat → sd_T} {b cap n : Nat} {t : Nat → Nat} {bT : Option Nat} {ta : List Nat} {ds : List rt_T} {ex ey eg : Int64} {cn : Nat} {cf : Nat → Nat} {px py pz gr ou fx fy : Nat → Int64} {od cr ty to_ : Nat → Int32} {cd at0 fl : Int32} {dr : Nat → Int32} {p0 p1 : Int32} {gN sN : Nat} (hrl : rl_at G L f x P F S X N T E dn bP pa ps bF fa fd bS sa sd b cap n t bT ta ds ex ey eg cn cf px py pz gr ou fx fy od cr ty to_) {u M : va_W} {v : Option Value}  {r : Int64} (hpo : (fun (v : Option Value) (u : va_W) => v = some (.long (ce_val ((ex, ey, 0, eg, -1, 0) : ld_T) ps pa.length gN sN p0 p1)) ∧ u = va_pl L f ∧ ce_code p0 p1 (ce_all ((ex, ey, 0, eg, -1, 0) : ld_T) ps pa.length) = 0) (some (.long r)) u) (hm : (fun (v : Option Value) (u : va_W) => (ce_code p0 p1 (mo_sum eg gr pa.length) = 0 ∧ v = some (.long (if p1 = 0 then mo_sum (rc_s0 ex ey eg p0) (rc_mm px py pz gr p0) pa.length / lN (Nat.gcd sN gN) else mo_sum eg gr pa.length / lN (Nat.gcd sN gN))) ∧ u = [(ad 0, .inr (11, [.int 0, .int (nI pa.length), .ref (ad 1), .ref (ad 2), .ref (ad 3), .ref (ad 4), .ref (ad 5), .int (nI fa.length), .ref (ad 6), .ref (ad 7), .int (nI dn), .ref (ad 8), .long ex, .long ey, .long eg, .int (nI cn), .ref (ad 9), .ref (ad 10), .int (nI n), .int at0, .int fl, .int (nI ds.length), .ref (ad 11), .ref (ad 12)])), (ad 1, .inl (G.2.1 2, 16, .inr (.inl px))), (ad 2, .inl (G.2.1 2, 16, .inr (.inl py))), (ad 3, .inl (G.2.1 2, 16, .inr (.inl pz))), (ad 4, .inl (G.2.1 2, 16, .inr (.inl gr))), (ad 5, .inl (G.2.1 2, 16, .inr (.inl ou))), (ad 6, .inl (G.2.1 2, 12, .inr (.inl fx))), (ad 7, .inl (G.2.1 2, 12, .inr (.inl fy))), (ad 8, .inl (G.2.1 1, 8, .inl od)), (ad 9, .inl (G.2.1 1, 12, .inl cr)), (ad 10, .inl (G.2.1 1, 200, .inl ty)), (ad 11, .inl (G.2.1 1, 48, .inl to_)), (ad 12, .inl (G.2.1 1, 48, .inl dr))]) ∨ (¬ ce_code p0 p1 (mo_sum eg gr pa.length) = 0 ∧ v = some (.long 0) ∧ u = [(ad 0, .inr (11, [.int (ce_code p0 p1 (mo_sum eg gr pa.length)), .int (nI pa.length), .ref (ad 1), .ref (ad 2), .ref (ad 3), .ref (ad 4), .ref (ad 5), .int (nI fa.length), .ref (ad 6), .ref (ad 7), .int (nI dn), .ref (ad 8), .long ex, .long ey, .long eg, .int (nI cn), .ref (ad 9), .ref (ad 10), .int (nI n), .int at0, .int fl, .int (nI ds.length), .ref (ad 11), .ref (ad 12)])), (ad 1, .inl (G.2.1 2, 16, .inr (.inl px))), (ad 2, .inl (G.2.1 2, 16, .inr (.inl py))), (ad 3, .inl (G.2.1 2, 16, .inr (.inl pz))), (ad 4, .inl (G.2.1 2, 16, .inr (.inl gr))), (ad 5, .inl (G.2.1 2, 16, .inr (.inl ou))), (ad 6, .inl (G.2.1 2, 12, .inr (.inl fx))), (ad 7, .inl (G.2.1 2, 12, .inr (.inl fy))), (ad 8, .inl (G.2.1 1, 8, .inl od)), (ad 9, .inl (G.2.1 1, 12, .inl cr)), (ad 10, .inl (G.2.1 1, 200, .inl ty)), (ad 11, .inl (G.2.1 1, 48, .inl to_)), (ad 12, .inl (G.2.1 1, 48, .inl dr))])) v M) : ∃ bb : Int64, v = some (.long bb) ∧ r = bb ∧ lw_out G x ow oD ad 0 u M := by
  obtain ⟨e1, rfl, hc⟩ := hpo
  obtain ⟨ha, hs, -⟩ := ce_ex hrl p0
  rcases hm with ⟨-, rfl, rfl⟩ | ⟨h1, -, -⟩
  · injection e1 with e1
    injection e1 with e1
    exact ⟨_, rfl, by rw [e1]; unfold ce_val; rw [ha, hs, Nat.gcd_comm], ⟨(0), pa.length, fa.length, dn, cn, n, ds.length, ex, ey, eg, at0, fl, px, py, pz, gr, ou, fx, fy, od, cr, ty, to_, dr, rfl, rfl, fun g gD => ⟨L, f, P, F, S, X, N, T, E, dn, bP, pa, ps, bF, fa, fd, bS, sa, sd, b, cap, n, t, bT, ta, ds, ex, ey, eg, cn, cf, px, py, pz, gr, ou, fx, fy, od, cr, ty, to_, _, at0, fl, dr, g, gD, rfl, hrl⟩⟩⟩
  · rw [ha] at hc
    exact absurd hc h1
set_option maxRecDepth 100000 in
theorem pr_centre_1 {G : gx_T} {L : List Nat} {f : Nat → va_E} {x ow oD : Nat} {ad : Nat → Nat} {P F S X N T E : Nat} {dn : Nat} {bP : Option Nat} {pa : List Nat} {ps : Nat → ld_T} {bF : Option Nat} {fa : List Nat} {fd : Nat → ft_T} {bS : Option Nat} {sa : List Nat} {sd : Nat → sd_T} {b cap n : Nat} {t : Nat → Nat} {bT : Option Nat} {ta : List Nat} {ds : List rt_T} {ex ey eg : Int64} {cn : Nat} {cf : Nat → Nat} {px py pz gr ou fx fy : Nat → Int64} {od cr ty to_ : Nat → Int32} {cd at0 fl : Int32} {dr : Nat → Int32} {p0 p1 : Int32} {gN sN : Nat} (hrl : rl_at G L f x P F S X N T E dn bP pa ps bF fa fd bS sa sd b cap n t bT ta ds ex ey eg cn cf px py pz gr ou fx fy od cr ty to_) {u M : va_W} {v : Option Value}  (hpo : (fun (Ex : String) (u : va_W) => u = va_pl L f ∧ px2 gx_E3 gx_E1 (ce_code p0 p1 (ce_all ((ex, ey, 0, eg, -1, 0) : ld_T) ps pa.length)) Ex) gx_E3 u) (hm : (fun (v : Option Value) (u : va_W) => (ce_code p0 p1 (mo_sum eg gr pa.length) = 0 ∧ v = some (.long (if p1 = 0 then mo_sum (rc_s0 ex ey eg p0) (rc_mm px py pz gr p0) pa.length / lN (Nat.gcd sN gN) else mo_sum eg gr pa.length / lN (Nat.gcd sN gN))) ∧ u = [(ad 0, .inr (11, [.int 0, .int (nI pa.length), .ref (ad 1), .ref (ad 2), .ref (ad 3), .ref (ad 4), .ref (ad 5), .int (nI fa.length), .ref (ad 6), .ref (ad 7), .int (nI dn), .ref (ad 8), .long ex, .long ey, .long eg, .int (nI cn), .ref (ad 9), .ref (ad 10), .int (nI n), .int at0, .int fl, .int (nI ds.length), .ref (ad 11), .ref (ad 12)])), (ad 1, .inl (G.2.1 2, 16, .inr (.inl px))), (ad 2, .inl (G.2.1 2, 16, .inr (.inl py))), (ad 3, .inl (G.2.1 2, 16, .inr (.inl pz))), (ad 4, .inl (G.2.1 2, 16, .inr (.inl gr))), (ad 5, .inl (G.2.1 2, 16, .inr (.inl ou))), (ad 6, .inl (G.2.1 2, 12, .inr (.inl fx))), (ad 7, .inl (G.2.1 2, 12, .inr (.inl fy))), (ad 8, .inl (G.2.1 1, 8, .inl od)), (ad 9, .inl (G.2.1 1, 12, .inl cr)), (ad 10, .inl (G.2.1 1, 200, .inl ty)), (ad 11, .inl (G.2.1 1, 48, .inl to_)), (ad 12, .inl (G.2.1 1, 48, .inl dr))]) ∨ (¬ ce_code p0 p1 (mo_sum eg gr pa.length) = 0 ∧ v = some (.long 0) ∧ u = [(ad 0, .inr (11, [.int (ce_code p0 p1 (mo_sum eg gr pa.length)), .int (nI pa.length), .ref (ad 1), .ref (ad 2), .ref (ad 3), .ref (ad 4), .ref (ad 5), .int (nI fa.length), .ref (ad 6), .ref (ad 7), .int (nI dn), .ref (ad 8), .long ex, .long ey, .long eg, .int (nI cn), .ref (ad 9), .ref (ad 10), .int (nI n), .int at0, .int fl, .int (nI ds.length), .ref (ad 11), .ref (ad 12)])), (ad 1, .inl (G.2.1 2, 16, .inr (.inl px))), (ad 2, .inl (G.2.1 2, 16, .inr (.inl py))), (ad 3, .inl (G.2.1 2, 16, .inr (.inl pz))), (ad 4, .inl (G.2.1 2, 16, .inr (.inl gr))), (ad 5, .inl (G.2.1 2, 16, .inr (.inl ou))), (ad 6, .inl (G.2.1 2, 12, .inr (.inl fx))), (ad 7, .inl (G.2.1 2, 12, .inr (.inl fy))), (ad 8, .inl (G.2.1 1, 8, .inl od)), (ad 9, .inl (G.2.1 1, 12, .inl cr)), (ad 10, .inl (G.2.1 1, 200, .inl ty)), (ad 11, .inl (G.2.1 1, 48, .inl to_)), (ad 12, .inl (G.2.1 1, 48, .inl dr))])) v M) : ∃ bb : Int64, v = some (.long bb) ∧ True ∧ lw_out G x ow oD ad 1 u M := by
  obtain ⟨rfl, hp⟩ := hpo
  obtain ⟨ha, hs, -⟩ := ce_ex hrl p0
  have hc := px2_c1 hp (by decide)
  rw [ha] at hc
  rcases hm with ⟨h1, -, -⟩ | ⟨-, rfl, rfl⟩
  · rw [hc] at h1
    exact absurd h1 (by decide)
  · exact ⟨_, rfl, trivial, ⟨((ce_code p0 p1 (mo_sum eg gr pa.length))), pa.length, fa.length, dn, cn, n, ds.length, ex, ey, eg, at0, fl, px, py, pz, gr, ou, fx, fy, od, cr, ty, to_, dr, rfl, hc, fun g gD => ⟨L, f, P, F, S, X, N, T, E, dn, bP, pa, ps, bF, fa, fd, bS, sa, sd, b, cap, n, t, bT, ta, ds, ex, ey, eg, cn, cf, px, py, pz, gr, ou, fx, fy, od, cr, ty, to_, _, at0, fl, dr, g, gD, rfl, hrl⟩⟩⟩
set_option maxRecDepth 100000 in
theorem pr_centre_2 {G : gx_T} {L : List Nat} {f : Nat → va_E} {x ow oD : Nat} {ad : Nat → Nat} {P F S X N T E : Nat} {dn : Nat} {bP : Option Nat} {pa : List Nat} {ps : Nat → ld_T} {bF : Option Nat} {fa : List Nat} {fd : Nat → ft_T} {bS : Option Nat} {sa : List Nat} {sd : Nat → sd_T} {b cap n : Nat} {t : Nat → Nat} {bT : Option Nat} {ta : List Nat} {ds : List rt_T} {ex ey eg : Int64} {cn : Nat} {cf : Nat → Nat} {px py pz gr ou fx fy : Nat → Int64} {od cr ty to_ : Nat → Int32} {cd at0 fl : Int32} {dr : Nat → Int32} {p0 p1 : Int32} {gN sN : Nat} (hrl : rl_at G L f x P F S X N T E dn bP pa ps bF fa fd bS sa sd b cap n t bT ta ds ex ey eg cn cf px py pz gr ou fx fy od cr ty to_) {u M : va_W} {v : Option Value}  (hpo : (fun (Ex : String) (u : va_W) => u = va_pl L f ∧ px2 gx_E3 gx_E1 (ce_code p0 p1 (ce_all ((ex, ey, 0, eg, -1, 0) : ld_T) ps pa.length)) Ex) gx_E1 u) (hm : (fun (v : Option Value) (u : va_W) => (ce_code p0 p1 (mo_sum eg gr pa.length) = 0 ∧ v = some (.long (if p1 = 0 then mo_sum (rc_s0 ex ey eg p0) (rc_mm px py pz gr p0) pa.length / lN (Nat.gcd sN gN) else mo_sum eg gr pa.length / lN (Nat.gcd sN gN))) ∧ u = [(ad 0, .inr (11, [.int 0, .int (nI pa.length), .ref (ad 1), .ref (ad 2), .ref (ad 3), .ref (ad 4), .ref (ad 5), .int (nI fa.length), .ref (ad 6), .ref (ad 7), .int (nI dn), .ref (ad 8), .long ex, .long ey, .long eg, .int (nI cn), .ref (ad 9), .ref (ad 10), .int (nI n), .int at0, .int fl, .int (nI ds.length), .ref (ad 11), .ref (ad 12)])), (ad 1, .inl (G.2.1 2, 16, .inr (.inl px))), (ad 2, .inl (G.2.1 2, 16, .inr (.inl py))), (ad 3, .inl (G.2.1 2, 16, .inr (.inl pz))), (ad 4, .inl (G.2.1 2, 16, .inr (.inl gr))), (ad 5, .inl (G.2.1 2, 16, .inr (.inl ou))), (ad 6, .inl (G.2.1 2, 12, .inr (.inl fx))), (ad 7, .inl (G.2.1 2, 12, .inr (.inl fy))), (ad 8, .inl (G.2.1 1, 8, .inl od)), (ad 9, .inl (G.2.1 1, 12, .inl cr)), (ad 10, .inl (G.2.1 1, 200, .inl ty)), (ad 11, .inl (G.2.1 1, 48, .inl to_)), (ad 12, .inl (G.2.1 1, 48, .inl dr))]) ∨ (¬ ce_code p0 p1 (mo_sum eg gr pa.length) = 0 ∧ v = some (.long 0) ∧ u = [(ad 0, .inr (11, [.int (ce_code p0 p1 (mo_sum eg gr pa.length)), .int (nI pa.length), .ref (ad 1), .ref (ad 2), .ref (ad 3), .ref (ad 4), .ref (ad 5), .int (nI fa.length), .ref (ad 6), .ref (ad 7), .int (nI dn), .ref (ad 8), .long ex, .long ey, .long eg, .int (nI cn), .ref (ad 9), .ref (ad 10), .int (nI n), .int at0, .int fl, .int (nI ds.length), .ref (ad 11), .ref (ad 12)])), (ad 1, .inl (G.2.1 2, 16, .inr (.inl px))), (ad 2, .inl (G.2.1 2, 16, .inr (.inl py))), (ad 3, .inl (G.2.1 2, 16, .inr (.inl pz))), (ad 4, .inl (G.2.1 2, 16, .inr (.inl gr))), (ad 5, .inl (G.2.1 2, 16, .inr (.inl ou))), (ad 6, .inl (G.2.1 2, 12, .inr (.inl fx))), (ad 7, .inl (G.2.1 2, 12, .inr (.inl fy))), (ad 8, .inl (G.2.1 1, 8, .inl od)), (ad 9, .inl (G.2.1 1, 12, .inl cr)), (ad 10, .inl (G.2.1 1, 200, .inl ty)), (ad 11, .inl (G.2.1 1, 48, .inl to_)), (ad 12, .inl (G.2.1 1, 48, .inl dr))])) v M) : ∃ bb : Int64, v = some (.long bb) ∧ True ∧ lw_out G x ow oD ad 2 u M := by
  obtain ⟨rfl, hp⟩ := hpo
  obtain ⟨ha, hs, -⟩ := ce_ex hrl p0
  have hc := px2_c2 hp (by decide)
  rw [ha] at hc
  rcases hm with ⟨h1, -, -⟩ | ⟨-, rfl, rfl⟩
  · rw [hc] at h1
    exact absurd h1 (by decide)
  · exact ⟨_, rfl, trivial, ⟨((ce_code p0 p1 (mo_sum eg gr pa.length))), pa.length, fa.length, dn, cn, n, ds.length, ex, ey, eg, at0, fl, px, py, pz, gr, ou, fx, fy, od, cr, ty, to_, dr, rfl, hc, fun g gD => ⟨L, f, P, F, S, X, N, T, E, dn, bP, pa, ps, bF, fa, fd, bS, sa, sd, b, cap, n, t, bT, ta, ds, ex, ey, eg, cn, cf, px, py, pz, gr, ou, fx, fy, od, cr, ty, to_, _, at0, fl, dr, g, gD, rfl, hrl⟩⟩⟩
set_option maxHeartbeats 8000000 in
set_option maxRecDepth 100000 in
theorem lc_centre {l : Launch} (hfl : l.flags = flags0) {p : Program} {e : Env} {R : Room} {s : State} {m : MethodId} {below : List Frame} {meth : Method} {c : Code} {A : Nat → Prop} {G : gx_T} {b0 Ls : Nat} {xs : Nat → Int32} {x ow oD : Nat} {ad : Nat → Nat} {H : Heap} {locs : List Loc} {cells slots : Nat} {Q : State → Prop} {ls : Array Slot} {i : Nat} {ws : va_W} (C : gx_C G p s m #[Value.ref b0] meth c cL_law 9 RL A) (hX : va_X b0 Ls xs s s.heap) (hbl : b0 < s.heap.size) (hbA : ¬ A b0) (hi : i + 9 ≤ Ls) (hLs : Ls ≤ 4608) (hR : 100 ≤ R.frames ∧ 4000 ≤ R.locals ∧ cells + 64 ≤ R.cells ∧ slots + 2000 ≤ R.slots) (hinv : lw_inv G x ow oD ad ws) (hW : gx_W G A s ws H locs) (hl : lv_has ls 9 [(5, .int (nI i)), (4, .ref oD), (3, .ref ow), (2, .ref (ad 0)), (1, .ref x), (0, .ref b0)]) (kk : ∀ (ws2 : va_W) (H2 : Heap) (locs2 : List Loc) (ls2 : Array Slot), lw_inv G x ow oD ad ws2 → gx_W G A s ws2 H2 locs2 → lv_has ls2 9 [(5, .int (nI i)), (4, .ref oD), (3, .ref ow), (2, .ref (ad 0)), (1, .ref x), (0, .ref b0)] → W p l e R s m #[Value.ref b0] below meth c H2 locs2 (cells + 64) (slots + 2000) Q (F0 m 1766 ls2 [])) : W p l e R s m #[Value.ref b0] below meth c H locs cells slots Q (F0 m 785 ls []) := by
  have gX := C.x
  have gB := C.b
  obtain ⟨L, f, P, F, S, X, N, T, E, dn, bP, pa, ps, bF, fa, fd, bS, sa, sd, b, cap, n, t, bT, ta, ds, ex, ey, eg, cn, cf, px, py, pz, gr, ou, fx, fy, od, cr, ty, to_, cd, at0, fl, dr, g, gD, rfl, hrl⟩ := hinv
  obtain ⟨hx, fx0, lP, lF, lS, lT, tb, hN, hE, pP, pF, pS, pT, nPF, nPS, nPT, nFS, nFT, nST, rPF, rPS, rPT, rFS, rFT, rST, nd, Nn, En, p16, f12, t12, tl, n2, d8, c12, sl, rP, rO, rQ, rF, rE, rX, rT, rD, rC, rS⟩ := id hrl
  obtain ⟨g1, g2, gN, sN, g3, g4, g5, g6, g7⟩ := ce_ex hrl (xs (i + 1))
  refine lv_aload_n gX gB dL_law_785 rfl (lv_at hl 4 rfl) ?_
  refine lv_aload_n gX gB dL_law_786 rfl (lv_at hl 5 rfl) ?_
  refine lv_iload gX gB dL_law_787 (lv_at hl 0 rfl) ?_
  refine lv_iconst (v := 1) gX gB dL_law_789 (by decide) ?_
  refine lv_iadd gX gB dL_law_790 ?_
  refine gx_topi (show ((nI i) + 1) = nI (i + 1) from nI_add i 1) ?_
  refine va_sld C.x C.b hX hbl hbA hW.2.2 (nI_in (by omega) (by omega)) dL_law_791 ?_
  refine gx_topi (show xs (nI (i + 1)).toNatClampNeg = xs (i + 1) from by rw [nI_clamp (by omega)]) ?_
  refine lv_aload_n gX gB dL_law_792 rfl (lv_at hl 5 rfl) ?_
  refine lv_iload gX gB dL_law_793 (lv_at hl 0 rfl) ?_
  refine lv_iconst (v := 2) gX gB dL_law_795 (by decide) ?_
  refine lv_iadd gX gB dL_law_796 ?_
  refine gx_topi (show ((nI i) + 2) = nI (i + 2) from nI_add i 2) ?_
  refine va_sld C.x C.b hX hbl hbA hW.2.2 (nI_in (by omega) (by omega)) dL_law_797 ?_
  refine gx_topi (show xs (nI (i + 2)).toNatClampNeg = xs (i + 2) from by rw [nI_clamp (by omega)]) ?_
  refine lv_aload_n gX gB dL_law_798 rfl (lv_at hl 2 rfl) ?_
  refine gx_callSH (wr := [(oD, .inl (G.2.1 4, 1, .inr (.inr (.inr (.inl gD))))), (ad 0, .inr (11, [.int cd, .int (nI pa.length), .ref (ad 1), .ref (ad 2), .ref (ad 3), .ref (ad 4), .ref (ad 5), .int (nI fa.length), .ref (ad 6), .ref (ad 7), .int (nI dn), .ref (ad 8), .long ex, .long ey, .long eg, .int (nI cn), .ref (ad 9), .ref (ad 10), .int (nI n), .int at0, .int fl, .int (nI ds.length), .ref (ad 11), .ref (ad 12)])), (ad 1, .inl (G.2.1 2, 16, .inr (.inl px))), (ad 2, .inl (G.2.1 2, 16, .inr (.inl py))), (ad 3, .inl (G.2.1 2, 16, .inr (.inl pz))), (ad 4, .inl (G.2.1 2, 16, .inr (.inl gr))), (ad 5, .inl (G.2.1 2, 16, .inr (.inl ou))), (ad 6, .inl (G.2.1 2, 12, .inr (.inl fx))), (ad 7, .inl (G.2.1 2, 12, .inr (.inl fy))), (ad 8, .inl (G.2.1 1, 8, .inl od)), (ad 9, .inl (G.2.1 1, 12, .inl cr)), (ad 10, .inl (G.2.1 1, 200, .inl ty)), (ad 11, .inl (G.2.1 1, 48, .inl to_)), (ad 12, .inl (G.2.1 1, 48, .inl dr))]) (rest := []) C hW sLH_96 (kL_centre l G L f x _ hx fx0 ow g (xs (i + 1)) (xs (i + 2)) _ _ (kX5_centre l hfl G L f x P F S X N T E (nI dn) hx fx0 bP pa ps lP pP (ex, ey, 0, eg, -1, 0) hE (xs (i + 1)) (xs (i + 2)) gN sN (by rw [g1]; exact g3) g4 (by rw [g2]; exact g5) g6 g7) (fun v u h => ⟨_, h.1⟩) (fun E u h => h.2.imp (fun z => z.1) (fun z => z.1))) rfl ⟨(by dsimp only; omega), (by dsimp only; omega)⟩ hl.1 rfl (Nat.le_of_ble_eq_true rfl) dL_law_799 ⟨(by dsimp only; omega), (by dsimp only; omega)⟩ (fun v9 u9 H locs hp hW => ?_)
  rcases hp with ⟨r, u, hpo, rfl, rfl⟩ | ⟨u, hpx9, rfl, rfl⟩ | ⟨u, hpx9, rfl, rfl⟩
  · have hW : gx_W G A s ([(oD, .inl (G.2.1 4, 1, .inr (.inr (.inr (.inl gD))))), (ad 0, .inr (11, [.int cd, .int (nI pa.length), .ref (ad 1), .ref (ad 2), .ref (ad 3), .ref (ad 4), .ref (ad 5), .int (nI fa.length), .ref (ad 6), .ref (ad 7), .int (nI dn), .ref (ad 8), .long ex, .long ey, .long eg, .int (nI cn), .ref (ad 9), .ref (ad 10), .int (nI n), .int at0, .int fl, .int (nI ds.length), .ref (ad 11), .ref (ad 12)])), (ad 1, .inl (G.2.1 2, 16, .inr (.inl px))), (ad 2, .inl (G.2.1 2, 16, .inr (.inl py))), (ad 3, .inl (G.2.1 2, 16, .inr (.inl pz))), (ad 4, .inl (G.2.1 2, 16, .inr (.inl gr))), (ad 5, .inl (G.2.1 2, 16, .inr (.inl ou))), (ad 6, .inl (G.2.1 2, 12, .inr (.inl fx))), (ad 7, .inl (G.2.1 2, 12, .inr (.inl fy))), (ad 8, .inl (G.2.1 1, 8, .inl od)), (ad 9, .inl (G.2.1 1, 12, .inl cr)), (ad 10, .inl (G.2.1 1, 200, .inl ty)), (ad 11, .inl (G.2.1 1, 48, .inl to_)), (ad 12, .inl (G.2.1 1, 48, .inl dr))] ++ ([(ow, .inl (G.2.1 2, 1, .inr (.inl (vp_updL g 0 r))))] ++ u)) H locs := hW
    refine W.eq (g2 := F0 m 802 ls [.int 0]) rfl ?_
    refine W.widen (k := cells + 1) (n := slots + 6) (by dsimp only; omega) (by dsimp only; omega) ?_
    refine lv_istore (lv' := [(6, .int 0), (5, .int (nI i)), (4, .ref oD), (3, .ref ow), (2, .ref (ad 0)), (1, .ref x), (0, .ref b0)]) gX gB dL_law_802 hl (by decide) rfl (fun ls hl => ?_)
    refine lv_aload_n gX gB dL_law_804 rfl (lv_at hl 4 rfl) ?_
    refine lv_aload_n gX gB dL_law_805 rfl (lv_at hl 6 rfl) ?_
    refine lv_iload gX gB dL_law_806 (lv_at hl 1 rfl) ?_
    refine lv_iconst (v := 1) gX gB dL_law_808 (by decide) ?_
    refine lv_iadd gX gB dL_law_809 ?_
    refine gx_topi (show ((nI i) + 1) = nI (i + 1) from nI_add i 1) ?_
    refine va_sld C.x C.b hX hbl hbA hW.2.2 (nI_in (by omega) (by omega)) dL_law_810 ?_
    refine gx_topi (show xs (nI (i + 1)).toNatClampNeg = xs (i + 1) from by rw [nI_clamp (by omega)]) ?_
    refine lv_aload_n gX gB dL_law_811 rfl (lv_at hl 6 rfl) ?_
    refine lv_iload gX gB dL_law_812 (lv_at hl 1 rfl) ?_
    refine lv_iconst (v := 2) gX gB dL_law_814 (by decide) ?_
    refine lv_iadd gX gB dL_law_815 ?_
    refine gx_topi (show ((nI i) + 2) = nI (i + 2) from nI_add i 2) ?_
    refine va_sld C.x C.b hX hbl hbA hW.2.2 (nI_in (by omega) (by omega)) dL_law_816 ?_
    refine gx_topi (show xs (nI (i + 2)).toNatClampNeg = xs (i + 2) from by rw [nI_clamp (by omega)]) ?_
    have hW := gx_W.toM hW
    have hW : gx_W G A s ((([(ow, .inl (G.2.1 2, 1, .inr (.inl (vp_updL g 0 r))))] ++ u) ++ [(oD, .inl (G.2.1 4, 1, .inr (.inr (.inr (.inl gD)))))]) ++ [(ad 0, .inr (11, [.int cd, .int (nI pa.length), .ref (ad 1), .ref (ad 2), .ref (ad 3), .ref (ad 4), .ref (ad 5), .int (nI fa.length), .ref (ad 6), .ref (ad 7), .int (nI dn), .ref (ad 8), .long ex, .long ey, .long eg, .int (nI cn), .ref (ad 9), .ref (ad 10), .int (nI n), .int at0, .int fl, .int (nI ds.length), .ref (ad 11), .ref (ad 12)])), (ad 1, .inl (G.2.1 2, 16, .inr (.inl px))), (ad 2, .inl (G.2.1 2, 16, .inr (.inl py))), (ad 3, .inl (G.2.1 2, 16, .inr (.inl pz))), (ad 4, .inl (G.2.1 2, 16, .inr (.inl gr))), (ad 5, .inl (G.2.1 2, 16, .inr (.inl ou))), (ad 6, .inl (G.2.1 2, 12, .inr (.inl fx))), (ad 7, .inl (G.2.1 2, 12, .inr (.inl fy))), (ad 8, .inl (G.2.1 1, 8, .inl od)), (ad 9, .inl (G.2.1 1, 12, .inl cr)), (ad 10, .inl (G.2.1 1, 200, .inl ty)), (ad 11, .inl (G.2.1 1, 48, .inl to_)), (ad 12, .inl (G.2.1 1, 48, .inl dr))]) H locs := hW
    refine gx_callV (wr := ([(ow, .inl (G.2.1 2, 1, .inr (.inl (vp_updL g 0 r))))] ++ u) ++ [(oD, .inl (G.2.1 4, 1, .inr (.inr (.inr (.inl gD)))))]) (rest := []) C hW sL_99 (kX6_centre l G ad cd pa.length fa.length dn cn n ds.length ex ey eg at0 fl px py pz gr ou fx fy od cr ty to_ dr p16 (xs (i + 1)) (xs (i + 2)) gN sN g3 g4 g5 g6) ⟨0, rfl⟩ rfl rfl ⟨(by dsimp only; omega), (by dsimp only; omega)⟩ hl.1 rfl (Nat.le_of_ble_eq_true rfl) dL_law_817 ⟨(by dsimp only; omega), (by dsimp only; omega)⟩ (fun v9 u9 H locs hm hW => ?_)
    obtain ⟨bb, rfl, hval, hout⟩ := pr_centre_0 (ow := ow) (oD := oD) (cd := cd) (at0 := at0) (fl := fl) (dr := dr) hrl hpo hm
    obtain ⟨cd9, pn9, fn9, dn9, cn9, sn9, tn9, ex9, ey9, eg9, at9, fl9, px9, py9, pz9, gr9, ou9, fx9, fy9, od9, cr9, ty9, to9, dr9, rfl, hcd, hnew⟩ := hout
    have hW : gx_W G A s ((([(ow, .inl (G.2.1 2, 1, .inr (.inl (vp_updL g 0 r))))] ++ u) ++ [(oD, .inl (G.2.1 4, 1, .inr (.inr (.inr (.inl gD)))))]) ++ [(ad 0, .inr (11, [.int cd9, .int (nI pn9), .ref (ad 1), .ref (ad 2), .ref (ad 3), .ref (ad 4), .ref (ad 5), .int (nI fn9), .ref (ad 6), .ref (ad 7), .int (nI dn9), .ref (ad 8), .long ex9, .long ey9, .long eg9, .int (nI cn9), .ref (ad 9), .ref (ad 10), .int (nI sn9), .int at9, .int fl9, .int (nI tn9), .ref (ad 11), .ref (ad 12)])), (ad 1, .inl (G.2.1 2, 16, .inr (.inl px9))), (ad 2, .inl (G.2.1 2, 16, .inr (.inl py9))), (ad 3, .inl (G.2.1 2, 16, .inr (.inl pz9))), (ad 4, .inl (G.2.1 2, 16, .inr (.inl gr9))), (ad 5, .inl (G.2.1 2, 16, .inr (.inl ou9))), (ad 6, .inl (G.2.1 2, 12, .inr (.inl fx9))), (ad 7, .inl (G.2.1 2, 12, .inr (.inl fy9))), (ad 8, .inl (G.2.1 1, 8, .inl od9)), (ad 9, .inl (G.2.1 1, 12, .inl cr9)), (ad 10, .inl (G.2.1 1, 200, .inl ty9)), (ad 11, .inl (G.2.1 1, 48, .inl to9)), (ad 12, .inl (G.2.1 1, 48, .inl dr9))]) H locs := hW
    refine W.eq (g2 := F0 m 820 ls [.long bb]) rfl ?_
    refine W.widen (k := cells + 1 + 0) (n := slots + 6 + 0) (by dsimp only; omega) (by dsimp only; omega) ?_
    refine lv_lstore (lv' := [(7, .long bb), (6, .int 0), (5, .int (nI i)), (4, .ref oD), (3, .ref ow), (2, .ref (ad 0)), (1, .ref x), (0, .ref b0)]) gX gB dL_law_820 hl (by decide) rfl (fun ls hl => ?_)
    refine lv_aload_n gX gB dL_law_822 rfl (lv_at hl 5 rfl) ?_
    refine gx_callV (wr := ([(ow, .inl (G.2.1 2, 1, .inr (.inl (vp_updL g 0 r))))] ++ u) ++ [(oD, .inl (G.2.1 4, 1, .inr (.inr (.inr (.inl gD)))))]) (rest := []) C hW sL_81 (kX6_thrown l G ad cd9 pn9 fn9 dn9 cn9 sn9 tn9 ex9 ey9 eg9 at9 fl9 px9 py9 pz9 gr9 ou9 fx9 fy9 od9 cr9 ty9 to9 dr9) ⟨0, rfl⟩ rfl rfl ⟨(by dsimp only; omega), (by dsimp only; omega)⟩ hl.1 rfl (Nat.le_of_ble_eq_true rfl) dL_law_823 ⟨(by dsimp only; omega), (by dsimp only; omega)⟩ (fun v9 u9 H locs hp hW => ?_)
    obtain ⟨rfl, rfl⟩ := hp
    have hW : gx_W G A s ((([(ow, .inl (G.2.1 2, 1, .inr (.inl (vp_updL g 0 r))))] ++ u) ++ [(oD, .inl (G.2.1 4, 1, .inr (.inr (.inr (.inl gD)))))]) ++ [(ad 0, .inr (11, [.int cd9, .int (nI pn9), .ref (ad 1), .ref (ad 2), .ref (ad 3), .ref (ad 4), .ref (ad 5), .int (nI fn9), .ref (ad 6), .ref (ad 7), .int (nI dn9), .ref (ad 8), .long ex9, .long ey9, .long eg9, .int (nI cn9), .ref (ad 9), .ref (ad 10), .int (nI sn9), .int at9, .int fl9, .int (nI tn9), .ref (ad 11), .ref (ad 12)])), (ad 1, .inl (G.2.1 2, 16, .inr (.inl px9))), (ad 2, .inl (G.2.1 2, 16, .inr (.inl py9))), (ad 3, .inl (G.2.1 2, 16, .inr (.inl pz9))), (ad 4, .inl (G.2.1 2, 16, .inr (.inl gr9))), (ad 5, .inl (G.2.1 2, 16, .inr (.inl ou9))), (ad 6, .inl (G.2.1 2, 12, .inr (.inl fx9))), (ad 7, .inl (G.2.1 2, 12, .inr (.inl fy9))), (ad 8, .inl (G.2.1 1, 8, .inl od9)), (ad 9, .inl (G.2.1 1, 12, .inl cr9)), (ad 10, .inl (G.2.1 1, 200, .inl ty9)), (ad 11, .inl (G.2.1 1, 48, .inl to9)), (ad 12, .inl (G.2.1 1, 48, .inl dr9))]) H locs := hW
    refine W.eq (g2 := F0 m 826 ls [.int cd9]) rfl ?_
    refine W.widen (k := cells + 1 + 0 + 0) (n := slots + 6 + 0 + 0) (by dsimp only; omega) (by dsimp only; omega) ?_
    refine lv_iload gX gB dL_law_826 (lv_at hl 1 rfl) ?_
    refine lv_icmp_eq (tgt := 833) gX gB dL_law_828 (by decide) (fun _ => ?_) (fun h9 => absurd (show cd9 = (0 : Int32) from hcd) h9)
    refine lv_iload gX gB dL_law_833 (lv_at hl 1 rfl) ?_
    refine lv_if_ne (tgt := 849) gX gB dL_law_835 (by decide) (fun h9 => absurd (show ¬ 0 = (0 : Int32) from h9) (by decide)) (fun _ => ?_)
    refine lv_aload_n gX gB dL_law_838 rfl (lv_at hl 4 rfl) ?_
    refine lv_iconst (v := 0) gX gB dL_law_839 (by decide) ?_
    refine gx_lald C hW (a := ow) (g := vp_updL g 0 r) (j := 0) ⟨0, rfl⟩ rfl (by decide) (by decide) dL_law_840 ?_
    refine gx_topl (show (vp_updL g 0 r) 0 = r from ul_eq) ?_
    refine lv_lload gX gB dL_law_841 (lv_at hl 0 rfl) ?_
    refine gx_lc_eq (tgt := 849) C dL_law_843 dL_law_844 (by decide) (fun _ => ?_) (fun h9 => absurd (show r = bb from hval) h9)
    refine lv_goto (tgt := 1766) gX gB dL_law_849 (by decide) ?_
    have hW := gx_W.ofM hW
    refine W.widen (k := cells + 64) (n := slots + 2000) (by omega) (by omega) ?_
    exact kk _ _ _ _ (hnew _ _) hW (lv_sub hl [2, 3, 4, 5, 6, 7] rfl)
  · have hW : gx_W G A s ([(oD, .inl (G.2.1 4, 1, .inr (.inr (.inr (.inl gD))))), (ad 0, .inr (11, [.int cd, .int (nI pa.length), .ref (ad 1), .ref (ad 2), .ref (ad 3), .ref (ad 4), .ref (ad 5), .int (nI fa.length), .ref (ad 6), .ref (ad 7), .int (nI dn), .ref (ad 8), .long ex, .long ey, .long eg, .int (nI cn), .ref (ad 9), .ref (ad 10), .int (nI n), .int at0, .int fl, .int (nI ds.length), .ref (ad 11), .ref (ad 12)])), (ad 1, .inl (G.2.1 2, 16, .inr (.inl px))), (ad 2, .inl (G.2.1 2, 16, .inr (.inl py))), (ad 3, .inl (G.2.1 2, 16, .inr (.inl pz))), (ad 4, .inl (G.2.1 2, 16, .inr (.inl gr))), (ad 5, .inl (G.2.1 2, 16, .inr (.inl ou))), (ad 6, .inl (G.2.1 2, 12, .inr (.inl fx))), (ad 7, .inl (G.2.1 2, 12, .inr (.inl fy))), (ad 8, .inl (G.2.1 1, 8, .inl od)), (ad 9, .inl (G.2.1 1, 12, .inl cr)), (ad 10, .inl (G.2.1 1, 200, .inl ty)), (ad 11, .inl (G.2.1 1, 48, .inl to_)), (ad 12, .inl (G.2.1 1, 48, .inl dr))] ++ ([(ow, .inl (G.2.1 2, 1, .inr (.inl g)))] ++ u)) H locs := hW
    refine W.eq (g2 := F0 m 802 ls [.int 1]) rfl ?_
    refine W.widen (k := cells + 1) (n := slots + 6) (by dsimp only; omega) (by dsimp only; omega) ?_
    refine lv_istore (lv' := [(6, .int 1), (5, .int (nI i)), (4, .ref oD), (3, .ref ow), (2, .ref (ad 0)), (1, .ref x), (0, .ref b0)]) gX gB dL_law_802 hl (by decide) rfl (fun ls hl => ?_)
    refine lv_aload_n gX gB dL_law_804 rfl (lv_at hl 4 rfl) ?_
    refine lv_aload_n gX gB dL_law_805 rfl (lv_at hl 6 rfl) ?_
    refine lv_iload gX gB dL_law_806 (lv_at hl 1 rfl) ?_
    refine lv_iconst (v := 1) gX gB dL_law_808 (by decide) ?_
    refine lv_iadd gX gB dL_law_809 ?_
    refine gx_topi (show ((nI i) + 1) = nI (i + 1) from nI_add i 1) ?_
    refine va_sld C.x C.b hX hbl hbA hW.2.2 (nI_in (by omega) (by omega)) dL_law_810 ?_
    refine gx_topi (show xs (nI (i + 1)).toNatClampNeg = xs (i + 1) from by rw [nI_clamp (by omega)]) ?_
    refine lv_aload_n gX gB dL_law_811 rfl (lv_at hl 6 rfl) ?_
    refine lv_iload gX gB dL_law_812 (lv_at hl 1 rfl) ?_
    refine lv_iconst (v := 2) gX gB dL_law_814 (by decide) ?_
    refine lv_iadd gX gB dL_law_815 ?_
    refine gx_topi (show ((nI i) + 2) = nI (i + 2) from nI_add i 2) ?_
    refine va_sld C.x C.b hX hbl hbA hW.2.2 (nI_in (by omega) (by omega)) dL_law_816 ?_
    refine gx_topi (show xs (nI (i + 2)).toNatClampNeg = xs (i + 2) from by rw [nI_clamp (by omega)]) ?_
    have hW := gx_W.toM hW
    have hW : gx_W G A s ((([(ow, .inl (G.2.1 2, 1, .inr (.inl g)))] ++ u) ++ [(oD, .inl (G.2.1 4, 1, .inr (.inr (.inr (.inl gD)))))]) ++ [(ad 0, .inr (11, [.int cd, .int (nI pa.length), .ref (ad 1), .ref (ad 2), .ref (ad 3), .ref (ad 4), .ref (ad 5), .int (nI fa.length), .ref (ad 6), .ref (ad 7), .int (nI dn), .ref (ad 8), .long ex, .long ey, .long eg, .int (nI cn), .ref (ad 9), .ref (ad 10), .int (nI n), .int at0, .int fl, .int (nI ds.length), .ref (ad 11), .ref (ad 12)])), (ad 1, .inl (G.2.1 2, 16, .inr (.inl px))), (ad 2, .inl (G.2.1 2, 16, .inr (.inl py))), (ad 3, .inl (G.2.1 2, 16, .inr (.inl pz))), (ad 4, .inl (G.2.1 2, 16, .inr (.inl gr))), (ad 5, .inl (G.2.1 2, 16, .inr (.inl ou))), (ad 6, .inl (G.2.1 2, 12, .inr (.inl fx))), (ad 7, .inl (G.2.1 2, 12, .inr (.inl fy))), (ad 8, .inl (G.2.1 1, 8, .inl od)), (ad 9, .inl (G.2.1 1, 12, .inl cr)), (ad 10, .inl (G.2.1 1, 200, .inl ty)), (ad 11, .inl (G.2.1 1, 48, .inl to_)), (ad 12, .inl (G.2.1 1, 48, .inl dr))]) H locs := hW
    refine gx_callV (wr := ([(ow, .inl (G.2.1 2, 1, .inr (.inl g)))] ++ u) ++ [(oD, .inl (G.2.1 4, 1, .inr (.inr (.inr (.inl gD)))))]) (rest := []) C hW sL_99 (kX6_centre l G ad cd pa.length fa.length dn cn n ds.length ex ey eg at0 fl px py pz gr ou fx fy od cr ty to_ dr p16 (xs (i + 1)) (xs (i + 2)) gN sN g3 g4 g5 g6) ⟨0, rfl⟩ rfl rfl ⟨(by dsimp only; omega), (by dsimp only; omega)⟩ hl.1 rfl (Nat.le_of_ble_eq_true rfl) dL_law_817 ⟨(by dsimp only; omega), (by dsimp only; omega)⟩ (fun v9 u9 H locs hm hW => ?_)
    obtain ⟨bb, rfl, hval, hout⟩ := pr_centre_1 (ow := ow) (oD := oD) (cd := cd) (at0 := at0) (fl := fl) (dr := dr) hrl hpx9 hm
    obtain ⟨cd9, pn9, fn9, dn9, cn9, sn9, tn9, ex9, ey9, eg9, at9, fl9, px9, py9, pz9, gr9, ou9, fx9, fy9, od9, cr9, ty9, to9, dr9, rfl, hcd, hnew⟩ := hout
    have hW : gx_W G A s ((([(ow, .inl (G.2.1 2, 1, .inr (.inl g)))] ++ u) ++ [(oD, .inl (G.2.1 4, 1, .inr (.inr (.inr (.inl gD)))))]) ++ [(ad 0, .inr (11, [.int cd9, .int (nI pn9), .ref (ad 1), .ref (ad 2), .ref (ad 3), .ref (ad 4), .ref (ad 5), .int (nI fn9), .ref (ad 6), .ref (ad 7), .int (nI dn9), .ref (ad 8), .long ex9, .long ey9, .long eg9, .int (nI cn9), .ref (ad 9), .ref (ad 10), .int (nI sn9), .int at9, .int fl9, .int (nI tn9), .ref (ad 11), .ref (ad 12)])), (ad 1, .inl (G.2.1 2, 16, .inr (.inl px9))), (ad 2, .inl (G.2.1 2, 16, .inr (.inl py9))), (ad 3, .inl (G.2.1 2, 16, .inr (.inl pz9))), (ad 4, .inl (G.2.1 2, 16, .inr (.inl gr9))), (ad 5, .inl (G.2.1 2, 16, .inr (.inl ou9))), (ad 6, .inl (G.2.1 2, 12, .inr (.inl fx9))), (ad 7, .inl (G.2.1 2, 12, .inr (.inl fy9))), (ad 8, .inl (G.2.1 1, 8, .inl od9)), (ad 9, .inl (G.2.1 1, 12, .inl cr9)), (ad 10, .inl (G.2.1 1, 200, .inl ty9)), (ad 11, .inl (G.2.1 1, 48, .inl to9)), (ad 12, .inl (G.2.1 1, 48, .inl dr9))]) H locs := hW
    refine W.eq (g2 := F0 m 820 ls [.long bb]) rfl ?_
    refine W.widen (k := cells + 1 + 0) (n := slots + 6 + 0) (by dsimp only; omega) (by dsimp only; omega) ?_
    refine lv_lstore (lv' := [(7, .long bb), (6, .int 1), (5, .int (nI i)), (4, .ref oD), (3, .ref ow), (2, .ref (ad 0)), (1, .ref x), (0, .ref b0)]) gX gB dL_law_820 hl (by decide) rfl (fun ls hl => ?_)
    refine lv_aload_n gX gB dL_law_822 rfl (lv_at hl 5 rfl) ?_
    refine gx_callV (wr := ([(ow, .inl (G.2.1 2, 1, .inr (.inl g)))] ++ u) ++ [(oD, .inl (G.2.1 4, 1, .inr (.inr (.inr (.inl gD)))))]) (rest := []) C hW sL_81 (kX6_thrown l G ad cd9 pn9 fn9 dn9 cn9 sn9 tn9 ex9 ey9 eg9 at9 fl9 px9 py9 pz9 gr9 ou9 fx9 fy9 od9 cr9 ty9 to9 dr9) ⟨0, rfl⟩ rfl rfl ⟨(by dsimp only; omega), (by dsimp only; omega)⟩ hl.1 rfl (Nat.le_of_ble_eq_true rfl) dL_law_823 ⟨(by dsimp only; omega), (by dsimp only; omega)⟩ (fun v9 u9 H locs hp hW => ?_)
    obtain ⟨rfl, rfl⟩ := hp
    have hW : gx_W G A s ((([(ow, .inl (G.2.1 2, 1, .inr (.inl g)))] ++ u) ++ [(oD, .inl (G.2.1 4, 1, .inr (.inr (.inr (.inl gD)))))]) ++ [(ad 0, .inr (11, [.int cd9, .int (nI pn9), .ref (ad 1), .ref (ad 2), .ref (ad 3), .ref (ad 4), .ref (ad 5), .int (nI fn9), .ref (ad 6), .ref (ad 7), .int (nI dn9), .ref (ad 8), .long ex9, .long ey9, .long eg9, .int (nI cn9), .ref (ad 9), .ref (ad 10), .int (nI sn9), .int at9, .int fl9, .int (nI tn9), .ref (ad 11), .ref (ad 12)])), (ad 1, .inl (G.2.1 2, 16, .inr (.inl px9))), (ad 2, .inl (G.2.1 2, 16, .inr (.inl py9))), (ad 3, .inl (G.2.1 2, 16, .inr (.inl pz9))), (ad 4, .inl (G.2.1 2, 16, .inr (.inl gr9))), (ad 5, .inl (G.2.1 2, 16, .inr (.inl ou9))), (ad 6, .inl (G.2.1 2, 12, .inr (.inl fx9))), (ad 7, .inl (G.2.1 2, 12, .inr (.inl fy9))), (ad 8, .inl (G.2.1 1, 8, .inl od9)), (ad 9, .inl (G.2.1 1, 12, .inl cr9)), (ad 10, .inl (G.2.1 1, 200, .inl ty9)), (ad 11, .inl (G.2.1 1, 48, .inl to9)), (ad 12, .inl (G.2.1 1, 48, .inl dr9))]) H locs := hW
    refine W.eq (g2 := F0 m 826 ls [.int cd9]) rfl ?_
    refine W.widen (k := cells + 1 + 0 + 0) (n := slots + 6 + 0 + 0) (by dsimp only; omega) (by dsimp only; omega) ?_
    refine lv_iload gX gB dL_law_826 (lv_at hl 1 rfl) ?_
    refine lv_icmp_eq (tgt := 833) gX gB dL_law_828 (by decide) (fun _ => ?_) (fun h9 => absurd (show cd9 = (1 : Int32) from hcd) h9)
    refine lv_iload gX gB dL_law_833 (lv_at hl 1 rfl) ?_
    refine lv_if_ne (tgt := 849) gX gB dL_law_835 (by decide) (fun _ => ?_) (fun h9 => absurd h9 (show ¬ 1 = (0 : Int32) from by decide))
    refine lv_goto (tgt := 1766) gX gB dL_law_849 (by decide) ?_
    have hW := gx_W.ofM hW
    refine W.widen (k := cells + 64) (n := slots + 2000) (by omega) (by omega) ?_
    exact kk _ _ _ _ (hnew _ _) hW (lv_sub hl [2, 3, 4, 5, 6, 7] rfl)
  · have hW : gx_W G A s ([(oD, .inl (G.2.1 4, 1, .inr (.inr (.inr (.inl gD))))), (ad 0, .inr (11, [.int cd, .int (nI pa.length), .ref (ad 1), .ref (ad 2), .ref (ad 3), .ref (ad 4), .ref (ad 5), .int (nI fa.length), .ref (ad 6), .ref (ad 7), .int (nI dn), .ref (ad 8), .long ex, .long ey, .long eg, .int (nI cn), .ref (ad 9), .ref (ad 10), .int (nI n), .int at0, .int fl, .int (nI ds.length), .ref (ad 11), .ref (ad 12)])), (ad 1, .inl (G.2.1 2, 16, .inr (.inl px))), (ad 2, .inl (G.2.1 2, 16, .inr (.inl py))), (ad 3, .inl (G.2.1 2, 16, .inr (.inl pz))), (ad 4, .inl (G.2.1 2, 16, .inr (.inl gr))), (ad 5, .inl (G.2.1 2, 16, .inr (.inl ou))), (ad 6, .inl (G.2.1 2, 12, .inr (.inl fx))), (ad 7, .inl (G.2.1 2, 12, .inr (.inl fy))), (ad 8, .inl (G.2.1 1, 8, .inl od)), (ad 9, .inl (G.2.1 1, 12, .inl cr)), (ad 10, .inl (G.2.1 1, 200, .inl ty)), (ad 11, .inl (G.2.1 1, 48, .inl to_)), (ad 12, .inl (G.2.1 1, 48, .inl dr))] ++ ([(ow, .inl (G.2.1 2, 1, .inr (.inl g)))] ++ u)) H locs := hW
    refine W.eq (g2 := F0 m 802 ls [.int 2]) rfl ?_
    refine W.widen (k := cells + 1) (n := slots + 6) (by dsimp only; omega) (by dsimp only; omega) ?_
    refine lv_istore (lv' := [(6, .int 2), (5, .int (nI i)), (4, .ref oD), (3, .ref ow), (2, .ref (ad 0)), (1, .ref x), (0, .ref b0)]) gX gB dL_law_802 hl (by decide) rfl (fun ls hl => ?_)
    refine lv_aload_n gX gB dL_law_804 rfl (lv_at hl 4 rfl) ?_
    refine lv_aload_n gX gB dL_law_805 rfl (lv_at hl 6 rfl) ?_
    refine lv_iload gX gB dL_law_806 (lv_at hl 1 rfl) ?_
    refine lv_iconst (v := 1) gX gB dL_law_808 (by decide) ?_
    refine lv_iadd gX gB dL_law_809 ?_
    refine gx_topi (show ((nI i) + 1) = nI (i + 1) from nI_add i 1) ?_
    refine va_sld C.x C.b hX hbl hbA hW.2.2 (nI_in (by omega) (by omega)) dL_law_810 ?_
    refine gx_topi (show xs (nI (i + 1)).toNatClampNeg = xs (i + 1) from by rw [nI_clamp (by omega)]) ?_
    refine lv_aload_n gX gB dL_law_811 rfl (lv_at hl 6 rfl) ?_
    refine lv_iload gX gB dL_law_812 (lv_at hl 1 rfl) ?_
    refine lv_iconst (v := 2) gX gB dL_law_814 (by decide) ?_
    refine lv_iadd gX gB dL_law_815 ?_
    refine gx_topi (show ((nI i) + 2) = nI (i + 2) from nI_add i 2) ?_
    refine va_sld C.x C.b hX hbl hbA hW.2.2 (nI_in (by omega) (by omega)) dL_law_816 ?_
    refine gx_topi (show xs (nI (i + 2)).toNatClampNeg = xs (i + 2) from by rw [nI_clamp (by omega)]) ?_
    have hW := gx_W.toM hW
    have hW : gx_W G A s ((([(ow, .inl (G.2.1 2, 1, .inr (.inl g)))] ++ u) ++ [(oD, .inl (G.2.1 4, 1, .inr (.inr (.inr (.inl gD)))))]) ++ [(ad 0, .inr (11, [.int cd, .int (nI pa.length), .ref (ad 1), .ref (ad 2), .ref (ad 3), .ref (ad 4), .ref (ad 5), .int (nI fa.length), .ref (ad 6), .ref (ad 7), .int (nI dn), .ref (ad 8), .long ex, .long ey, .long eg, .int (nI cn), .ref (ad 9), .ref (ad 10), .int (nI n), .int at0, .int fl, .int (nI ds.length), .ref (ad 11), .ref (ad 12)])), (ad 1, .inl (G.2.1 2, 16, .inr (.inl px))), (ad 2, .inl (G.2.1 2, 16, .inr (.inl py))), (ad 3, .inl (G.2.1 2, 16, .inr (.inl pz))), (ad 4, .inl (G.2.1 2, 16, .inr (.inl gr))), (ad 5, .inl (G.2.1 2, 16, .inr (.inl ou))), (ad 6, .inl (G.2.1 2, 12, .inr (.inl fx))), (ad 7, .inl (G.2.1 2, 12, .inr (.inl fy))), (ad 8, .inl (G.2.1 1, 8, .inl od)), (ad 9, .inl (G.2.1 1, 12, .inl cr)), (ad 10, .inl (G.2.1 1, 200, .inl ty)), (ad 11, .inl (G.2.1 1, 48, .inl to_)), (ad 12, .inl (G.2.1 1, 48, .inl dr))]) H locs := hW
    refine gx_callV (wr := ([(ow, .inl (G.2.1 2, 1, .inr (.inl g)))] ++ u) ++ [(oD, .inl (G.2.1 4, 1, .inr (.inr (.inr (.inl gD)))))]) (rest := []) C hW sL_99 (kX6_centre l G ad cd pa.length fa.length dn cn n ds.length ex ey eg at0 fl px py pz gr ou fx fy od cr ty to_ dr p16 (xs (i + 1)) (xs (i + 2)) gN sN g3 g4 g5 g6) ⟨0, rfl⟩ rfl rfl ⟨(by dsimp only; omega), (by dsimp only; omega)⟩ hl.1 rfl (Nat.le_of_ble_eq_true rfl) dL_law_817 ⟨(by dsimp only; omega), (by dsimp only; omega)⟩ (fun v9 u9 H locs hm hW => ?_)
    obtain ⟨bb, rfl, hval, hout⟩ := pr_centre_2 (ow := ow) (oD := oD) (cd := cd) (at0 := at0) (fl := fl) (dr := dr) hrl hpx9 hm
    obtain ⟨cd9, pn9, fn9, dn9, cn9, sn9, tn9, ex9, ey9, eg9, at9, fl9, px9, py9, pz9, gr9, ou9, fx9, fy9, od9, cr9, ty9, to9, dr9, rfl, hcd, hnew⟩ := hout
    have hW : gx_W G A s ((([(ow, .inl (G.2.1 2, 1, .inr (.inl g)))] ++ u) ++ [(oD, .inl (G.2.1 4, 1, .inr (.inr (.inr (.inl gD)))))]) ++ [(ad 0, .inr (11, [.int cd9, .int (nI pn9), .ref (ad 1), .ref (ad 2), .ref (ad 3), .ref (ad 4), .ref (ad 5), .int (nI fn9), .ref (ad 6), .ref (ad 7), .int (nI dn9), .ref (ad 8), .long ex9, .long ey9, .long eg9, .int (nI cn9), .ref (ad 9), .ref (ad 10), .int (nI sn9), .int at9, .int fl9, .int (nI tn9), .ref (ad 11), .ref (ad 12)])), (ad 1, .inl (G.2.1 2, 16, .inr (.inl px9))), (ad 2, .inl (G.2.1 2, 16, .inr (.inl py9))), (ad 3, .inl (G.2.1 2, 16, .inr (.inl pz9))), (ad 4, .inl (G.2.1 2, 16, .inr (.inl gr9))), (ad 5, .inl (G.2.1 2, 16, .inr (.inl ou9))), (ad 6, .inl (G.2.1 2, 12, .inr (.inl fx9))), (ad 7, .inl (G.2.1 2, 12, .inr (.inl fy9))), (ad 8, .inl (G.2.1 1, 8, .inl od9)), (ad 9, .inl (G.2.1 1, 12, .inl cr9)), (ad 10, .inl (G.2.1 1, 200, .inl ty9)), (ad 11, .inl (G.2.1 1, 48, .inl to9)), (ad 12, .inl (G.2.1 1, 48, .inl dr9))]) H locs := hW
    refine W.eq (g2 := F0 m 820 ls [.long bb]) rfl ?_
    refine W.widen (k := cells + 1 + 0) (n := slots + 6 + 0) (by dsimp only; omega) (by dsimp only; omega) ?_
    refine lv_lstore (lv' := [(7, .long bb), (6, .int 2), (5, .int (nI i)), (4, .ref oD), (3, .ref ow), (2, .ref (ad 0)), (1, .ref x), (0, .ref b0)]) gX gB dL_law_820 hl (by decide) rfl (fun ls hl => ?_)
    refine lv_aload_n gX gB dL_law_822 rfl (lv_at hl 5 rfl) ?_
    refine gx_callV (wr := ([(ow, .inl (G.2.1 2, 1, .inr (.inl g)))] ++ u) ++ [(oD, .inl (G.2.1 4, 1, .inr (.inr (.inr (.inl gD)))))]) (rest := []) C hW sL_81 (kX6_thrown l G ad cd9 pn9 fn9 dn9 cn9 sn9 tn9 ex9 ey9 eg9 at9 fl9 px9 py9 pz9 gr9 ou9 fx9 fy9 od9 cr9 ty9 to9 dr9) ⟨0, rfl⟩ rfl rfl ⟨(by dsimp only; omega), (by dsimp only; omega)⟩ hl.1 rfl (Nat.le_of_ble_eq_true rfl) dL_law_823 ⟨(by dsimp only; omega), (by dsimp only; omega)⟩ (fun v9 u9 H locs hp hW => ?_)
    obtain ⟨rfl, rfl⟩ := hp
    have hW : gx_W G A s ((([(ow, .inl (G.2.1 2, 1, .inr (.inl g)))] ++ u) ++ [(oD, .inl (G.2.1 4, 1, .inr (.inr (.inr (.inl gD)))))]) ++ [(ad 0, .inr (11, [.int cd9, .int (nI pn9), .ref (ad 1), .ref (ad 2), .ref (ad 3), .ref (ad 4), .ref (ad 5), .int (nI fn9), .ref (ad 6), .ref (ad 7), .int (nI dn9), .ref (ad 8), .long ex9, .long ey9, .long eg9, .int (nI cn9), .ref (ad 9), .ref (ad 10), .int (nI sn9), .int at9, .int fl9, .int (nI tn9), .ref (ad 11), .ref (ad 12)])), (ad 1, .inl (G.2.1 2, 16, .inr (.inl px9))), (ad 2, .inl (G.2.1 2, 16, .inr (.inl py9))), (ad 3, .inl (G.2.1 2, 16, .inr (.inl pz9))), (ad 4, .inl (G.2.1 2, 16, .inr (.inl gr9))), (ad 5, .inl (G.2.1 2, 16, .inr (.inl ou9))), (ad 6, .inl (G.2.1 2, 12, .inr (.inl fx9))), (ad 7, .inl (G.2.1 2, 12, .inr (.inl fy9))), (ad 8, .inl (G.2.1 1, 8, .inl od9)), (ad 9, .inl (G.2.1 1, 12, .inl cr9)), (ad 10, .inl (G.2.1 1, 200, .inl ty9)), (ad 11, .inl (G.2.1 1, 48, .inl to9)), (ad 12, .inl (G.2.1 1, 48, .inl dr9))]) H locs := hW
    refine W.eq (g2 := F0 m 826 ls [.int cd9]) rfl ?_
    refine W.widen (k := cells + 1 + 0 + 0) (n := slots + 6 + 0 + 0) (by dsimp only; omega) (by dsimp only; omega) ?_
    refine lv_iload gX gB dL_law_826 (lv_at hl 1 rfl) ?_
    refine lv_icmp_eq (tgt := 833) gX gB dL_law_828 (by decide) (fun _ => ?_) (fun h9 => absurd (show cd9 = (2 : Int32) from hcd) h9)
    refine lv_iload gX gB dL_law_833 (lv_at hl 1 rfl) ?_
    refine lv_if_ne (tgt := 849) gX gB dL_law_835 (by decide) (fun _ => ?_) (fun h9 => absurd h9 (show ¬ 2 = (0 : Int32) from by decide))
    refine lv_goto (tgt := 1766) gX gB dL_law_849 (by decide) ?_
    have hW := gx_W.ofM hW
    refine W.widen (k := cells + 64) (n := slots + 2000) (by omega) (by omega) ?_
    exact kk _ _ _ _ (hnew _ _) hW (lv_sub hl [2, 3, 4, 5, 6, 7] rfl)
