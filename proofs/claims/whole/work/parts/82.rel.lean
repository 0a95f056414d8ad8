/-! THE RELATION: kept by unit, rules, drawer. -/
/-- what leaves all lists alone: objects that are none, and rows of bytes -/
theorem ls_at.tx {G : gx_T} {L : List Nat} {f : Nat → va_E} {q2 : Nat} {b2 : Option Nat} {xs : List Nat} (h : ls_at G L f q2 b2 xs) {X b cap n : Nat} {t : Nat → Nat} (tb : tb_at G L f X b cap n t) {L1 : List Nat} {f1 : Nat → va_E} (hL : ∀ a ∈ L, a ∈ L1) (hf : ∀ a ∈ L, a ≠ X → a ≠ b → f1 a = f a) : ls_at G L1 f1 q2 b2 xs := by
  obtain ⟨h3, h4, ml, g, h5, h6, h7⟩ := tb
  have ha := h.apart h5 (by decide)
  obtain ⟨mc2, r2, e2⟩ := h.head
  refine h.kept hL (hf _ h.1 ha.1.symm (gx_ne e2 h6 (by simp))) (fun b9 h9 => hf b9 (h.row b9 h9) (fun z => ha.2 (by rw [← z, h9])) (fun z => ?_))
  obtain ⟨-, mc, h8⟩ := h
  rw [h9] at h8
  obtain ⟨-, -, n9, g9, e9, -⟩ := h8
  rw [z, h6] at e9
  injection e9 with e9
  injection e9 with e9 e10
  injection e10 with e10 e11
  cases e11
theorem tb_at.obk {G : gx_T} {L : List Nat} {f : Nat → va_E} {X b cap n : Nat} {t : Nat → Nat} (tb : tb_at G L f X b cap n t) {L1 : List Nat} {f1 : Nat → va_E} (hL : ∀ a ∈ L, a ∈ L1) (hf : ∀ a ∈ L, a ≠ X → a ≠ b → f1 a = f a) : ob_kept L f L1 f1 := by
  obtain ⟨h3, h4, ml, g, h5, h6, h7⟩ := tb
  exact ⟨hL, fun a ha ci vs e h1 h2 => hf a ha (gx_ne e h5 (by intro e3; injection e3 with e3; injection e3 with e3; omega)) (gx_ne e h6 (by simp))⟩
theorem tb_at.tx {G : gx_T} {L : List Nat} {f : Nat → va_E} {X b cap n : Nat} {t : Nat → Nat} (tb : tb_at G L f X b cap n t) {a ci : Nat} {vs : List Value} (e : f a = .inr (ci, vs)) (hc : ci ≠ 1) : a ≠ X ∧ a ≠ b := by
  obtain ⟨h3, h4, ml, g, h5, h6, h7⟩ := tb
  exact ⟨gx_ne e h5 (by intro e3; injection e3 with e3; injection e3 with e3; exact hc e3), gx_ne e h6 (by simp)⟩
theorem dr_bd (t : Nat → Nat) (n : Nat) : ∀ (k p v : Nat), (dr_at t n k p v).2 < (v + 1) * 10 ^ k := by
  intro k
  induction k with
  | zero => intro p v; show v < (v + 1) * 10 ^ 0; omega
  | succ k ih =>
    intro p v
    show (if p < n ∧ 48 ≤ t p ∧ t p ≤ 57 then dr_at t n k (p + 1) (10 * v + (t p - 48)) else (p, v)).2 < _
    have hp : 1 ≤ 10 ^ (k + 1) := Nat.pow_pos (by decide : 0 < 10)
    split
    · rename_i h
      have h1 := ih (p + 1) (10 * v + (t p - 48))
      have h2 : (10 * v + (t p - 48) + 1) * 10 ^ k ≤ (10 * (v + 1)) * 10 ^ k := Nat.mul_le_mul_right _ (by omega)
      have h3 : (10 * (v + 1)) * 10 ^ k = (v + 1) * 10 ^ (k + 1) := by rw [Nat.pow_succ, Nat.mul_comm 10 (v + 1), Nat.mul_assoc, Nat.mul_comm 10 (10 ^ k)]
      omega
    · show v < (v + 1) * 10 ^ (k + 1)
      have := Nat.le_mul_of_pos_right (v + 1) (show 0 < 10 ^ (k + 1) by omega)
      omega
theorem rt_d {t : Nat → Nat} {n p z : Nat} {d : rt_T} (h : rt1 t n p = .inr (z, d)) : ∃ k, d.2.2.2 = nI k ∧ k < 2 ^ 31 := by
  have h4 : ∀ {p x y g z d}, rt4 t n p x y g = .inr (z, d) → ∃ k, d.2.2.2 = nI k ∧ k < 2 ^ 31 := by
    intro p x y g z d h
    unfold rt4 at h
    split at h
    · injection h with h
      injection h with h h2
      rw [← h2]
      have := dr_bd t n 5 p 0
      exact ⟨_, rfl, by omega⟩
    · cases h
  have h3 : ∀ {p x y z d}, rt3 t n p x y = .inr (z, d) → ∃ k, d.2.2.2 = nI k ∧ k < 2 ^ 31 := by
    intro p x y z d h
    unfold rt3 at h
    split at h
    · split at h
      · exact h4 h
      · cases h
    · cases h
  have h2 : ∀ {p x z d}, rt2 t n p x = .inr (z, d) → ∃ k, d.2.2.2 = nI k ∧ k < 2 ^ 31 := by
    intro p x z d h
    unfold rt2 at h
    split at h
    · split at h
      · exact h3 h
      · cases h
    · cases h
  unfold rt1 at h
  split at h
  · split at h
    · exact h2 h
    · cases h
  · cases h
abbrev d4_ok (ds : List rt_T) : Prop := ∀ j, j < ds.length → ∃ d, (ds.getD j (0, 0, 0, 0)).2.2.2 = nI d ∧ d < 2 ^ 31
theorem d4_snoc {ds : List rt_T} {d : rt_T} (h : d4_ok ds) (hd : ∃ k, d.2.2.2 = nI k ∧ k < 2 ^ 31) : d4_ok (ds ++ [d]) := by
  intro j hj
  rw [List.length_append, List.length_singleton] at hj
  rcases Nat.lt_or_ge j ds.length with k | k
  · rw [List.getD_eq_getElem?_getD, List.getElem?_append_left k, ← List.getD_eq_getElem?_getD]
    exact h j k
  · rw [List.getD_eq_getElem?_getD, List.getElem?_append_right k, show j - ds.length = 0 by omega]
    exact hd
theorem ra_d {t : Nat → Nat} {n : Nat} : ∀ (k i p : Nat) (ds r : List rt_T), d4_ok ds → ra_at t n k i p ds = .inr r → d4_ok r := by
  intro k
  induction k with
  | zero => intro i p ds r _ h; cases h
  | succ k ih =>
    intro i p ds r hd h
    have h2 : (if 0 < i ∧ ¬ (p < n ∧ t p = 59) then .inl p else
    match rt1 t n (if i = 0 then p else p + 1) with
    | .inl z => .inl z
    | .inr (z, d) => if n ≤ z then .inr (ds ++ [d]) else ra_at t n k (i + 1) z (ds ++ [d])) = (.inr r : Nat ⊕ List rt_T) := h
    split at h2
    · cases h2
    · split at h2
      · cases h2
      · rename_i z d hr
        have hs := d4_snoc hd (rt_d hr)
        split at h2
        · injection h2 with h2
          rw [← h2]
          exact hs
        · exact ih _ _ _ _ hs h2
theorem rl_unit {G : gx_T} {L : List Nat} {f : Nat → va_E} {x : Nat} {P F S X N T E : Nat} {dn : Nat} {bP : Option Nat} {pa : List Nat} {ps : Nat → ld_T} {bF : Option Nat} {fa : List Nat} {fd : Nat → ft_T} {bS : Option Nat} {sa : List Nat} {sd : Nat → sd_T} {b cap n : Nat} {t : Nat → Nat} {bT : Option Nat} {ta : List Nat} {ds : List rt_T} {ex ey eg : Int64} {cn : Nat} {cf : Nat → Nat} {px py pz gr ou fx fy : Nat → Int64} {od cr ty to_ : Nat → Int32} (h : rl_at G L f x P F S X N T E dn bP pa ps bF fa fd bS sa sd b cap n t bT ta ds ex ey eg cn cf px py pz gr ou fx fy od cr ty to_) {L1 : List Nat} {f1 : Nat → va_E} {b1 cap1 ch : Nat} (hn : n < 200) (htb : tb_at G L1 f1 X b1 cap1 (n + 1) (tx_snoc t n ch)) (hs : ∀ a ∈ L, a ∈ L1) (hfr : ∀ a ∈ L, a ≠ X → a ≠ b → f1 a = f a) : rl_at G L1 f1 x P F S X N T E dn bP pa ps bF fa fd bS sa sd b1 cap1 (n + 1) (tx_snoc t n ch) bT ta ds ex ey eg cn cf px py pz gr ou fx fy od cr (upd ty n (nI ch)) to_ := by
  obtain ⟨hx, fx0, lP, lF, lS, lT, tb, hN, hE, pP, pF, pS, pT, nPF, nPS, nPT, nFS, nFT, nST, rPF, rPS, rPT, rFS, rFT, rST, nd, Nn, En, p16, f12, t12, tl, n2, d8, c12, sl, rP, rO, rQ, rF, rE, rX, rT, rD, rC, rS⟩ := h
  have k := tb.obk hs hfr
  have hb : ∀ {q2 : Nat} {b2 : Option Nat} {x2 : List Nat}, ls_at G L f q2 b2 x2 → ls_at G L1 f1 q2 b2 x2 := fun h2 => h2.tx tb hs hfr
  have hxx := tb.tx fx0 (by decide)
  exact ⟨(hs x hx), ((hfr x hx hxx.1 hxx.2).trans fx0), (hb lP), (hb lF), (hb lS), (hb lT), (htb), (hN.ob k), (hE.ob k), (fun i hi => (pP i hi).ob k), (fun i hi => (pF i hi).ob k), (fun j hj => (pS j hj).ob k), (fun j hj => (pT j hj).ob k), nPF, nPS, nPT, nFS, nFT, nST, rPF, rPS, rPT, rFS, rFT, rST, nd, Nn, En, p16, f12, t12, tl, (hn), d8, c12, sl, rP, rO, rQ, rF, rE, (fun i hi => by
    rcases Nat.lt_or_ge i n with h9 | h9
    · rw [upd_ne (by omega), tx_snoc, if_neg (by omega)]; exact rX i h9
    · rw [show i = n by omega, upd_eq, tx_snoc, if_pos rfl]), rT, rD, rC, rS⟩
theorem rl_rules0 {G : gx_T} {L : List Nat} {f : Nat → va_E} {x : Nat} {P F S X N T E : Nat} {dn : Nat} {bP : Option Nat} {pa : List Nat} {ps : Nat → ld_T} {bF : Option Nat} {fa : List Nat} {fd : Nat → ft_T} {bS : Option Nat} {sa : List Nat} {sd : Nat → sd_T} {b cap n : Nat} {t : Nat → Nat} {bT : Option Nat} {ta : List Nat} {ds : List rt_T} {ex ey eg : Int64} {cn : Nat} {cf : Nat → Nat} {px py pz gr ou fx fy : Nat → Int64} {od cr ty to_ : Nat → Int32} (h : rl_at G L f x P F S X N T E dn bP pa ps bF fa fd bS sa sd b cap n t bT ta ds ex ey eg cn cf px py pz gr ou fx fy od cr ty to_) {L1 : List Nat} {f1 : Nat → va_E} (htb : tb_at G L1 f1 X b cap 0 t) (hs : ∀ a ∈ L, a ∈ L1) (hfr0 : ∀ a ∈ L, a ≠ X → f1 a = f a) : rl_at G L1 f1 x P F S X N T E dn bP pa ps bF fa fd bS sa sd b cap 0 t bT ta ds ex ey eg cn cf px py pz gr ou fx fy od cr ty to_ := by
  obtain ⟨hx, fx0, lP, lF, lS, lT, tb, hN, hE, pP, pF, pS, pT, nPF, nPS, nPT, nFS, nFT, nST, rPF, rPS, rPT, rFS, rFT, rST, nd, Nn, En, p16, f12, t12, tl, n2, d8, c12, sl, rP, rO, rQ, rF, rE, rX, rT, rD, rC, rS⟩ := h
  have hfr : ∀ a ∈ L, a ≠ X → a ≠ b → f1 a = f a := fun a ha h1 _ => hfr0 a ha h1
  have k := tb.obk hs hfr
  have hb : ∀ {q2 : Nat} {b2 : Option Nat} {x2 : List Nat}, ls_at G L f q2 b2 x2 → ls_at G L1 f1 q2 b2 x2 := fun h2 => h2.tx tb hs hfr
  have hxx := tb.tx fx0 (by decide)
  exact ⟨(hs x hx), ((hfr x hx hxx.1 hxx.2).trans fx0), (hb lP), (hb lF), (hb lS), (hb lT), (htb), (hN.ob k), (hE.ob k), (fun i hi => (pP i hi).ob k), (fun i hi => (pF i hi).ob k), (fun j hj => (pS j hj).ob k), (fun j hj => (pT j hj).ob k), nPF, nPS, nPT, nFS, nFT, nST, rPF, rPS, rPT, rFS, rFT, rST, nd, Nn, En, p16, f12, t12, tl, (Nat.zero_le _), d8, c12, sl, rP, rO, rQ, rF, rE, (fun i hi => absurd hi (Nat.not_lt_zero _)), rT, rD, rC, rS⟩
theorem rl_rules1 {G : gx_T} {L : List Nat} {f : Nat → va_E} {x : Nat} {P F S X N T E : Nat} {dn : Nat} {bP : Option Nat} {pa : List Nat} {ps : Nat → ld_T} {bF : Option Nat} {fa : List Nat} {fd : Nat → ft_T} {bS : Option Nat} {sa : List Nat} {sd : Nat → sd_T} {b cap n : Nat} {t : Nat → Nat} {bT : Option Nat} {ta : List Nat} {ds : List rt_T} {ex ey eg : Int64} {cn : Nat} {cf : Nat → Nat} {px py pz gr ou fx fy : Nat → Int64} {od cr ty to_ : Nat → Int32} (h : rl_at G L f x P F S X N T E dn bP pa ps bF fa fd bS sa sd b cap n t bT ta ds ex ey eg cn cf px py pz gr ou fx fy od cr ty to_) {L1 : List Nat} {f1 : Nat → va_E} {q : Nat} {bq : Option Nat} {ta1 : List Nat} {ds1 : List rt_T} {to1 : Nat → Int32} (hra : ra_at t n 12 0 0 [] = .inr ds1) (h12 : ds1.length ≤ 12) (hto : tl_is ds1 to1) (htb : tb_at G L1 f1 X b cap 0 t) (hfx : f1 x = .inr (10, [.ref P, .ref F, .ref S, .ref X, .ref N, .ref q, .ref E, .int (nI dn)])) (hlq : ls_at G L1 f1 q bq ta1) (hq : q ∉ L) (hbq : ∀ b9, bq = some b9 → b9 ∉ L) (htl : ta1.length = ds1.length) (htn : ∀ j (h : j < ta1.length), tr_new L L1 f1 ta1[j] (tr_d (ds1.getD j (0, 0, 0, 0)))) (hs : ∀ a ∈ L, a ∈ L1) (hfr : ∀ a ∈ L, a ≠ X → a ≠ x → f1 a = f a) : rl_at G L1 f1 x P F S X N q E dn bP pa ps bF fa fd bS sa sd b cap 0 t bq ta1 ds1 ex ey eg cn cf px py pz gr ou fx fy od cr ty to1 := by
  obtain ⟨hx, fx0, lP, lF, lS, lT, tb, hN, hE, pP, pF, pS, pT, nPF, nPS, nPT, nFS, nFT, nST, rPF, rPS, rPT, rFS, rFT, rST, nd, Nn, En, p16, f12, t12, tl, n2, d8, c12, sl, rP, rO, rQ, rF, rE, rX, rT, rD, rC, rS⟩ := h
  obtain ⟨h3, h4, ml, g9, h5, h6, h7⟩ := id tb
  have k : ob_kept L f L1 f1 := ⟨hs, fun a ha ci vs e1 h1 h2 => hfr a ha (gx_ne e1 h5 (by intro e3; injection e3 with e3; injection e3 with e3; omega)) (gx_ne e1 fx0 (by intro e3; injection e3 with e3; injection e3 with e3; omega))⟩
  have hb : ∀ {q2 : Nat} {b2 : Option Nat} {x2 : List Nat}, ls_at G L f q2 b2 x2 → ls_at G L1 f1 q2 b2 x2 := fun h2 => h2.kept hs (hfr _ h2.1 (h2.apart h5 (by decide)).1.symm (h2.apart fx0 (by decide)).1.symm) (fun b9 h9 => hfr b9 (h2.row b9 h9) (fun z => (h2.apart h5 (by decide)).2 (by rw [← z, h9])) (fun z => (h2.apart fx0 (by decide)).2 (by rw [← z, h9])))
  have hne : ∀ {q2 : Nat} {b2 : Option Nat} {x2 : List Nat}, ls_at G L f q2 b2 x2 → q2 ≠ q ∧ ro_ne b2 bq := fun h2 => ⟨fun z => hq (by rw [← z]; exact h2.1), fun z e1 e2 => hbq z e2 (h2.row z e1)⟩
  exact ⟨(hs x hx), (hfx), (hb lP), (hb lF), (hb lS), (hlq), (htb), (hN.ob k), (hE.ob k), (fun i hi => (pP i hi).ob k), (fun i hi => (pF i hi).ob k), (fun j hj => (pS j hj).ob k), (fun j hj => (htn j hj).old (fun z hz => mem_L pP hz)), nPF, nPS, ((hne lP).1), nFS, ((hne lF).1), ((hne lS).1), rPF, rPS, ((hne lP).2), rFS, ((hne lF).2), ((hne lS).2), nd, Nn, En, p16, f12, (by omega), (htl), (Nat.zero_le _), d8, c12, sl, rP, rO, rQ, rF, rE, (fun i hi => absurd hi (Nat.not_lt_zero _)), (hto), (ra_d 12 0 0 [] ds1 (fun j hj => absurd hj (Nat.not_lt_zero _)) hra), rC, rS⟩
def ld_put (ps : Nat → ld_T) (k : Nat) (d : ld_T) (i : Nat) : ld_T := if i = k then d else ps i
theorem nd_ne {pa : List Nat} (h : pa.Nodup) {i j : Nat} (hi : i < pa.length) (hj : j < pa.length) (hne : ¬ i = j) : pa[i] ≠ pa[j] := by
  have h2 := List.pairwise_iff_getElem.mp h
  rcases Nat.lt_or_ge i j with h3 | h3
  · exact h2 i j hi hj h3
  · exact (h2 j i hj hi (by omega)).symm
theorem rl_drawer {G : gx_T} {L : List Nat} {f : Nat → va_E} {x : Nat} {P F S X N T E : Nat} {dn : Nat} {bP : Option Nat} {pa : List Nat} {ps : Nat → ld_T} {bF : Option Nat} {fa : List Nat} {fd : Nat → ft_T} {bS : Option Nat} {sa : List Nat} {sd : Nat → sd_T} {b cap n : Nat} {t : Nat → Nat} {bT : Option Nat} {ta : List Nat} {ds : List rt_T} {ex ey eg : Int64} {cn : Nat} {cf : Nat → Nat} {px py pz gr ou fx fy : Nat → Int64} {od cr ty to_ : Nat → Int32} (h : rl_at G L f x P F S X N T E dn bP pa ps bF fa fd bS sa sd b cap n t bT ta ds ex ey eg cn cf px py pz gr ou fx fy od cr ty to_) {f2 : Nat → va_E} {k : Nat} {o : Int64} (hk : k < pa.length) (hd8 : dn + 1 ≤ 8) (hop : 0 < o) (hdr : (ps k).2.2.2.2.1 = -1) (hfk : f2 pa[k] = .inr (6, [.long ((ps k).1), .long ((ps k).2.1), .long ((ps k).2.2.1), .long ((ps k).2.2.2.1), .int (nI dn), .long o])) (hfx : f2 x = .inr (10, [.ref P, .ref F, .ref S, .ref X, .ref N, .ref T, .ref E, .int (nI (dn + 1))])) (hfr : ∀ a, a ≠ pa[k] → a ≠ x → f2 a = f a) : rl_at G L f2 x P F S X N T E (dn + 1) bP pa (ld_put ps k ((ps k).1, (ps k).2.1, (ps k).2.2.1, (ps k).2.2.2.1, nI dn, o)) bF fa fd bS sa sd b cap n t bT ta ds ex ey eg cn cf px py pz gr (vp_updL ou k o) fx fy (upd od dn (nI k)) cr ty to_ := by
  obtain ⟨hx, fx0, lP, lF, lS, lT, tb, hN, hE, pP, pF, pS, pT, nPF, nPS, nPT, nFS, nFT, nST, rPF, rPS, rPT, rFS, rFT, rST, nd, Nn, En, p16, f12, t12, tl, n2, d8, c12, sl, rP, rO, rQ, rF, rE, rX, rT, rD, rC, rS⟩ := h
  have hkL : pa[k] ∈ L := (pP k hk).1
  have fk := (pP k hk).2
  have hxk : x ≠ pa[k] := gx_ne fx0 fk (by simp)
  have hb : ∀ {q2 : Nat} {b2 : Option Nat} {x2 : List Nat}, ls_at G L f q2 b2 x2 → ls_at G L f2 q2 b2 x2 := fun h2 => h2.kept (fun _ h => h) (hfr _ (h2.apart fk (by decide)).1.symm (h2.apart fx0 (by decide)).1.symm) (fun b9 h9 => hfr b9 (fun z => (h2.apart fk (by decide)).2 (by rw [← z, h9])) (fun z => (h2.apart fx0 (by decide)).2 (by rw [← z, h9])))
  have hld : ∀ {a : Nat} {d : ld_T}, ld_is L f a d → a ≠ pa[k] → ld_is L f2 a d := fun h2 hne => h2.kept h2.1 (hfr _ hne (gx_ne h2.2 fx0 (by simp)))
  have hft : ∀ {a : Nat} {n9 : Int32} {d : ft_T}, ft_is L f a n9 d → ft_is L f2 a n9 d := fun h2 => h2.kept h2.1 (hfr _ (gx_ne h2.2 fk (by simp)) (gx_ne h2.2 fx0 (by simp)))
  have hnew : pr_ok px py pz gr (vp_updL ou k o) (upd od dn (nI k)) (dn + 1) k ((ps k).1, (ps k).2.1, (ps k).2.2.1, (ps k).2.2.2.1, nI dn, o) := by
    obtain ⟨a1, a2, a3, a4, a5, a6, a7, a8, a9, a10⟩ := rP k hk
    refine ⟨a1, a2, a3, a4, ul_eq.symm, a6, a7, a8, a9, Or.inr ⟨dn, by omega, rfl, upd_eq, by rw [ul_eq]; exact hop, fun j hj hz => ?_⟩⟩
    rcases Nat.lt_or_ge j dn with h9 | h9
    · exfalso
      rw [upd_ne (by omega)] at hz
      rcases a10 with ⟨-, -, b3⟩ | ⟨q, b1, b2, -⟩
      · exact b3 j h9 hz
      · rw [hdr] at b2
        have := nI_pos (n := q) (by omega)
        rw [← b2] at this
        exact this (by decide)
    · omega
  exact ⟨hx, (hfx), (hb lP), (hb lF), (hb lS), (hb lT), (tb.kept (fun _ h => h) (hfr _ (gx_ne tb.2.2.choose_spec.choose_spec.1 fk (by simp)) (gx_ne tb.2.2.choose_spec.choose_spec.1 fx0 (by simp))) (hfr _ (gx_ne tb.2.2.choose_spec.choose_spec.2.1 fk (by simp)) (gx_ne tb.2.2.choose_spec.choose_spec.2.1 fx0 (by simp)))), (hld hN (fun z => Nn (by rw [z]; exact List.getElem_mem _))), (hld hE (fun z => En (by rw [z]; exact List.getElem_mem _))), (fun i hi => by
    by_cases e : i = k
    · subst e
      rw [ld_put, if_pos rfl]
      exact ⟨hkL, hfk⟩
    · rw [ld_put, if_neg e]
      exact hld (pP i hi) (nd_ne nd hi hk e)), (fun i hi => hft (pF i hi)), (fun j hj => by
    obtain ⟨u, v, n9, h1, h2, h3, h4⟩ := pS j hj
    exact ⟨u, v, n9, h1, (hfr _ (gx_ne h2 fk (by simp)) (gx_ne h2 fx0 (by simp))).trans h2, hft h3, hft h4⟩), (fun j hj => by
    obtain ⟨w, h0, h1, h2, h3⟩ := pT j hj
    exact ⟨w, h0, h1, (hfr _ (gx_ne h2 fk (by simp)) (gx_ne h2 fx0 (by simp))).trans h2, hld h3 (fun z => h0 (by rw [z]; exact List.getElem_mem _))⟩), nPF, nPS, nPT, nFS, nFT, nST, rPF, rPS, rPT, rFS, rFT, rST, nd, Nn, En, p16, f12, t12, tl, n2, (hd8), c12, sl, (fun i hi => by
    by_cases e : i = k
    · subst e
      rw [ld_put, if_pos rfl]
      exact hnew
    · rw [ld_put, if_neg e]
      obtain ⟨a1, a2, a3, a4, a5, a6, a7, a8, a9, a10⟩ := rP i hi
      have hki : ¬ nI k = nI i := fun z => e ((nI_eq (by omega) (by omega)).mp z).symm
      refine ⟨a1, a2, a3, a4, by rw [ul_ne e]; exact a5, a6, a7, a8, a9, ?_⟩
      rcases a10 with ⟨b1, b2, b3⟩ | ⟨q, b1, b2, b3, b4, b5⟩
      · refine Or.inl ⟨b1, by rw [ul_ne e]; exact b2, fun j hj => ?_⟩
        rcases Nat.lt_or_ge j dn with h9 | h9
        · rw [upd_ne (by omega)]; exact b3 j h9
        · rw [show j = dn by omega, upd_eq]; exact hki
      · refine Or.inr ⟨q, by omega, b2, by rw [upd_ne (by omega)]; exact b3, by rw [ul_ne e]; exact b4, fun j hj hz => ?_⟩
        rcases Nat.lt_or_ge j dn with h9 | h9
        · rw [upd_ne (by omega)] at hz
          exact b5 j h9 hz
        · rw [show j = dn by omega, upd_eq] at hz
          exact absurd hz hki), (fun i h1 h2 => by rw [ul_ne (by omega)]; exact rO i h1 h2), (fun j hj => by
    rcases Nat.lt_or_ge j dn with h9 | h9
    · rw [upd_ne (by omega)]; exact rQ j h9
    · rw [show j = dn by omega, upd_eq]; exact ⟨k, hk, rfl⟩), rF, rE, rX, rT, rD, rC, rS⟩
