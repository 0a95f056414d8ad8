/-! GEOMETRY: from longs to whole numbers; both walks are one. -/
theorem i_mulb {u v : Int} {A : Nat} (hu : -A ≤ u ∧ u ≤ A) (hv : -A ≤ v ∧ v ≤ A) : -((A * A : Nat) : Int) ≤ u * v ∧ u * v ≤ ((A * A : Nat) : Int) := by
  have h1 : u.natAbs ≤ A := by omega
  have h2 : v.natAbs ≤ A := by omega
  have h3 := Nat.mul_le_mul h1 h2
  rw [← Int.natAbs_mul] at h3
  omega
abbrev w_bd (a : Int64) : Prop := -100000 ≤ a.toInt ∧ a.toInt ≤ 100000
theorem w_sub {a b : Int64} (ha : w_bd a) (hb : w_bd b) : (a - b).toInt = a.toInt - b.toInt := by
  rw [Int64.toInt_sub]
  exact Int.bmod_eq_of_le (by omega) (by omega)
theorem w_prd {a b c d : Int64} (ha : w_bd a) (hb : w_bd b) (hc : w_bd c) (hd : w_bd d) : ((a - b) * (c - d)).toInt = (a.toInt - b.toInt) * (c.toInt - d.toInt) ∧ -40000000000 ≤ (a.toInt - b.toInt) * (c.toInt - d.toInt) ∧ (a.toInt - b.toInt) * (c.toInt - d.toInt) ≤ 40000000000 := by
  have h := i_mulb (u := a.toInt - b.toInt) (v := c.toInt - d.toInt) (A := 200000) (by omega) (by omega)
  refine ⟨?_, by omega, by omega⟩
  rw [Int64.toInt_mul, w_sub ha hb, w_sub hc hd]
  exact Int.bmod_eq_of_le (by omega) (by omega)
theorem w_cr {a b c d e f g h : Int64} (ha : w_bd a) (hb : w_bd b) (hc : w_bd c) (hd : w_bd d) (he : w_bd e) (hf : w_bd f) (hg : w_bd g) (hh : w_bd h) : ((a - b) * (c - d) - (e - f) * (g - h)).toInt = (a.toInt - b.toInt) * (c.toInt - d.toInt) - (e.toInt - f.toInt) * (g.toInt - h.toInt) := by
  obtain ⟨p1, p2, p3⟩ := w_prd ha hb hc hd
  obtain ⟨q1, q2, q3⟩ := w_prd he hf hg hh
  rw [Int64.toInt_sub, p1, q1]
  exact Int.bmod_eq_of_le (by omega) (by omega)
theorem w_dt {a b c d e f g h : Int64} (ha : w_bd a) (hb : w_bd b) (hc : w_bd c) (hd : w_bd d) (he : w_bd e) (hf : w_bd f) (hg : w_bd g) (hh : w_bd h) : ((a - b) * (c - d) + (e - f) * (g - h)).toInt = (a.toInt - b.toInt) * (c.toInt - d.toInt) + (e.toInt - f.toInt) * (g.toInt - h.toInt) := by
  obtain ⟨p1, p2, p3⟩ := w_prd ha hb hc hd
  obtain ⟨q1, q2, q3⟩ := w_prd he hf hg hh
  rw [Int64.toInt_add, p1, q1]
  exact Int.bmod_eq_of_le (by omega) (by omega)
theorem l_lt {x y : Int64} : x < y ↔ x.toInt < y.toInt := Int64.lt_iff_toInt_lt
theorem l_eq {x y : Int64} : x = y ↔ x.toInt = y.toInt := Int64.toInt_inj.symm
theorem l_0 : (0 : Int64).toInt = 0 := by decide
abbrev pt_bd (F : Nat → Int64) (n : Nat) : Prop := ∀ k, k < n → w_bd (F k)
abbrev tI (F : Nat → Int64) (k : Nat) : Int := (F k).toInt
theorem sd_ok_i {fx fy : Nat → Int64} {n a b k : Nat} (hx : pt_bd fx n) (hy : pt_bd fy n) (ha : a < n) (hb : b < n) (hk : k < n) : sd_ok fx fy a b k ↔ gs_ok (tI fx) (tI fy) a b k := by
  have e1 : (sd_t fx fy a b k).toInt = gcr (gv (tI fx) (tI fy) a b) (gv (tI fx) (tI fy) a k) := w_cr (hx b hb) (hx a ha) (hy k hk) (hy a ha) (hy b hb) (hy a ha) (hx k hk) (hx a ha)
  have e2 : (sd_b fx fy a b k).toInt = gdt (gv (tI fx) (tI fy) a k) (gv (tI fx) (tI fy) a b) := w_dt (hx k hk) (hx a ha) (hx b hb) (hx a ha) (hy k hk) (hy a ha) (hy b hb) (hy a ha)
  have e3 : (sd_b fx fy b a k).toInt = gdt (gv (tI fx) (tI fy) b k) (gv (tI fx) (tI fy) b a) := w_dt (hx k hk) (hx b hb) (hx a ha) (hx b hb) (hy k hk) (hy b hb) (hy a ha) (hy b hb)
  unfold sd_ok gs_ok
  rw [l_lt, l_eq, l_lt, l_lt, l_0, e1, e2, e3]
  omega
theorem sd_up_i {fx fy : Nat → Int64} {n a b : Nat} (hx : pt_bd fx n) (hy : pt_bd fy n) (ha : a < n) (hb : b < n) : sd_up fx fy a b n ↔ gs_up (tI fx) (tI fy) n a b := by
  unfold sd_up gs_up g_same tI
  rw [l_eq, l_eq]
  constructor
  · rintro ⟨h1, h2⟩
    exact ⟨fun z => h1.elim (fun w => w z.1.symm) (fun w => w z.2.symm), fun k hk => (sd_ok_i hx hy ha hb hk).mp (h2 k hk)⟩
  · rintro ⟨h1, h2⟩
    exact ⟨by omega, fun k hk => (sd_ok_i hx hy ha hb hk).mpr (h2 k hk)⟩
theorem nx_i {fx fy : Nat → Int64} {n a r : Nat} (hx : pt_bd fx n) (hy : pt_bd fy n) (ha : a < n) : nx_is fx fy n a r ↔ g_nx (tI fx) (tI fy) n a r := by
  unfold nx_is g_nx
  constructor
  · rintro (⟨h1, h2, h3⟩ | ⟨h1, h2⟩)
    · exact Or.inl ⟨h1, (sd_up_i hx hy ha h1).mp h2, fun j hj z => h3 j hj ((sd_up_i hx hy ha (by omega)).mpr z)⟩
    · exact Or.inr ⟨h1, fun j hj z => h2 j hj ((sd_up_i hx hy ha hj).mpr z)⟩
  · rintro (⟨h1, h2, h3⟩ | ⟨h1, h2⟩)
    · exact Or.inl ⟨h1, (sd_up_i hx hy ha h1).mpr h2, fun j hj z => h3 j hj ((sd_up_i hx hy ha (by omega)).mp z)⟩
    · exact Or.inr ⟨h1, fun j hj z => h2 j hj ((sd_up_i hx hy ha hj).mp z)⟩
theorem nx_fun {fx fy : Nat → Int64} {n a r r2 : Nat} (h : nx_is fx fy n a r) (h2 : nx_is fx fy n a r2) : r = r2 := by
  rcases h with ⟨a1, a2, a3⟩ | ⟨a1, a2⟩ <;> rcases h2 with ⟨b1, b2, b3⟩ | ⟨b1, b2⟩
  · rcases Nat.lt_or_ge r r2 with h9 | h9
    · exact absurd a2 (b3 _ h9)
    · rcases Nat.lt_or_ge r2 r with h8 | h8
      · exact absurd b2 (a3 _ h8)
      · omega
  · exact absurd a2 (b2 _ a1)
  · exact absurd b2 (a2 _ b1)
  · omega
theorem lst_0 {Q : Nat → Prop} : ∀ m, Q m → ∃ N, N ≤ m ∧ Q N ∧ ∀ i, i < N → ¬ Q i := by
  intro m
  induction m using Nat.strongRecOn with
  | ind m ih =>
    intro hQ
    by_cases h : ∃ i, i < m ∧ Q i
    · obtain ⟨i, h2, h3⟩ := h
      obtain ⟨N, b, c, d⟩ := ih i h2 h3
      exact ⟨N, by omega, c, d⟩
    · exact ⟨m, Nat.le_refl _, hQ, fun i h2 h3 => h ⟨i, h2, h3⟩⟩
theorem nx_ex (fx fy : Nat → Int64) (n a : Nat) : ∃ r, nx_is fx fy n a r := by
  by_cases h : ∃ j, j < n ∧ sd_up fx fy a j n
  · obtain ⟨j, h1, h2⟩ := h
    obtain ⟨N, b, c, d⟩ := lst_0 (Q := fun j => sd_up fx fy a j n) j h2
    exact ⟨N, Or.inl ⟨by omega, c, d⟩⟩
  · exact ⟨a, Or.inr ⟨rfl, fun j h1 h2 => h ⟨j, h1, h2⟩⟩⟩
theorem ca_i {fd : Nat → ft_T} {fx fy : Nat → Int64} {n c : Nat} (hfd : ∀ k, k < n → fd k = (fx k, fy k)) (hx : pt_bd fx n) (hy : pt_bd fy n) (hc : c < n) : ∀ i, i ≤ n → ca_at fd c i = gca (tI fx) (tI fy) c i ∧ gca (tI fx) (tI fy) c i < n := by
  intro i
  induction i with
  | zero => intro _; exact ⟨rfl, hc⟩
  | succ i ih =>
    intro hi
    obtain ⟨h1, h2⟩ := ih (by omega)
    have hin : i < n := by omega
    have e : ft_see (fd c) (fd (ca_at fd c i)) (fd i) ↔ g_see (tI fx) (tI fy) c (gca (tI fx) (tI fy) c i) i := by
      rw [h1]
      generalize gca (tI fx) (tI fy) c i = b at h2 ⊢
      rw [hfd c hc, hfd b h2, hfd i hin]
      have e1 : ((fx b - fx c) * (fy i - fy c) - (fy b - fy c) * (fx i - fx c)).toInt = gcr (gv (tI fx) (tI fy) c b) (gv (tI fx) (tI fy) c i) := w_cr (hx b h2) (hx c hc) (hy i hin) (hy c hc) (hy b h2) (hy c hc) (hx i hin) (hx c hc)
      have e2 : ((fx b - fx c) * (fx b - fx c) + (fy b - fy c) * (fy b - fy c)).toInt = gdt (gv (tI fx) (tI fy) c b) (gv (tI fx) (tI fy) c b) := w_dt (hx b h2) (hx c hc) (hx b h2) (hx c hc) (hy b h2) (hy c hc) (hy b h2) (hy c hc)
      have e3 : ((fx i - fx c) * (fx i - fx c) + (fy i - fy c) * (fy i - fy c)).toInt = gdt (gv (tI fx) (tI fy) c i) (gv (tI fx) (tI fy) c i) := w_dt (hx i hin) (hx c hc) (hx i hin) (hx c hc) (hy i hin) (hy c hc) (hy i hin) (hy c hc)
      unfold ft_see ft_more g_see g_same tI
      simp only
      rw [l_eq (x := fx c), l_eq (x := fy c), l_eq (x := fx c), l_eq (x := fy c), l_lt, l_eq (y := 0), l_lt, e1, e2, e3, l_0]
      unfold tI
      omega
    show @ite _ (ft_see (fd c) (fd (ca_at fd c i)) (fd i)) (Classical.propDecidable _) i (ca_at fd c i) = @ite _ (g_see (tI fx) (tI fy) c (gca (tI fx) (tI fy) c i) i) (Classical.propDecidable _) i (gca (tI fx) (tI fy) c i) ∧ @ite _ (g_see (tI fx) (tI fy) c (gca (tI fx) (tI fy) c i) i) (Classical.propDecidable _) i (gca (tI fx) (tI fy) c i) < n
    by_cases hs : g_see (tI fx) (tI fy) c (gca (tI fx) (tI fy) c i) i
    · rw [if_pos (e.mpr hs), if_pos hs]
      exact ⟨rfl, hin⟩
    · rw [if_neg (fun z => hs (e.mp z)), if_neg hs]
      exact ⟨h1, h2⟩
theorem fi_first (fx fy : Nat → Int64) : ∀ n, 0 < n → g_first (tI fx) (tI fy) n (fi_at fx fy n) := by
  intro n
  induction n with
  | zero => intro h; omega
  | succ n ih =>
    intro _
    rcases Nat.eq_zero_or_pos n with h0 | h0
    · subst h0
      refine ⟨fi_le fx fy 1 (by decide), fun k hk => Or.inr (Or.inr ?_)⟩
      have e : k = 0 := by omega
      rw [e]
      exact ⟨⟨rfl, rfl⟩, Nat.le_refl _⟩
    · obtain ⟨a1, a2⟩ := ih h0
      by_cases h : fi_lt fx fy n (fi_at fx fy n)
      · rw [fi_1 h0 h]
        unfold fi_lt at h
        rw [l_lt, l_eq, l_lt] at h
        refine ⟨by omega, fun k hk => ?_⟩
        rcases Nat.lt_succ_iff_lt_or_eq.mp hk with h9 | h9
        · have := a2 k h9
          unfold g_same tI at this ⊢
          omega
        · rw [h9]
          exact Or.inr (Or.inr ⟨⟨rfl, rfl⟩, Nat.le_refl _⟩)
      · rw [fi_0 h0 h]
        unfold fi_lt at h
        rw [l_lt, l_eq, l_lt] at h
        refine ⟨by omega, fun k hk => ?_⟩
        rcases Nat.lt_succ_iff_lt_or_eq.mp hk with h9 | h9
        · exact a2 k h9
        · rw [h9]
          unfold g_same tI
          omega
theorem fc_first {fd : Nat → ft_T} {fx fy : Nat → Int64} {n b0 : Nat} (hfd : ∀ k, k < n → fd k = (fx k, fy k)) (hb : b0 < n) : ∀ i, i ≤ n → fc_at fd b0 i < n ∧ ∀ k, (k < i ∨ k = b0) → tI fx (fc_at fd b0 i) < tI fx k ∨ (tI fx (fc_at fd b0 i) = tI fx k ∧ tI fy (fc_at fd b0 i) < tI fy k) ∨ (g_same (tI fx) (tI fy) (fc_at fd b0 i) k ∧ fc_at fd b0 i ≤ k) := by
  intro i
  induction i with
  | zero => intro _; exact ⟨hb, fun k hk => by rw [hk.resolve_left (Nat.not_lt_zero _)]; exact Or.inr (Or.inr ⟨⟨rfl, rfl⟩, Nat.le_refl _⟩)⟩
  | succ i ih =>
    intro hi
    obtain ⟨a1, a2⟩ := ih (by omega)
    have e0 : fc_at fd b0 (i + 1) = @ite _ (ft_bef (fd i) (fd (fc_at fd b0 i)) i (fc_at fd b0 i)) (Classical.propDecidable _) i (fc_at fd b0 i) := rfl
    rw [e0]
    generalize fc_at fd b0 i = b at a1 a2 ⊢
    have e : ft_bef (fd i) (fd b) i b ↔ (tI fx i < tI fx b ∨ (tI fx i = tI fx b ∧ tI fy i < tI fy b) ∨ (tI fx i = tI fx b ∧ tI fy i = tI fy b ∧ i < b)) := by
      rw [hfd i (by omega), hfd b a1]
      unfold ft_bef tI
      simp only
      by_cases h1 : fx i = fx b
      · rw [if_pos h1]
        by_cases h2 : fy i = fy b
        · rw [if_pos h2, h1, h2]; omega
        · rw [if_neg h2, l_lt, h1]
          rw [l_eq] at h2
          omega
      · rw [if_neg h1, l_lt]
        rw [l_eq] at h1
        omega
    by_cases h : ft_bef (fd i) (fd b) i b
    · rw [if_pos h]
      have h2 := e.mp h
      refine ⟨by omega, fun k hk => ?_⟩
      rcases hk with hk | hk
      · rcases Nat.lt_succ_iff_lt_or_eq.mp hk with h9 | h9
        · have := a2 k (Or.inl h9)
          unfold g_same at this ⊢
          omega
        · rw [h9]
          exact Or.inr (Or.inr ⟨⟨rfl, rfl⟩, Nat.le_refl _⟩)
      · have := a2 k (Or.inr hk)
        unfold g_same at this ⊢
        omega
    · rw [if_neg h]
      have h2 : ¬ _ := fun z => h (e.mpr z)
      refine ⟨a1, fun k hk => ?_⟩
      rcases hk with hk | hk
      · rcases Nat.lt_succ_iff_lt_or_eq.mp hk with h9 | h9
        · exact a2 k (Or.inl h9)
        · rw [h9]
          unfold g_same
          omega
      · exact a2 k (Or.inr hk)
theorem g_fuq {X Y : Nat → Int} {n c c2 : Nat} (h : g_first X Y n c) (h2 : g_first X Y n c2) : c = c2 := by
  have a1 := h.2 c2 h2.1
  have a2 := h2.2 c h.1
  unfold g_same at a1 a2
  omega
/-- both walks: the reference's comes back, and the class's tells the same corners -/
theorem geo_all {fd : Nat → ft_T} {fx fy : Nat → Int64} {n b0 : Nat} (hfd : ∀ k, k < n → fd k = (fx k, fy k)) (hx : pt_bd fx n) (hy : pt_bd fy n) (hb : b0 < n) (hn : n ≤ 12) : ∃ (nx : Nat → Nat) (N : Nat), N ≤ n ∧ wd_ok fx fy n nx N ∧ fc_at fd b0 n = fi_at fx fy n ∧ ck_at (fun z => ca_at fd z n) (fi_at fx fy n) n (fi_at fx fy n) = (List.range' 0 N).map (nx_it nx (fi_at fx fy n)) := by
  have hF := fi_first fx fy n (by omega)
  have hF2 : g_first (tI fx) (tI fy) n (fc_at fd b0 n) := by
    obtain ⟨a1, a2⟩ := fc_first hfd hb n (Nat.le_refl _)
    exact ⟨a1, fun k hk => a2 k (Or.inl hk)⟩
  obtain ⟨N, w1, w2, w3, w4, w5, w6⟩ := g_walk (nx := fun a => (nx_ex fx fy n a).choose) hF (fun a ha => (nx_i hx hy ha).mp (nx_ex fx fy n a).choose_spec)
  refine ⟨fun a => (nx_ex fx fy n a).choose, N, w2, ⟨w1, by omega, fun c r _ hr => nx_fun hr (nx_ex fx fy n c).choose_spec, w3, w4, w5⟩, g_fuq hF2 hF, ?_⟩
  have h := ck_walk (f := fun z => ca_at fd z n) (N := N) (fun i => ((ca_i hfd hx hy (w3 i) n (Nat.le_refl _)).1.trans (w6 i))) w4 w5 n 0 w1 (by omega)
  rw [Nat.sub_zero] at h
  exact h
