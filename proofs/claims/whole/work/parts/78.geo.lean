/-! GEOMETRY: the walk comes back. -/
theorem ph_at : ∀ (n : Nat) (s : Nat → Nat), (∀ i, i ≤ n → s i < n) → ∃ i j, i < j ∧ j ≤ n ∧ s i = s j := by
  intro n
  induction n with
  | zero => intro s h; exact absurd (h 0 (Nat.le_refl _)) (Nat.not_lt_zero _)
  | succ n ih =>
    intro s h
    by_cases hx : ∃ i, i ≤ n ∧ s i = s (n + 1)
    · obtain ⟨i, h1, h2⟩ := hx
      exact ⟨i, n + 1, by omega, Nat.le_refl _, h2⟩
    · have hne : ∀ i, i ≤ n → s i ≠ s (n + 1) := fun i hi z => hx ⟨i, hi, z⟩
      have hl := h (n + 1) (Nat.le_refl _)
      obtain ⟨i, j, h1, h2, h3⟩ := ih (fun i => if s (n + 1) < s i then s i - 1 else s i) (fun i hi => by
        have := h i (by omega)
        have := hne i hi
        show (if s (n + 1) < s i then s i - 1 else s i) < n
        split <;> omega)
      refine ⟨i, j, h1, by omega, ?_⟩
      have a1 := hne i (by omega)
      have a2 := hne j h2
      have h4 : (if s (n + 1) < s i then s i - 1 else s i) = (if s (n + 1) < s j then s j - 1 else s j) := h3
      split at h4 <;> split at h4 <;> omega
theorem lst_at {Q : Nat → Prop} : ∀ m, 0 < m → Q m → ∃ N, 0 < N ∧ N ≤ m ∧ Q N ∧ ∀ i, 0 < i → i < N → ¬ Q i := by
  intro m
  induction m using Nat.strongRecOn with
  | ind m ih =>
    intro h0 hQ
    by_cases h : ∃ i, 0 < i ∧ i < m ∧ Q i
    · obtain ⟨i, h1, h2, h3⟩ := h
      obtain ⟨N, a, b, c, d⟩ := ih i h2 h1 h3
      exact ⟨N, a, by omega, c, d⟩
    · exact ⟨m, h0, Nat.le_refl _, hQ, fun i h1 h2 h3 => h ⟨i, h1, h2, h3⟩⟩
theorem gs_same {X Y : Nat → Int} {n a b j : Nat} (h : gs_up X Y n a b) (hs : g_same X Y b j) : gs_up X Y n a j := by
  refine ⟨fun z => h.1 ⟨hs.1.symm.trans z.1, hs.2.symm.trans z.2⟩, fun k hk => ?_⟩
  have := h.2 k hk
  unfold gs_ok gv at this ⊢
  rw [hs.1, hs.2]
  exact this
def g_first (X Y : Nat → Int) (n c : Nat) : Prop := c < n ∧ ∀ k, k < n → X c < X k ∨ (X c = X k ∧ Y c < Y k) ∨ (g_same X Y c k ∧ c ≤ k)
def g_nx (X Y : Nat → Int) (n a r : Nat) : Prop := (r < n ∧ gs_up X Y n a r ∧ ∀ j, j < r → ¬ gs_up X Y n a j) ∨ (r = a ∧ ∀ j, j < n → ¬ gs_up X Y n a j)
def g_J (X Y : Nat → Int) (n a : Nat) : Prop := a < n ∧ g_H X Y n a ∧ ∀ j, j < a → ¬ g_same X Y a j
theorem g_J0 {X Y : Nat → Int} {n c : Nat} (h : g_first X Y n c) : g_J X Y n c := by
  refine ⟨h.1, ⟨(0, -1), fun k hk hs => ?_⟩, fun j hj z => ?_⟩
  · have e1 : gcr (0, -1) (gv X Y c k) = X k - X c := by unfold gcr gv; grind
    have e2 : gdt (0, -1) (gv X Y c k) = Y c - Y k := by unfold gdt gv; grind
    unfold g_hp
    rw [e1, e2]
    rcases h.2 k hk with h1 | h1 | h1
    · left; omega
    · right; omega
    · exact absurd h1.1 hs
  · rcases h.2 j (by have := h.1; omega) with h1 | h1 | h1
    · have := z.1; omega
    · have := z.2; omega
    · omega
theorem g_JN {X Y : Nat → Int} {n c a r : Nat} (hk : ∃ k, k < n ∧ ¬ g_same X Y c k) (hc : c < n) (h : g_J X Y n a) (hr : g_nx X Y n a r) : g_J X Y n r ∧ gs_up X Y n a r ∧ gca X Y a n = r := by
  have hk2 : ∃ k, k < n ∧ ¬ g_same X Y a k := by
    by_cases h9 : g_same X Y a c
    · obtain ⟨k, h1, h2⟩ := hk
      exact ⟨k, h1, fun z => h2 ⟨z.1.trans h9.1.symm, z.2.trans h9.2.symm⟩⟩
    · exact ⟨c, hc, h9⟩
  obtain ⟨b1, b2, b3⟩ := g_next h.2.1 hk2
  rcases hr with ⟨r1, r2, r3⟩ | ⟨r1, r2⟩
  · have e : gca X Y a n = r := by
      rcases Nat.lt_or_ge (gca X Y a n) r with h9 | h9
      · exact absurd b2 (r3 _ h9)
      · rcases Nat.lt_or_ge r (gca X Y a n) with h8 | h8
        · exact absurd r2 (b3 _ h8)
        · omega
    exact ⟨⟨r1, g_keep r2, fun j hj z => r3 j hj (gs_same r2 z)⟩, r2, e⟩
  · exact absurd b2 (r2 _ b1)
theorem g_walk {X Y : Nat → Int} {n c0 : Nat} {nx : Nat → Nat} (hF : g_first X Y n c0) (hnx : ∀ a, a < n → g_nx X Y n a (nx a)) : ∃ N, 0 < N ∧ N ≤ n ∧ (∀ i, nx_it nx c0 i < n) ∧ (∀ i, 0 < i → i < N → ¬ nx_it nx c0 i = c0) ∧ nx_it nx c0 N = c0 ∧ ∀ i, gca X Y (nx_it nx c0 i) n = nx (nx_it nx c0 i) := by
  by_cases hk : ∃ k, k < n ∧ ¬ g_same X Y c0 k
  · have hJ : ∀ i, g_J X Y n (nx_it nx c0 i) := by
      intro i
      induction i with
      | zero => exact g_J0 hF
      | succ i ih => exact (g_JN hk hF.1 ih (hnx _ ih.1)).1
    have hI : ∀ i j, nx_it nx c0 (i + 1) = nx_it nx c0 (j + 1) → nx_it nx c0 i = nx_it nx c0 j := by
      intro i j h
      have a1 := (g_JN hk hF.1 (hJ i) (hnx _ (hJ i).1)).2.1
      have a2 := (g_JN hk hF.1 (hJ j) (hnx _ (hJ j).1)).2.1
      have h2 : nx (nx_it nx c0 i) = nx (nx_it nx c0 j) := h
      rw [h2] at a1
      have hs := g_inj a1 a2 (hJ i).1 (hJ j).1
      rcases Nat.lt_or_ge (nx_it nx c0 i) (nx_it nx c0 j) with h9 | h9
      · exact absurd ⟨hs.1.symm, hs.2.symm⟩ ((hJ j).2.2 _ h9)
      · rcases Nat.lt_or_ge (nx_it nx c0 j) (nx_it nx c0 i) with h8 | h8
        · exact absurd hs ((hJ i).2.2 _ h8)
        · omega
    have hB : ∀ i m, nx_it nx c0 i = nx_it nx c0 (i + m) → nx_it nx c0 m = c0 := by
      intro i
      induction i with
      | zero => intro m h; rw [Nat.zero_add] at h; exact h.symm
      | succ i ih => intro m h; exact ih m (hI _ _ (by rw [h]; congr 1; omega))
    obtain ⟨i, j, h1, h2, h3⟩ := ph_at n (nx_it nx c0) (fun i _ => (hJ i).1)
    have h4 := hB i (j - i) (by rw [h3]; congr 1; omega)
    obtain ⟨N, a, b, c, d⟩ := lst_at (Q := fun m => nx_it nx c0 m = c0) (j - i) (by omega) h4
    exact ⟨N, a, by omega, fun i => (hJ i).1, d, c, fun i => (g_JN hk hF.1 (hJ i) (hnx _ (hJ i).1)).2.2⟩
  · have ha : ∀ k, k < n → g_same X Y c0 k := fun k h => Classical.byContradiction fun z => hk ⟨k, h, z⟩
    have e : nx c0 = c0 := by
      rcases hnx c0 hF.1 with ⟨r1, r2, -⟩ | ⟨r1, -⟩
      · exact absurd (ha _ r1) r2.1
      · exact r1
    have hi : ∀ i, nx_it nx c0 i = c0 := by
      intro i
      induction i with
      | zero => rfl
      | succ i ih => show nx (nx_it nx c0 i) = c0; rw [ih, e]
    refine ⟨1, by omega, by have := hF.1; omega, fun i => by rw [hi]; exact hF.1, fun i h1 h2 => absurd h2 (by omega), hi 1, fun i => ?_⟩
    rw [hi, e]
    exact g_all (g_J0 hF).2.1 ha
/-- the class's walk: the corners in their order -/
theorem ck_walk {nx f : Nat → Nat} {c0 N : Nat} (hf : ∀ i, f (nx_it nx c0 i) = nx (nx_it nx c0 i)) (hne : ∀ i, 0 < i → i < N → ¬ nx_it nx c0 i = c0) (hN : nx_it nx c0 N = c0) : ∀ m i, i < N → N - i ≤ m → ck_at f c0 m (nx_it nx c0 i) = (List.range' i (N - i)).map (nx_it nx c0) := by
  intro m
  induction m with
  | zero => intro i h1 h2; omega
  | succ m ih =>
    intro i h1 h2
    show nx_it nx c0 i :: (if f (nx_it nx c0 i) = c0 then [] else ck_at f c0 m (f (nx_it nx c0 i))) = _
    have e : N - i = (N - (i + 1)) + 1 := by omega
    rw [e, List.range'_succ, List.map_cons, hf i]
    congr 1
    have e2 : nx (nx_it nx c0 i) = nx_it nx c0 (i + 1) := rfl
    rw [e2]
    rcases Nat.lt_or_ge (i + 1) N with h3 | h3
    · rw [if_neg (hne (i + 1) (by omega) h3)]
      exact ih (i + 1) h3 (by omega)
    · have e3 : i + 1 = N := by omega
      rw [e3, if_pos hN, Nat.sub_self]
      rfl
