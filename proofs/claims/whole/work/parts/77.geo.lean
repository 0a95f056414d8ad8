/-! GEOMETRY: points; the next corner. -/
abbrev gv (X Y : Nat → Int) (a k : Nat) : Int × Int := (X k - X a, Y k - Y a)
abbrev g_same (X Y : Nat → Int) (a k : Nat) : Prop := X k = X a ∧ Y k = Y a
def gs_ok (X Y : Nat → Int) (a b k : Nat) : Prop := 0 < gcr (gv X Y a b) (gv X Y a k) ∨ (gcr (gv X Y a b) (gv X Y a k) = 0 ∧ 0 ≤ gdt (gv X Y a k) (gv X Y a b) ∧ 0 ≤ gdt (gv X Y b k) (gv X Y b a))
/-- b comes next from a on: all feet lie left of the line from a to b, or on it between them -/
def gs_up (X Y : Nat → Int) (n a b : Nat) : Prop := ¬ g_same X Y a b ∧ ∀ k, k < n → gs_ok X Y a b k
def g_see (X Y : Nat → Int) (c b k : Nat) : Prop := ¬ g_same X Y c k ∧ (g_same X Y c b ∨ gcr (gv X Y c b) (gv X Y c k) < 0 ∨ (gcr (gv X Y c b) (gv X Y c k) = 0 ∧ gdt (gv X Y c b) (gv X Y c b) < gdt (gv X Y c k) (gv X Y c k)))
noncomputable def gca (X Y : Nat → Int) (c : Nat) : Nat → Nat
  | 0 => c
  | i + 1 => @ite _ (g_see X Y c (gca X Y c i) i) (Classical.propDecidable _) i (gca X Y c i)
def g_H (X Y : Nat → Int) (n a : Nat) : Prop := ∃ d : Int × Int, ∀ k, k < n → ¬ g_same X Y a k → g_hp d (gv X Y a k)
def g_best (X Y : Nat → Int) (c b j : Nat) : Prop := 0 < gcr (gv X Y c b) (gv X Y c j) ∨ (gcr (gv X Y c b) (gv X Y c j) = 0 ∧ gdt (gv X Y c j) (gv X Y c j) ≤ gdt (gv X Y c b) (gv X Y c b))
theorem gv_pos {X Y : Nat → Int} {a k : Nat} (h : ¬ g_same X Y a k) : 0 < gdt (gv X Y a k) (gv X Y a k) := g_pos (fun z => h ⟨by have := z.1; simp only at this; omega, by have := z.2; simp only at this; omega⟩)
theorem g_self (u : Int × Int) : gcr u u = 0 := by unfold gcr; grind
theorem gv_beh (X Y : Nat → Int) (a b k : Nat) : gdt (gv X Y b k) (gv X Y b a) = gdt (gv X Y a b) (gv X Y a b) - gdt (gv X Y a b) (gv X Y a k) := by unfold gdt; grind
theorem gv_eq {X Y : Nat → Int} {a j k : Nat} (h : g_same X Y k j) : gv X Y a j = gv X Y a k := by
  unfold gv
  rw [h.1, h.2]
/-- the loop over the feet: the best so far -/
def g_inv (X Y : Nat → Int) (c i b : Nat) : Prop := (b = c ∧ ∀ j, j < i → g_same X Y c j) ∨ (b < i ∧ ¬ g_same X Y c b ∧ (∀ j, j < i → ¬ g_same X Y c j → g_best X Y c b j) ∧ ∀ j, j < b → ¬ g_same X Y b j)
theorem g_better {X Y : Nat → Int} {d : Int × Int} {c b i j : Nat} (hb : g_hp d (gv X Y c b)) (hi : g_hp d (gv X Y c i)) (hj : g_hp d (gv X Y c j)) (h1 : gcr (gv X Y c b) (gv X Y c i) < 0 ∨ (gcr (gv X Y c b) (gv X Y c i) = 0 ∧ gdt (gv X Y c b) (gv X Y c b) < gdt (gv X Y c i) (gv X Y c i))) (h2 : g_best X Y c b j) : g_best X Y c i j := by
  have s1 := g_sw (gv X Y c b) (gv X Y c i)
  have s2 := g_sw (gv X Y c i) (gv X Y c j)
  have s3 := g_sw (gv X Y c b) (gv X Y c j)
  have n1 : 0 ≤ gcr (gv X Y c i) (gv X Y c b) := by rcases h1 with h1 | h1 <;> omega
  have n2 : 0 ≤ gcr (gv X Y c b) (gv X Y c j) := by rcases h2 with h2 | h2 <;> omega
  have n3 := g_tr hi hb hj n1 n2
  rcases i_or 0 (gcr (gv X Y c i) (gv X Y c j)) with h9 | h9
  · exact Or.inl h9
  · have z : gcr (gv X Y c i) (gv X Y c j) = 0 := by omega
    have m1 : 0 ≤ gcr (gv X Y c j) (gv X Y c i) := by omega
    have k1 := g_tr hj hi hb m1 n1
    have k2 := g_tr hb hj hi n2 m1
    refine Or.inr ⟨z, ?_⟩
    rcases h1 with h1 | h1
    · omega
    · rcases h2 with h2 | h2 <;> omega
theorem g_step {X Y : Nat → Int} {n c i : Nat} (hH : g_H X Y n c) (hi : i < n) (h : g_inv X Y c i (gca X Y c i)) : g_inv X Y c (i + 1) (gca X Y c (i + 1)) := by
  obtain ⟨d, hd⟩ := hH
  have e : gca X Y c (i + 1) = @ite _ (g_see X Y c (gca X Y c i) i) (Classical.propDecidable _) i (gca X Y c i) := rfl
  rw [e]
  generalize gca X Y c i = b at h ⊢
  by_cases hs : g_same X Y c i
  · rw [if_neg (fun z => z.1 hs)]
    rcases h with ⟨h1, h2⟩ | ⟨h1, h2, h3, h4⟩
    · exact Or.inl ⟨h1, fun j hj => (Nat.lt_succ_iff_lt_or_eq.mp hj).elim (h2 j) (fun z => by rw [z]; exact hs)⟩
    · exact Or.inr ⟨by omega, h2, fun j hj hn => (Nat.lt_succ_iff_lt_or_eq.mp hj).elim (fun z => h3 j z hn) (fun z => absurd (by rw [z]; exact hs) hn), h4⟩
  · rcases h with ⟨h1, h2⟩ | ⟨h1, h2, h3, h4⟩
    · rw [if_pos ⟨hs, Or.inl (by rw [h1]; exact ⟨rfl, rfl⟩)⟩]
      refine Or.inr ⟨by omega, hs, fun j hj hn => ?_, fun j hj z => hs ?_⟩
      · rcases Nat.lt_succ_iff_lt_or_eq.mp hj with h9 | h9
        · exact absurd (h2 j h9) hn
        · rw [h9]
          exact Or.inr ⟨g_self _, Int.le_refl _⟩
      · have := h2 j hj
        exact ⟨z.1.symm.trans this.1, z.2.symm.trans this.2⟩
    · by_cases hb : g_see X Y c b i
      · rw [if_pos hb]
        have hb2 := hb.2.resolve_left h2
        refine Or.inr ⟨by omega, hs, fun j hj hn => ?_, fun j hj z => ?_⟩
        · rcases Nat.lt_succ_iff_lt_or_eq.mp hj with h9 | h9
          · exact g_better (hd b (by omega) h2) (hd i hi hs) (hd j (by omega) hn) hb2 (h3 j h9 hn)
          · rw [h9]
            exact Or.inr ⟨g_self _, Int.le_refl _⟩
        · have hn : ¬ g_same X Y c j := fun z2 => hs ⟨z.1.symm.trans z2.1, z.2.symm.trans z2.2⟩
          have := h3 j hj hn
          unfold g_best at this
          rw [gv_eq (a := c) z] at this
          rcases this with h9 | h9 <;> rcases hb2 with h8 | h8 <;> omega
      · rw [if_neg hb]
        refine Or.inr ⟨by omega, h2, fun j hj hn => ?_, h4⟩
        rcases Nat.lt_succ_iff_lt_or_eq.mp hj with h9 | h9
        · exact h3 j h9 hn
        · rw [h9]
          have h8 : ¬ (gcr (gv X Y c b) (gv X Y c i) < 0 ∨ (gcr (gv X Y c b) (gv X Y c i) = 0 ∧ gdt (gv X Y c b) (gv X Y c b) < gdt (gv X Y c i) (gv X Y c i))) := fun z => hb ⟨hs, Or.inr z⟩
          unfold g_best
          rcases i_or 0 (gcr (gv X Y c b) (gv X Y c i)) with h7 | h7
          · exact Or.inl h7
          · rcases i_or (gcr (gv X Y c b) (gv X Y c i)) 0 with h6 | h6
            · exact absurd (Or.inl h6) h8
            · refine Or.inr ⟨by omega, ?_⟩
              rcases i_or (gdt (gv X Y c b) (gv X Y c b)) (gdt (gv X Y c i) (gv X Y c i)) with h5 | h5
              · exact absurd (Or.inr ⟨by omega, h5⟩) h8
              · exact h5
theorem g_loop {X Y : Nat → Int} {n c : Nat} (hH : g_H X Y n c) : ∀ i, i ≤ n → g_inv X Y c i (gca X Y c i) := by
  intro i
  induction i with
  | zero => intro _; exact Or.inl ⟨rfl, fun j hj => absurd hj (Nat.not_lt_zero _)⟩
  | succ i ih => intro hi; exact g_step hH (by omega) (ih (by omega))
/-- what comes next is at one place -/
theorem g_uni {X Y : Nat → Int} {n a b b2 : Nat} (h : gs_up X Y n a b) (h2 : gs_up X Y n a b2) (hb : b < n) (hb2 : b2 < n) : g_same X Y b b2 := by
  have k1 := h.2 b2 hb2
  have k2 := h2.2 b hb
  unfold gs_ok at k1 k2
  rw [gv_beh X Y a b2 b, g_sw (gv X Y a b) (gv X Y a b2)] at k2
  rw [gv_beh X Y a b b2] at k1
  have d1 := g_dc (gv X Y a b) (gv X Y a b2)
  have p1 := gv_pos h.1
  have p2 := gv_pos h2.1
  have z : gcr (gv X Y a b) (gv X Y a b2) = 0 := by rcases k1 with k1 | k1 <;> rcases k2 with k2 | k2 <;> omega
  have := g_eqv p1 p2 z (by rcases k1 with k1 | k1 <;> omega) (by rcases k2 with k2 | k2 <;> omega) (by rcases k1 with k1 | k1 <;> omega)
  exact ⟨by have := this.1; simp only at this; omega, by have := this.2; simp only at this; omega⟩
theorem g_next {X Y : Nat → Int} {n a : Nat} (hH : g_H X Y n a) (hk : ∃ k, k < n ∧ ¬ g_same X Y a k) : gca X Y a n < n ∧ gs_up X Y n a (gca X Y a n) ∧ ∀ j, j < gca X Y a n → ¬ gs_up X Y n a j := by
  have h := g_loop hH n (Nat.le_refl _)
  obtain ⟨d, hd⟩ := hH
  obtain ⟨k, hk1, hk2⟩ := hk
  rcases h with ⟨-, h2⟩ | ⟨h1, h2, h3, h4⟩
  · exact absurd (h2 k hk1) hk2
  · generalize gca X Y a n = b at h1 h2 h3 h4 ⊢
    have hu : gs_up X Y n a b := by
      refine ⟨h2, fun j hj => ?_⟩
      unfold gs_ok
      rw [gv_beh X Y a b j, g_dc (gv X Y a b) (gv X Y a j)]
      by_cases hs : g_same X Y a j
      · have e0 : gv X Y a j = (0, 0) := by unfold gv; rw [hs.1, hs.2, Int.sub_self, Int.sub_self]
        rw [e0]
        have e1 : gcr (gv X Y a b) (0, 0) = 0 := by unfold gcr; simp
        have e2 : gdt (gv X Y a b) (0, 0) = 0 := by unfold gdt; simp
        rw [e1, e2]
        have := g_sq (gv X Y a b)
        exact Or.inr ⟨rfl, Int.le_refl _, by omega⟩
      · rcases h3 j hj hs with h9 | ⟨h9, h8⟩
        · exact Or.inl h9
        · have d1 := g_dot (hd b h1 h2) (hd j hj hs) h9
          have d2 := g_far h9 h8
          exact Or.inr ⟨h9, by omega, by omega⟩
    exact ⟨h1, hu, fun j hj z => h4 j hj (g_uni hu z h1 (by omega))⟩
theorem g_all {X Y : Nat → Int} {n a : Nat} (hH : g_H X Y n a) (hk : ∀ k, k < n → g_same X Y a k) : gca X Y a n = a := by
  rcases g_loop hH n (Nat.le_refl _) with ⟨h, -⟩ | ⟨h1, h2, -⟩
  · exact h
  · exact absurd (hk _ h1) h2
theorem g_keep {X Y : Nat → Int} {n a b : Nat} (h : gs_up X Y n a b) : g_H X Y n b := by
  refine ⟨gv X Y a b, fun k hk hs => ?_⟩
  have e1 : gcr (gv X Y a b) (gv X Y a k) = gcr (gv X Y a b) (gv X Y b k) := by unfold gcr; grind
  have e2 : gdt (gv X Y b k) (gv X Y b a) = -gdt (gv X Y a b) (gv X Y b k) := by unfold gdt; grind
  rcases h.2 k hk with h1 | ⟨h1, -, h2⟩
  · exact Or.inl (by rw [← e1]; exact h1)
  · refine Or.inr ⟨by rw [← e1]; exact h1, ?_⟩
    rw [e2] at h2
    rcases i_or (gdt (gv X Y a b) (gv X Y b k)) 0 with h3 | h3
    · exact h3
    · exfalso
      have z1 : gdt (gv X Y a b) (gv X Y b k) = 0 := by omega
      have z2 : gcr (gv X Y a b) (gv X Y b k) = 0 := by rw [← e1]; exact h1
      have e3 := g_n2 (gv X Y a b) (gv X Y b k) (gv X Y b k)
      rw [z1, z2, Int.zero_mul, Int.add_zero] at e3
      have p1 := gv_pos h.1
      have p2 := gv_pos hs
      have := Int.mul_pos p1 p2
      omega
theorem g_inj {X Y : Nat → Int} {n a a2 b : Nat} (h : gs_up X Y n a b) (h2 : gs_up X Y n a2 b) (ha : a < n) (ha2 : a2 < n) : g_same X Y a a2 := by
  have e1 : gcr (gv X Y a b) (gv X Y a a2) = -gcr (gv X Y b a) (gv X Y b a2) := by unfold gcr; grind
  have e2 : gcr (gv X Y a2 b) (gv X Y a2 a) = gcr (gv X Y b a) (gv X Y b a2) := by unfold gcr; grind
  have e3 : gdt (gv X Y a a2) (gv X Y a b) = gdt (gv X Y b a) (gv X Y b a) - gdt (gv X Y b a) (gv X Y b a2) := by unfold gdt; grind
  have e4 : gdt (gv X Y a2 a) (gv X Y a2 b) = gdt (gv X Y b a2) (gv X Y b a2) - gdt (gv X Y b a) (gv X Y b a2) := by unfold gdt; grind
  have d1 := g_dc (gv X Y b a) (gv X Y b a2)
  have k1 := h.2 a2 ha2
  have k2 := h2.2 a ha
  unfold gs_ok at k1 k2
  rw [e1, e3] at k1
  rw [e2, e4] at k2
  have p1 := gv_pos (X := X) (Y := Y) (a := b) (k := a) (fun z => h.1 ⟨z.1.symm, z.2.symm⟩)
  have p2 := gv_pos (X := X) (Y := Y) (a := b) (k := a2) (fun z => h2.1 ⟨z.1.symm, z.2.symm⟩)
  have z : gcr (gv X Y b a) (gv X Y b a2) = 0 := by rcases k1 with k1 | k1 <;> rcases k2 with k2 | k2 <;> omega
  have := g_eqv p1 p2 z (by rcases k1 with k1 | k1 <;> omega) (by rcases k2 with k2 | k2 <;> omega) (by rcases k1 with k1 | k1 <;> omega)
  exact ⟨by have := this.1; simp only at this; omega, by have := this.2; simp only at this; omega⟩
