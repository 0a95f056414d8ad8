/-! GEOMETRY over whole numbers: vectors, half planes. -/
theorem i_or (a b : Int) : a < b ∨ b ≤ a := by omega
def gcr (u v : Int × Int) : Int := u.1 * v.2 - u.2 * v.1
def gdt (u v : Int × Int) : Int := u.1 * v.1 + u.2 * v.2
theorem g_pl (d u v w : Int × Int) : gcr d v * gcr u w = gcr d u * gcr v w + gcr d w * gcr u v := by unfold gcr; grind
theorem g_n1 (d a b : Int × Int) : gdt d d * gcr a b = gdt d a * gcr d b - gcr d a * gdt d b := by unfold gcr gdt; grind
theorem g_n2 (d a b : Int × Int) : gdt d d * gdt a b = gdt d a * gdt d b + gcr d a * gcr d b := by unfold gcr gdt; grind
theorem g_sw (u v : Int × Int) : gcr v u = -gcr u v := by unfold gcr; grind
theorem g_dc (u v : Int × Int) : gdt v u = gdt u v := by unfold gdt; grind
theorem g_sq (u : Int × Int) : 0 ≤ gdt u u := by
  unfold gdt
  have h1 : 0 ≤ u.1 * u.1 := by
    rcases Int.le_total 0 u.1 with h | h
    · exact Int.mul_nonneg h h
    · exact Int.mul_nonneg_of_nonpos_of_nonpos h h
  have h2 : 0 ≤ u.2 * u.2 := by
    rcases Int.le_total 0 u.2 with h | h
    · exact Int.mul_nonneg h h
    · exact Int.mul_nonneg_of_nonpos_of_nonpos h h
  omega
theorem i_sq (x : Int) : 0 ≤ x * x := by
  rcases Int.le_total 0 x with h | h
  · exact Int.mul_nonneg h h
  · exact Int.mul_nonneg_of_nonpos_of_nonpos h h
theorem i_sq0 {x : Int} (h : x * x = 0) : x = 0 := (Int.mul_eq_zero.mp h).elim id id
theorem g_sq0 {u : Int × Int} (h : gdt u u = 0) : u.1 = 0 ∧ u.2 = 0 := by
  unfold gdt at h
  have h1 := i_sq u.1
  have h2 := i_sq u.2
  exact ⟨i_sq0 (by omega), i_sq0 (by omega)⟩
theorem g_pos {u : Int × Int} (h : ¬ (u.1 = 0 ∧ u.2 = 0)) : 0 < gdt u u := by
  have h1 := g_sq u
  rcases Int.lt_or_eq_of_le h1 with h2 | h2
  · exact h2
  · exact absurd (g_sq0 h2.symm) h
/-- u lies in the half plane to the left of d, its edge behind d taken in -/
def g_hp (d u : Int × Int) : Prop := 0 < gcr d u ∨ (gcr d u = 0 ∧ gdt d u < 0)
theorem g_nn {d u : Int × Int} (h : g_hp d u) : 0 ≤ gcr d u := by
  rcases h with h | h <;> omega
theorem i_nn {a x : Int} (ha : 0 < a) (h : 0 ≤ a * x) : 0 ≤ x := by
  rcases i_or x 0 with h1 | h1
  · have := Int.mul_neg_of_pos_of_neg ha h1
    omega
  · exact h1
theorem g_d0 {d u : Int × Int} (h : gdt d u < 0) : 0 < gdt d d := by
  refine g_pos (fun z => ?_)
  unfold gdt at h
  rw [z.1, z.2, Int.zero_mul, Int.zero_mul] at h
  omega
/-- turning left is transitive in a half plane -/
theorem g_tr {d u v w : Int × Int} (hu : g_hp d u) (hv : g_hp d v) (hw : g_hp d w) (h1 : 0 ≤ gcr u v) (h2 : 0 ≤ gcr v w) : 0 ≤ gcr u w := by
  have nu := g_nn hu
  have nw := g_nn hw
  rcases hv with hv | ⟨hv0, hv1⟩
  · refine i_nn hv ?_
    rw [g_pl d u v w]
    exact Int.add_nonneg (Int.mul_nonneg nu h2) (Int.mul_nonneg nw h1)
  · have hN := g_d0 hv1
    have e1 := g_n1 d v w
    rw [hv0, Int.zero_mul, Int.sub_zero] at e1
    have e2 : 0 ≤ gdt d v * gcr d w := by rw [← e1]; exact Int.mul_nonneg (Int.le_of_lt hN) h2
    rcases hw with hw | ⟨hw0, hw1⟩
    · have := Int.mul_neg_of_neg_of_pos hv1 hw
      omega
    · refine i_nn hN ?_
      rw [g_n1 d u w, hw0, Int.mul_zero]
      have := Int.mul_nonneg nu (show 0 ≤ -gdt d w by omega)
      rw [Int.mul_neg] at this
      omega
theorem g_dot {d u v : Int × Int} (hu : g_hp d u) (hv : g_hp d v) (h : gcr u v = 0) : 0 < gdt u v := by
  have e1 := g_n1 d u v
  rw [h, Int.mul_zero] at e1
  have e2 := g_n2 d u v
  rcases hu with hu | ⟨hu0, hu1⟩
  · rcases hv with hv | ⟨hv0, hv1⟩
    · have hp := Int.mul_pos hu hv
      have e3 : gdt d u * gcr d v = gcr d u * gdt d v := by omega
      have e4 : (gcr d u * gcr d v) * (gdt d u * gdt d v) = (gdt d u * gcr d v) * (gcr d u * gdt d v) := by grind
      rw [e3] at e4
      have e5 : 0 ≤ gdt d u * gdt d v := i_nn hp (by rw [e4]; exact i_sq _)
      have hN : 0 < gdt d d := by
        refine g_pos (fun z => ?_)
        unfold gcr at hu
        rw [z.1, z.2, Int.zero_mul, Int.zero_mul] at hu
        omega
      rcases i_or 0 (gdt u v) with h9 | h9
      · exact h9
      · have := Int.mul_nonneg (Int.le_of_lt hN) (show 0 ≤ -gdt u v by omega)
        rw [Int.mul_neg] at this
        omega
    · have := Int.mul_neg_of_pos_of_neg hu hv1
      rw [hv0, Int.mul_zero] at e1
      omega
  · rw [hu0, Int.zero_mul] at e1
    have hv0 : gcr d v = 0 := by
      rcases Int.mul_eq_zero.mp (show gdt d u * gcr d v = 0 by omega) with h9 | h9
      · omega
      · exact h9
    have hv1 : gdt d v < 0 := by
      rcases hv with hv | hv
      · omega
      · exact hv.2
    have hN := g_d0 hu1
    rw [hu0, Int.zero_mul, Int.add_zero] at e2
    have hp := Int.mul_pos_of_neg_of_neg hu1 hv1
    rcases i_or 0 (gdt u v) with h9 | h9
    · exact h9
    · have := Int.mul_nonneg (Int.le_of_lt hN) (show 0 ≤ -gdt u v by omega)
      rw [Int.mul_neg] at this
      omega
theorem g_lag {u v : Int × Int} (h : gcr u v = 0) : gdt u u * gdt v v = gdt u v * gdt u v := by
  have := g_n2 u v v
  rw [h, Int.zero_mul, Int.add_zero] at this
  exact this
theorem i_lt_sq {a b : Int} (ha : 0 ≤ a) (h : a < b) : a * a < b * b := by
  have h1 := Int.mul_le_mul (Int.le_of_lt h) (Int.le_refl a) ha (by omega : 0 ≤ b)
  have h2 := Int.mul_lt_mul_of_pos_left h (show 0 < b by omega)
  omega
/-- on one line, no farther: the product of both is no more than the square of the farther one -/
theorem g_far {u v : Int × Int} (h : gcr u v = 0) (hs : gdt v v ≤ gdt u u) : gdt u v ≤ gdt u u := by
  have e := g_lag h
  have n1 := g_sq u
  rcases i_or (gdt u u) (gdt u v) with h9 | h9
  · have h1 := i_lt_sq n1 h9
    have h2 := Int.mul_le_mul_of_nonneg_left hs n1
    omega
  · exact h9
theorem g_eqv {u v : Int × Int} (hu : 0 < gdt u u) (hv : 0 < gdt v v) (h : gcr u v = 0) (h1 : gdt u v ≤ gdt u u) (h2 : gdt u v ≤ gdt v v) (h0 : 0 ≤ gdt u v) : u.1 = v.1 ∧ u.2 = v.2 := by
  have e := g_lag h
  have e2 : gdt (u.1 - v.1, u.2 - v.2) (u.1 - v.1, u.2 - v.2) = gdt u u + gdt v v - 2 * gdt u v := by unfold gdt; grind
  have e3 : gdt u u = gdt u v := by
    rcases i_or (gdt u v) (gdt u u) with h3 | h3
    · exfalso
      have h5 := Int.mul_lt_mul_of_pos_right h3 hv
      have h6 := Int.mul_le_mul_of_nonneg_left h2 h0
      omega
    · omega
  have e4 : gdt v v = gdt u v := by
    rcases i_or (gdt u v) (gdt v v) with h3 | h3
    · exfalso
      have h5 := Int.mul_lt_mul_of_pos_left h3 hu
      have h6 := Int.mul_le_mul_of_nonneg_right h1 h0
      omega
    · omega
  have h9 := g_sq0 (show gdt (u.1 - v.1, u.2 - v.2) (u.1 - v.1, u.2 - v.2) = 0 by omega)
  exact ⟨by have := h9.1; simp only at this; omega, by have := h9.2; simp only at this; omega⟩
