/-! STRINGBUILDER: the contracts over tb_at. -/
/-- a builder q, its row b of cap bytes, n characters t -/
def tb_at (G : gx_T) (L : List Nat) (f : Nat → va_E) (q b cap n : Nat) (t : Nat → Nat) : Prop := q ∈ L ∧ b ∈ L ∧ ∃ (ml : Int32) (g : Nat → Int32), f q = .inr (1, [.ref b, .int 0, .int ml, .int (nI n)]) ∧ f b = .inl (G.2.1 0, cap, .inl g) ∧ n ≤ cap ∧ 16 ≤ cap ∧ cap ≤ 400 ∧ (∀ j : Nat, j < cap → fits .byte (.int (g j)) = true) ∧ (∀ i : Nat, i < n → g i = nI (t i)) ∧ ∀ i : Nat, i < n → t i < 128
theorem tb_at.kept {G : gx_T} {L L' : List Nat} {f f' : Nat → va_E} {q b cap n : Nat} {t : Nat → Nat} (h : tb_at G L f q b cap n t) (hL : ∀ a ∈ L, a ∈ L') (hq : f' q = f q) (hb : f' b = f b) : tb_at G L' f' q b cap n t := by
  obtain ⟨h1, h2, ml, g, h3, h4, h5⟩ := h
  exact ⟨hL _ h1, hL _ h2, ml, g, by rw [hq]; exact h3, by rw [hb]; exact h4, h5⟩
theorem kS_length (l : Launch) (G : gx_T) (L : List Nat) (f : Nat → va_E) (q b cap n : Nat) (t : Nat → Nat) (h : tb_at G L f q b cap n t) : gx_M l G yJ4_length_8abf5 cJ4_length_8abf5 1 (some .int) ({ frames := 1, cells := 0, slots := 0, locals := 20 } : Room) [.ref q] (va_pl L f) (fun v u => v = some (.int (nI n)) ∧ u = va_pl L f) := by
  obtain ⟨h1, h2, ml, g, h3, h4, h5⟩ := h
  exact kJ4_length_8abf5 l G L f q b ml (nI n) h1 h3
