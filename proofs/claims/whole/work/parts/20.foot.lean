/-! LEAVES: Foot, Side, Load, Trial. -/
set_option maxHeartbeats 4000000 in
set_option maxRecDepth 100000 in
theorem kX0_init (l : Launch) (G : gx_T) (L : List Nat) (f : Nat → va_E) (h : Nat) (n : Int32) (x y : Int64) (hh : h ∈ L) (fh : f h = .inr (5, [.int 0, .long 0, .long 0])) : gx_M l G yX0_init cX0_init 6 none ({ frames := 1, cells := 0, slots := 0, locals := 20 } : Room) [.ref h, .int n, .long x, .long y] (va_pl L f) (fun v u => v = none ∧ u = va_pl L (va_up f h (.inr (5, [.int n, .long x, .long y])))) := by
  refine gx_start (by decide +kernel) (Nat.le_of_ble_eq_true rfl) ?_
  intro p e s m args below meth c A ls C hr hnm hW hl
  have gX := C.x
  have gB := C.b
  have hl : lv_has ls 6 [(0, .ref h), (1, .int n), (2, .long x), (4, .long y)] := hl
  refine lv_aload_n gX gB dX0_init_0 rfl (lv_at hl 0 rfl) ?_
  refine gx_obj C (tq_3 236 (by decide +kernel) rfl) hl.1 dX0_init_1 (Nat.le_of_ble_eq_true rfl) (Nat.le_of_ble_eq_true rfl) ?_
  refine lv_aload_n gX gB dX0_init_4 rfl (lv_at hl 0 rfl) ?_
  refine lv_iload_n gX gB dX0_init_5 rfl (lv_at hl 1 rfl) ?_
  refine gx_put C hW clX0 fX0_7 hh fh (Or.inr ⟨hnm, rfl⟩) rfl rfl (Nat.le_of_ble_eq_true rfl) dX0_init_6 (fun H locs hW => ?_)
  obtain ⟨f1, hf1⟩ : ∃ z, z = va_up f h (.inr (5, [.int n, .long 0, .long 0])) := ⟨_, rfl⟩
  have hW : gx_W G A s (va_pl L f1) H locs := by rw [hf1]; exact hW
  have f1_h : f1 h = .inr (5, [.int n, .long 0, .long 0]) := by rw [hf1]; exact va_up_self _ _ _
  refine lv_aload_n gX gB dX0_init_9 rfl (lv_at hl 0 rfl) ?_
  refine lv_lload_n gX gB dX0_init_10 rfl (lv_at hl 2 rfl) ?_
  refine gx_put C hW clX0 fX0_13 hh f1_h (Or.inr ⟨hnm, rfl⟩) rfl rfl (Nat.le_of_ble_eq_true rfl) dX0_init_11 (fun H locs hW => ?_)
  obtain ⟨f2, hf2⟩ : ∃ z, z = va_up f1 h (.inr (5, [.int n, .long x, .long 0])) := ⟨_, rfl⟩
  have hW : gx_W G A s (va_pl L f2) H locs := by rw [hf2]; exact hW
  have f2_h : f2 h = .inr (5, [.int n, .long x, .long 0]) := by rw [hf2]; exact va_up_self _ _ _
  refine lv_aload_n gX gB dX0_init_14 rfl (lv_at hl 0 rfl) ?_
  refine lv_lload gX gB dX0_init_15 (lv_at hl 3 rfl) ?_
  refine gx_put C hW clX0 fX0_17 hh f2_h (Or.inr ⟨hnm, rfl⟩) rfl rfl (Nat.le_of_ble_eq_true rfl) dX0_init_17 (fun H locs hW => ?_)
  obtain ⟨f3, hf3⟩ : ∃ z, z = va_up f2 h (.inr (5, [.int n, .long x, .long y])) := ⟨_, rfl⟩
  have hW : gx_W G A s (va_pl L f3) H locs := by rw [hf3]; exact hW
  have f3_h : f3 h = .inr (5, [.int n, .long x, .long y]) := by rw [hf3]; exact va_up_self _ _ _
  exact gx_vret C hr hW (⟨rfl, by rw [hf3, hf2, hf1]; simp only [bx_uu]⟩) (Nat.le_of_ble_eq_true rfl) (Nat.le_of_ble_eq_true rfl) dX0_init_20
set_option maxHeartbeats 4000000 in
set_option maxRecDepth 100000 in
theorem kX0_turn (l : Launch) (G : gx_T) (L : List Nat) (f : Nat → va_E) (h a b : Nat) (n na nb : Int32) (x y xa ya xb yb : Int64) (hh : h ∈ L) (fh : f h = .inr (5, [.int n, .long x, .long y])) (ha : a ∈ L) (fa : f a = .inr (5, [.int na, .long xa, .long ya])) (hb : b ∈ L) (fb : f b = .inr (5, [.int nb, .long xb, .long yb])) : gx_M l G yX0_turn cX0_turn 3 (some .long) ({ frames := 0, cells := 0, slots := 0, locals := 0 } : Room) [.ref h, .ref a, .ref b] (va_pl L f) (fun v u => v = some (.long ((xa - x) * (yb - y) - (ya - y) * (xb - x))) ∧ u = va_pl L f) := by
  refine gx_start (by decide +kernel) (Nat.le_of_ble_eq_true rfl) ?_
  intro p e s m args below meth c A ls C hr hnm hW hl
  have gX := C.x
  have gB := C.b
  have hl : lv_has ls 3 [(0, .ref h), (1, .ref a), (2, .ref b)] := hl
  refine lv_aload_n gX gB dX0_turn_0 rfl (lv_at hl 1 rfl) ?_
  refine gx_get C hW fX0_13 (gx_pl ha fa) rfl dX0_turn_1 ?_
  refine lv_aload_n gX gB dX0_turn_4 rfl (lv_at hl 0 rfl) ?_
  refine gx_get C hW fX0_13 (gx_pl hh fh) rfl dX0_turn_5 ?_
  refine lv_lsub gX gB dX0_turn_8 ?_
  refine lv_aload_n gX gB dX0_turn_9 rfl (lv_at hl 2 rfl) ?_
  refine gx_get C hW fX0_17 (gx_pl hb fb) rfl dX0_turn_10 ?_
  refine lv_aload_n gX gB dX0_turn_13 rfl (lv_at hl 0 rfl) ?_
  refine gx_get C hW fX0_17 (gx_pl hh fh) rfl dX0_turn_14 ?_
  refine lv_lsub gX gB dX0_turn_17 ?_
  refine lv_lmul gX gB dX0_turn_18 ?_
  refine lv_aload_n gX gB dX0_turn_19 rfl (lv_at hl 1 rfl) ?_
  refine gx_get C hW fX0_17 (gx_pl ha fa) rfl dX0_turn_20 ?_
  refine lv_aload_n gX gB dX0_turn_23 rfl (lv_at hl 0 rfl) ?_
  refine gx_get C hW fX0_17 (gx_pl hh fh) rfl dX0_turn_24 ?_
  refine lv_lsub gX gB dX0_turn_27 ?_
  refine lv_aload_n gX gB dX0_turn_28 rfl (lv_at hl 2 rfl) ?_
  refine gx_get C hW fX0_13 (gx_pl hb fb) rfl dX0_turn_29 ?_
  refine lv_aload_n gX gB dX0_turn_32 rfl (lv_at hl 0 rfl) ?_
  refine gx_get C hW fX0_13 (gx_pl hh fh) rfl dX0_turn_33 ?_
  refine lv_lsub gX gB dX0_turn_36 ?_
  refine lv_lmul gX gB dX0_turn_37 ?_
  refine lv_lsub gX gB dX0_turn_38 ?_
  exact gx_lret C hr hW (⟨rfl, rfl⟩) (Nat.le_of_ble_eq_true rfl) (Nat.le_of_ble_eq_true rfl) dX0_turn_39
set_option maxHeartbeats 4000000 in
set_option maxRecDepth 100000 in
theorem kX0_squareTo (l : Launch) (G : gx_T) (L : List Nat) (f : Nat → va_E) (h a : Nat) (n na : Int32) (x y xa ya : Int64) (hh : h ∈ L) (fh : f h = .inr (5, [.int n, .long x, .long y])) (ha : a ∈ L) (fa : f a = .inr (5, [.int na, .long xa, .long ya])) : gx_M l G yX0_squareTo cX0_squareTo 2 (some .long) ({ frames := 0, cells := 0, slots := 0, locals := 0 } : Room) [.ref h, .ref a] (va_pl L f) (fun v u => v = some (.long ((xa - x) * (xa - x) + (ya - y) * (ya - y))) ∧ u = va_pl L f) := by
  refine gx_start (by decide +kernel) (Nat.le_of_ble_eq_true rfl) ?_
  intro p e s m args below meth c A ls C hr hnm hW hl
  have gX := C.x
  have gB := C.b
  have hl : lv_has ls 2 [(0, .ref h), (1, .ref a)] := hl
  refine lv_aload_n gX gB dX0_squareTo_0 rfl (lv_at hl 1 rfl) ?_
  refine gx_get C hW fX0_13 (gx_pl ha fa) rfl dX0_squareTo_1 ?_
  refine lv_aload_n gX gB dX0_squareTo_4 rfl (lv_at hl 0 rfl) ?_
  refine gx_get C hW fX0_13 (gx_pl hh fh) rfl dX0_squareTo_5 ?_
  refine lv_lsub gX gB dX0_squareTo_8 ?_
  refine lv_aload_n gX gB dX0_squareTo_9 rfl (lv_at hl 1 rfl) ?_
  refine gx_get C hW fX0_13 (gx_pl ha fa) rfl dX0_squareTo_10 ?_
  refine lv_aload_n gX gB dX0_squareTo_13 rfl (lv_at hl 0 rfl) ?_
  refine gx_get C hW fX0_13 (gx_pl hh fh) rfl dX0_squareTo_14 ?_
  refine lv_lsub gX gB dX0_squareTo_17 ?_
  refine lv_lmul gX gB dX0_squareTo_18 ?_
  refine lv_aload_n gX gB dX0_squareTo_19 rfl (lv_at hl 1 rfl) ?_
  refine gx_get C hW fX0_17 (gx_pl ha fa) rfl dX0_squareTo_20 ?_
  refine lv_aload_n gX gB dX0_squareTo_23 rfl (lv_at hl 0 rfl) ?_
  refine gx_get C hW fX0_17 (gx_pl hh fh) rfl dX0_squareTo_24 ?_
  refine lv_lsub gX gB dX0_squareTo_27 ?_
  refine lv_aload_n gX gB dX0_squareTo_28 rfl (lv_at hl 1 rfl) ?_
  refine gx_get C hW fX0_17 (gx_pl ha fa) rfl dX0_squareTo_29 ?_
  refine lv_aload_n gX gB dX0_squareTo_32 rfl (lv_at hl 0 rfl) ?_
  refine gx_get C hW fX0_17 (gx_pl hh fh) rfl dX0_squareTo_33 ?_
  refine lv_lsub gX gB dX0_squareTo_36 ?_
  refine lv_lmul gX gB dX0_squareTo_37 ?_
  refine lv_ladd gX gB dX0_squareTo_38 ?_
  exact gx_lret C hr hW (⟨rfl, rfl⟩) (Nat.le_of_ble_eq_true rfl) (Nat.le_of_ble_eq_true rfl) dX0_squareTo_39
set_option maxHeartbeats 4000000 in
set_option maxRecDepth 100000 in
theorem kX0_isAt (l : Launch) (G : gx_T) (L : List Nat) (f : Nat → va_E) (h a : Nat) (n na : Int32) (x y xa ya : Int64) (hh : h ∈ L) (fh : f h = .inr (5, [.int n, .long x, .long y])) (ha : a ∈ L) (fa : f a = .inr (5, [.int na, .long xa, .long ya])) : gx_M l G yX0_isAt cX0_isAt 2 (some .boolean) ({ frames := 0, cells := 0, slots := 0, locals := 0 } : Room) [.ref h, .ref a] (va_pl L f) (fun v u => v = some (.int (gx_b (x = xa ∧ y = ya))) ∧ u = va_pl L f) := by
  refine gx_start (by decide +kernel) (Nat.le_of_ble_eq_true rfl) ?_
  intro p e s m args below meth c A ls C hr hnm hW hl
  have gX := C.x
  have gB := C.b
  have hl : lv_has ls 2 [(0, .ref h), (1, .ref a)] := hl
  refine lv_aload_n gX gB dX0_isAt_0 rfl (lv_at hl 0 rfl) ?_
  refine gx_get C hW fX0_13 (gx_pl hh fh) rfl dX0_isAt_1 ?_
  refine lv_aload_n gX gB dX0_isAt_4 rfl (lv_at hl 1 rfl) ?_
  refine gx_get C hW fX0_13 (gx_pl ha fa) rfl dX0_isAt_5 ?_
  refine gx_lc_ne (tgt := 28) C dX0_isAt_8 dX0_isAt_9 (by decide) (fun c8 => ?_) (fun c8 => ?_)
  · refine lv_iconst (v := 0) gX gB dX0_isAt_28 (by decide) ?_
    exact gx_zret C hr (by decide) hW (⟨by simp [gx_b, c8], rfl⟩) (Nat.le_of_ble_eq_true rfl) (Nat.le_of_ble_eq_true rfl) dX0_isAt_29
  · refine lv_aload_n gX gB dX0_isAt_12 rfl (lv_at hl 0 rfl) ?_
    refine gx_get C hW fX0_17 (gx_pl hh fh) rfl dX0_isAt_13 ?_
    refine lv_aload_n gX gB dX0_isAt_16 rfl (lv_at hl 1 rfl) ?_
    refine gx_get C hW fX0_17 (gx_pl ha fa) rfl dX0_isAt_17 ?_
    refine gx_lc_ne (tgt := 28) C dX0_isAt_20 dX0_isAt_21 (by decide) (fun c20 => ?_) (fun c20 => ?_)
    · refine lv_iconst (v := 0) gX gB dX0_isAt_28 (by decide) ?_
      exact gx_zret C hr (by decide) hW (⟨by simp [gx_b, c8, c20], rfl⟩) (Nat.le_of_ble_eq_true rfl) (Nat.le_of_ble_eq_true rfl) dX0_isAt_29
    · refine lv_iconst (v := 1) gX gB dX0_isAt_24 (by decide) ?_
      refine lv_goto (tgt := 29) gX gB dX0_isAt_25 (by decide) ?_
      exact gx_zret C hr (by decide) hW (⟨by simp [gx_b, c8, c20], rfl⟩) (Nat.le_of_ble_eq_true rfl) (Nat.le_of_ble_eq_true rfl) dX0_isAt_29
set_option maxHeartbeats 4000000 in
set_option maxRecDepth 100000 in
theorem kX0_isBefore (l : Launch) (G : gx_T) (L : List Nat) (f : Nat → va_E) (h a : Nat) (n na : Int32) (x y xa ya : Int64) (hh : h ∈ L) (fh : f h = .inr (5, [.int n, .long x, .long y])) (ha : a ∈ L) (fa : f a = .inr (5, [.int na, .long xa, .long ya])) : gx_M l G yX0_isBefore cX0_isBefore 2 (some .boolean) ({ frames := 0, cells := 0, slots := 0, locals := 0 } : Room) [.ref h, .ref a] (va_pl L f) (fun v u => v = some (.int (if x = xa then (if y = ya then gx_b (n < na) else gx_b (y < ya)) else gx_b (x < xa))) ∧ u = va_pl L f) := by
  refine gx_start (by decide +kernel) (Nat.le_of_ble_eq_true rfl) ?_
  intro p e s m args below meth c A ls C hr hnm hW hl
  have gX := C.x
  have gB := C.b
  have hl : lv_has ls 2 [(0, .ref h), (1, .ref a)] := hl
  refine lv_aload_n gX gB dX0_isBefore_0 rfl (lv_at hl 0 rfl) ?_
  refine gx_get C hW fX0_13 (gx_pl hh fh) rfl dX0_isBefore_1 ?_
  refine lv_aload_n gX gB dX0_isBefore_4 rfl (lv_at hl 1 rfl) ?_
  refine gx_get C hW fX0_13 (gx_pl ha fa) rfl dX0_isBefore_5 ?_
  refine gx_lc_eq (tgt := 30) C dX0_isBefore_8 dX0_isBefore_9 (by decide) (fun c8 => ?_) (fun c8 => ?_)
  · refine lv_aload_n gX gB dX0_isBefore_30 rfl (lv_at hl 0 rfl) ?_
    refine gx_get C hW fX0_17 (gx_pl hh fh) rfl dX0_isBefore_31 ?_
    refine lv_aload_n gX gB dX0_isBefore_34 rfl (lv_at hl 1 rfl) ?_
    refine gx_get C hW fX0_17 (gx_pl ha fa) rfl dX0_isBefore_35 ?_
    refine gx_lc_eq (tgt := 62) C dX0_isBefore_38 dX0_isBefore_39 (by decide) (fun c38 => ?_) (fun c38 => ?_)
    · refine lv_aload_n gX gB dX0_isBefore_62 rfl (lv_at hl 0 rfl) ?_
      refine gx_get C hW fX0_7 (gx_pl hh fh) rfl dX0_isBefore_63 ?_
      refine lv_aload_n gX gB dX0_isBefore_66 rfl (lv_at hl 1 rfl) ?_
      refine gx_get C hW fX0_7 (gx_pl ha fa) rfl dX0_isBefore_67 ?_
      refine lv_icmp_ge (tgt := 77) gX gB dX0_isBefore_70 (by decide) (fun c70 => ?_) (fun c70 => ?_)
      · refine lv_iconst (v := 0) gX gB dX0_isBefore_77 (by decide) ?_
        exact gx_zret C hr (by decide) hW (⟨by simp [gx_b, c8, c38, c70], rfl⟩) (Nat.le_of_ble_eq_true rfl) (Nat.le_of_ble_eq_true rfl) dX0_isBefore_78
      · refine lv_iconst (v := 1) gX gB dX0_isBefore_73 (by decide) ?_
        refine lv_goto (tgt := 78) gX gB dX0_isBefore_74 (by decide) ?_
        exact gx_zret C hr (by decide) hW (⟨by simp [gx_b, c8, c38, c70], rfl⟩) (Nat.le_of_ble_eq_true rfl) (Nat.le_of_ble_eq_true rfl) dX0_isBefore_78
    · refine lv_aload_n gX gB dX0_isBefore_42 rfl (lv_at hl 0 rfl) ?_
      refine gx_get C hW fX0_17 (gx_pl hh fh) rfl dX0_isBefore_43 ?_
      refine lv_aload_n gX gB dX0_isBefore_46 rfl (lv_at hl 1 rfl) ?_
      refine gx_get C hW fX0_17 (gx_pl ha fa) rfl dX0_isBefore_47 ?_
      refine gx_lc_ge (tgt := 58) C dX0_isBefore_50 dX0_isBefore_51 (by decide) (fun c50 => ?_) (fun c50 => ?_)
      · refine lv_iconst (v := 0) gX gB dX0_isBefore_58 (by decide) ?_
        refine lv_goto (tgt := 78) gX gB dX0_isBefore_59 (by decide) ?_
        exact gx_zret C hr (by decide) hW (⟨by simp [gx_b, c8, c38, c50], rfl⟩) (Nat.le_of_ble_eq_true rfl) (Nat.le_of_ble_eq_true rfl) dX0_isBefore_78
      · refine lv_iconst (v := 1) gX gB dX0_isBefore_54 (by decide) ?_
        refine lv_goto (tgt := 78) gX gB dX0_isBefore_55 (by decide) ?_
        exact gx_zret C hr (by decide) hW (⟨by simp [gx_b, c8, c38, c50], rfl⟩) (Nat.le_of_ble_eq_true rfl) (Nat.le_of_ble_eq_true rfl) dX0_isBefore_78
  · refine lv_aload_n gX gB dX0_isBefore_12 rfl (lv_at hl 0 rfl) ?_
    refine gx_get C hW fX0_13 (gx_pl hh fh) rfl dX0_isBefore_13 ?_
    refine lv_aload_n gX gB dX0_isBefore_16 rfl (lv_at hl 1 rfl) ?_
    refine gx_get C hW fX0_13 (gx_pl ha fa) rfl dX0_isBefore_17 ?_
    refine gx_lc_ge (tgt := 28) C dX0_isBefore_20 dX0_isBefore_21 (by decide) (fun c20 => ?_) (fun c20 => ?_)
    · refine lv_iconst (v := 0) gX gB dX0_isBefore_28 (by decide) ?_
      exact gx_zret C hr (by decide) hW (⟨by simp [gx_b, c8, c20], rfl⟩) (Nat.le_of_ble_eq_true rfl) (Nat.le_of_ble_eq_true rfl) dX0_isBefore_29
    · refine lv_iconst (v := 1) gX gB dX0_isBefore_24 (by decide) ?_
      refine lv_goto (tgt := 29) gX gB dX0_isBefore_25 (by decide) ?_
      exact gx_zret C hr (by decide) hW (⟨by simp [gx_b, c8, c20], rfl⟩) (Nat.le_of_ble_eq_true rfl) (Nat.le_of_ble_eq_true rfl) dX0_isBefore_29
/-- whether b is seen more to the right from h than a is -/
def ft_more (x y xa ya xb yb : Int64) : Prop := ¬ (x = xb ∧ y = yb) ∧ ((x = xa ∧ y = ya) ∨ (xa - x) * (yb - y) - (ya - y) * (xb - x) < 0 ∨ ((xa - x) * (yb - y) - (ya - y) * (xb - x) = 0 ∧ (xa - x) * (xa - x) + (ya - y) * (ya - y) < (xb - x) * (xb - x) + (yb - y) * (yb - y)))
theorem gx_b0 {b : Prop} [Decidable b] : gx_b b = 0 ↔ ¬ b := by
  unfold gx_b
  by_cases h : b <;> simp [h]
set_option maxHeartbeats 4000000 in
set_option maxRecDepth 100000 in
theorem kX0_seesMoreRightOf (l : Launch) (G : gx_T) (L : List Nat) (f : Nat → va_E) (h a b : Nat) (n na nb : Int32) (x y xa ya xb yb : Int64) (hh : h ∈ L) (fh : f h = .inr (5, [.int n, .long x, .long y])) (ha : a ∈ L) (fa : f a = .inr (5, [.int na, .long xa, .long ya])) (hb : b ∈ L) (fb : f b = .inr (5, [.int nb, .long xb, .long yb])) : gx_M l G yX0_seesMoreRightOf cX0_seesMoreRightOf 5 (some .boolean) ({ frames := 1, cells := 0, slots := 0, locals := 22 } : Room) [.ref h, .ref a, .ref b] (va_pl L f) (fun v u => v = some (.int (@gx_b (ft_more x y xa ya xb yb) (Classical.propDecidable _))) ∧ u = va_pl L f) := by
  refine gx_start (by decide +kernel) (Nat.le_of_ble_eq_true rfl) ?_
  intro p e s m args below meth c A ls C hr hnm hW hl
  have gX := C.x
  have gB := C.b
  have hl : lv_has ls 5 [(0, .ref h), (1, .ref a), (2, .ref b)] := hl
  refine lv_aload_n gX gB dX0_seesMoreRightOf_0 rfl (lv_at hl 0 rfl) ?_
  refine lv_aload_n gX gB dX0_seesMoreRightOf_1 rfl (lv_at hl 2 rfl) ?_
  refine gx_callV (wr := []) (rest := []) C hW sX0_20 (kX0_isAt l G L f h b n nb x y xb yb hh fh hb fb) (gx_pl hh fh) rfl rfl ⟨(Nat.le_of_ble_eq_true rfl), (Nat.le_of_ble_eq_true rfl)⟩ hl.1 rfl (Nat.le_of_ble_eq_true rfl) dX0_seesMoreRightOf_2 ⟨(Nat.le_of_ble_eq_true rfl), (Nat.le_of_ble_eq_true rfl)⟩ (fun v9 u9 H locs hp hW => ?_)
  obtain ⟨rfl, rfl⟩ := hp
  have hW : gx_W G A s (va_pl L f) H locs := hW
  refine W.eq (g2 := F0 m 5 ls [.int (gx_b (x = xb ∧ y = yb))]) rfl ?_
  refine W.widen (k := 0) (n := 0) (Nat.le_of_ble_eq_true rfl) (Nat.le_of_ble_eq_true rfl) ?_
  refine lv_if_eq (tgt := 10) gX gB dX0_seesMoreRightOf_5 (by decide) (fun c5 => ?_) (fun c5 => ?_)
  · refine lv_aload_n gX gB dX0_seesMoreRightOf_10 rfl (lv_at hl 0 rfl) ?_
    refine lv_aload_n gX gB dX0_seesMoreRightOf_11 rfl (lv_at hl 1 rfl) ?_
    refine gx_callV (wr := []) (rest := []) C hW sX0_20 (kX0_isAt l G L f h a n na x y xa ya hh fh ha fa) (gx_pl hh fh) rfl rfl ⟨(Nat.le_of_ble_eq_true rfl), (Nat.le_of_ble_eq_true rfl)⟩ hl.1 rfl (Nat.le_of_ble_eq_true rfl) dX0_seesMoreRightOf_12 ⟨(Nat.le_of_ble_eq_true rfl), (Nat.le_of_ble_eq_true rfl)⟩ (fun v9 u9 H locs hp hW => ?_)
    obtain ⟨rfl, rfl⟩ := hp
    have hW : gx_W G A s (va_pl L f) H locs := hW
    refine W.eq (g2 := F0 m 15 ls [.int (gx_b (x = xa ∧ y = ya))]) rfl ?_
    refine W.widen (k := 0) (n := 0) (Nat.le_of_ble_eq_true rfl) (Nat.le_of_ble_eq_true rfl) ?_
    refine lv_if_eq (tgt := 20) gX gB dX0_seesMoreRightOf_15 (by decide) (fun c15 => ?_) (fun c15 => ?_)
    · refine lv_aload_n gX gB dX0_seesMoreRightOf_20 rfl (lv_at hl 0 rfl) ?_
      refine lv_aload_n gX gB dX0_seesMoreRightOf_21 rfl (lv_at hl 1 rfl) ?_
      refine lv_aload_n gX gB dX0_seesMoreRightOf_22 rfl (lv_at hl 2 rfl) ?_
      refine gx_callV (wr := []) (rest := []) C hW sX0_24 (kX0_turn l G L f h a b n na nb x y xa ya xb yb hh fh ha fa hb fb) (gx_pl hh fh) rfl rfl ⟨(Nat.le_of_ble_eq_true rfl), (Nat.le_of_ble_eq_true rfl)⟩ hl.1 rfl (Nat.le_of_ble_eq_true rfl) dX0_seesMoreRightOf_23 ⟨(Nat.le_of_ble_eq_true rfl), (Nat.le_of_ble_eq_true rfl)⟩ (fun v9 u9 H locs hp hW => ?_)
      obtain ⟨rfl, rfl⟩ := hp
      have hW : gx_W G A s (va_pl L f) H locs := hW
      refine W.eq (g2 := F0 m 26 ls [.long ((xa - x) * (yb - y) - (ya - y) * (xb - x))]) rfl ?_
      refine W.widen (k := 0) (n := 0) (Nat.le_of_ble_eq_true rfl) (Nat.le_of_ble_eq_true rfl) ?_
      refine lv_lstore_n (lv' := [(3, .long ((xa - x) * (yb - y) - (ya - y) * (xb - x))), (0, .ref h), (1, .ref a), (2, .ref b)]) gX gB dX0_seesMoreRightOf_26 rfl hl (by decide) rfl (fun ls hl => ?_)
      refine lv_lload_n gX gB dX0_seesMoreRightOf_27 rfl (lv_at hl 0 rfl) ?_
      refine lv_lconst (v := 0) gX gB dX0_seesMoreRightOf_28 (by decide) ?_
      refine gx_lc_lt (tgt := 53) C dX0_seesMoreRightOf_29 dX0_seesMoreRightOf_30 (by decide) (fun c29 => ?_) (fun c29 => ?_)
      · refine lv_iconst (v := 1) gX gB dX0_seesMoreRightOf_53 (by decide) ?_
        refine lv_goto (tgt := 58) gX gB dX0_seesMoreRightOf_54 (by decide) ?_
        exact gx_zret C hr (by decide) hW (⟨congrArg (fun z => some (Value.int z)) (by
                  unfold ft_more
                  simp_all [gx_b0, gx_b]), rfl⟩) (Nat.le_of_ble_eq_true rfl) (Nat.le_of_ble_eq_true rfl) dX0_seesMoreRightOf_58
      · refine lv_lload_n gX gB dX0_seesMoreRightOf_33 rfl (lv_at hl 0 rfl) ?_
        refine lv_lconst (v := 0) gX gB dX0_seesMoreRightOf_34 (by decide) ?_
        refine gx_lc_ne (tgt := 57) C dX0_seesMoreRightOf_35 dX0_seesMoreRightOf_36 (by decide) (fun c35 => ?_) (fun c35 => ?_)
        · refine lv_iconst (v := 0) gX gB dX0_seesMoreRightOf_57 (by decide) ?_
          exact gx_zret C hr (by decide) hW (⟨congrArg (fun z => some (Value.int z)) (by
                      unfold ft_more
                      simp_all [gx_b0, gx_b]), rfl⟩) (Nat.le_of_ble_eq_true rfl) (Nat.le_of_ble_eq_true rfl) dX0_seesMoreRightOf_58
        · refine lv_aload_n gX gB dX0_seesMoreRightOf_39 rfl (lv_at hl 1 rfl) ?_
          refine lv_aload_n gX gB dX0_seesMoreRightOf_40 rfl (lv_at hl 3 rfl) ?_
          refine gx_callV (wr := []) (rest := []) C hW sX0_28 (kX0_squareTo l G L f h b n nb x y xb yb hh fh hb fb) (gx_pl hh fh) rfl rfl ⟨(Nat.le_of_ble_eq_true rfl), (Nat.le_of_ble_eq_true rfl)⟩ hl.1 rfl (Nat.le_of_ble_eq_true rfl) dX0_seesMoreRightOf_41 ⟨(Nat.le_of_ble_eq_true rfl), (Nat.le_of_ble_eq_true rfl)⟩ (fun v9 u9 H locs hp hW => ?_)
          obtain ⟨rfl, rfl⟩ := hp
          have hW : gx_W G A s (va_pl L f) H locs := hW
          refine W.eq (g2 := F0 m 44 ls [.long ((xb - x) * (xb - x) + (yb - y) * (yb - y))]) rfl ?_
          refine W.widen (k := 0) (n := 0) (Nat.le_of_ble_eq_true rfl) (Nat.le_of_ble_eq_true rfl) ?_
          refine lv_aload_n gX gB dX0_seesMoreRightOf_44 rfl (lv_at hl 1 rfl) ?_
          refine lv_aload_n gX gB dX0_seesMoreRightOf_45 rfl (lv_at hl 2 rfl) ?_
          refine gx_callV (wr := []) (rest := [.long ((xb - x) * (xb - x) + (yb - y) * (yb - y))]) C hW sX0_28 (kX0_squareTo l G L f h a n na x y xa ya hh fh ha fa) (gx_pl hh fh) rfl rfl ⟨(Nat.le_of_ble_eq_true rfl), (Nat.le_of_ble_eq_true rfl)⟩ hl.1 rfl (Nat.le_of_ble_eq_true rfl) dX0_seesMoreRightOf_46 ⟨(Nat.le_of_ble_eq_true rfl), (Nat.le_of_ble_eq_true rfl)⟩ (fun v9 u9 H locs hp hW => ?_)
          obtain ⟨rfl, rfl⟩ := hp
          have hW : gx_W G A s (va_pl L f) H locs := hW
          refine W.eq (g2 := F0 m 49 ls [.long ((xa - x) * (xa - x) + (ya - y) * (ya - y)), .long ((xb - x) * (xb - x) + (yb - y) * (yb - y))]) rfl ?_
          refine W.widen (k := 0) (n := 0) (Nat.le_of_ble_eq_true rfl) (Nat.le_of_ble_eq_true rfl) ?_
          refine gx_lc_le (tgt := 57) C dX0_seesMoreRightOf_49 dX0_seesMoreRightOf_50 (by decide) (fun c49 => ?_) (fun c49 => ?_)
          · refine lv_iconst (v := 0) gX gB dX0_seesMoreRightOf_57 (by decide) ?_
            exact gx_zret C hr (by decide) hW (⟨congrArg (fun z => some (Value.int z)) (by
                          unfold ft_more
                          simp_all [gx_b0, gx_b]), rfl⟩) (Nat.le_of_ble_eq_true rfl) (Nat.le_of_ble_eq_true rfl) dX0_seesMoreRightOf_58
          · refine lv_iconst (v := 1) gX gB dX0_seesMoreRightOf_53 (by decide) ?_
            refine lv_goto (tgt := 58) gX gB dX0_seesMoreRightOf_54 (by decide) ?_
            exact gx_zret C hr (by decide) hW (⟨congrArg (fun z => some (Value.int z)) (by
                          unfold ft_more
                          simp_all [gx_b0, gx_b]), rfl⟩) (Nat.le_of_ble_eq_true rfl) (Nat.le_of_ble_eq_true rfl) dX0_seesMoreRightOf_58
    · refine lv_iconst (v := 1) gX gB dX0_seesMoreRightOf_18 (by decide) ?_
      exact gx_zret C hr (by decide) hW (⟨congrArg (fun z => some (Value.int z)) (by
              unfold ft_more
              simp_all [gx_b0, gx_b]), rfl⟩) (Nat.le_of_ble_eq_true rfl) (Nat.le_of_ble_eq_true rfl) dX0_seesMoreRightOf_19
  · refine lv_iconst (v := 0) gX gB dX0_seesMoreRightOf_8 (by decide) ?_
    exact gx_zret C hr (by decide) hW (⟨congrArg (fun z => some (Value.int z)) (by
          unfold ft_more
          simp_all [gx_b0, gx_b]), rfl⟩) (Nat.le_of_ble_eq_true rfl) (Nat.le_of_ble_eq_true rfl) dX0_seesMoreRightOf_9
