/-! LEAVES: Side, Load, Trial. -/
set_option maxHeartbeats 4000000 in
set_option maxRecDepth 100000 in
theorem kX2_init (l : Launch) (G : gx_T) (L : List Nat) (f : Nat → va_E) (h : Nat) (a b : Nat) (hh : h ∈ L) (fh : f h = .inr (7, [.null, .null])) : gx_M l G yX2_init cX2_init 3 none ({ frames := 1, cells := 0, slots := 0, locals := 20 } : Room) [.ref h, .ref a, .ref b] (va_pl L f) (fun v u => v = none ∧ u = va_pl L (va_up f h (.inr (7, [.ref a, .ref b])))) := by
  refine gx_start (by decide +kernel) (Nat.le_of_ble_eq_true rfl) ?_
  intro p e s m args below meth c A ls C hr hnm hW hl
  have gX := C.x
  have gB := C.b
  have hl : lv_has ls 3 [(0, .ref h), (1, .ref a), (2, .ref b)] := hl
  refine lv_aload_n gX gB dX2_init_0 rfl (lv_at hl 0 rfl) ?_
  refine gx_obj C (tq_4 67 (by decide +kernel) rfl) hl.1 dX2_init_1 (Nat.le_of_ble_eq_true rfl) (Nat.le_of_ble_eq_true rfl) ?_
  refine lv_aload_n gX gB dX2_init_4 rfl (lv_at hl 0 rfl) ?_
  refine lv_aload_n gX gB dX2_init_5 rfl (lv_at hl 1 rfl) ?_
  refine gx_put C hW clX2 fX2_7 hh fh (Or.inr ⟨hnm, rfl⟩) rfl rfl (Nat.le_of_ble_eq_true rfl) dX2_init_6 (fun H locs hW => ?_)
  obtain ⟨f1, hf1⟩ : ∃ zz, zz = va_up f h (.inr (7, [.ref a, .null])) := ⟨_, rfl⟩
  have hW : gx_W G A s (va_pl L f1) H locs := by rw [hf1]; exact hW
  have f1_h : f1 h = .inr (7, [.ref a, .null]) := by rw [hf1]; exact va_up_self _ _ _
  refine lv_aload_n gX gB dX2_init_9 rfl (lv_at hl 0 rfl) ?_
  refine lv_aload_n gX gB dX2_init_10 rfl (lv_at hl 2 rfl) ?_
  refine gx_put C hW clX2 fX2_13 hh f1_h (Or.inr ⟨hnm, rfl⟩) rfl rfl (Nat.le_of_ble_eq_true rfl) dX2_init_11 (fun H locs hW => ?_)
  obtain ⟨f2, hf2⟩ : ∃ zz, zz = va_up f1 h (.inr (7, [.ref a, .ref b])) := ⟨_, rfl⟩
  have hW : gx_W G A s (va_pl L f2) H locs := by rw [hf2]; exact hW
  have f2_h : f2 h = .inr (7, [.ref a, .ref b]) := by rw [hf2]; exact va_up_self _ _ _
  exact gx_vret C hr hW (⟨rfl, by rw [hf2, hf1]; simp only [bx_uu]⟩) (Nat.le_of_ble_eq_true rfl) (Nat.le_of_ble_eq_true rfl) dX2_init_14
set_option maxHeartbeats 4000000 in
set_option maxRecDepth 100000 in
theorem kX3_init (l : Launch) (G : gx_T) (L : List Nat) (f : Nat → va_E) (h : Nat) (a : Nat) (k : Int32) (hh : h ∈ L) (fh : f h = .inr (8, [.null, .int 0])) : gx_M l G yX3_init cX3_init 3 none ({ frames := 1, cells := 0, slots := 0, locals := 20 } : Room) [.ref h, .ref a, .int k] (va_pl L f) (fun v u => v = none ∧ u = va_pl L (va_up f h (.inr (8, [.ref a, .int k])))) := by
  refine gx_start (by decide +kernel) (Nat.le_of_ble_eq_true rfl) ?_
  intro p e s m args below meth c A ls C hr hnm hW hl
  have gX := C.x
  have gB := C.b
  have hl : lv_has ls 3 [(0, .ref h), (1, .ref a), (2, .int k)] := hl
  refine lv_aload_n gX gB dX3_init_0 rfl (lv_at hl 0 rfl) ?_
  refine gx_obj C (tq_2 91 (by decide +kernel) rfl) hl.1 dX3_init_1 (Nat.le_of_ble_eq_true rfl) (Nat.le_of_ble_eq_true rfl) ?_
  refine lv_aload_n gX gB dX3_init_4 rfl (lv_at hl 0 rfl) ?_
  refine lv_aload_n gX gB dX3_init_5 rfl (lv_at hl 1 rfl) ?_
  refine gx_put C hW clX3 fX3_7 hh fh (Or.inr ⟨hnm, rfl⟩) rfl rfl (Nat.le_of_ble_eq_true rfl) dX3_init_6 (fun H locs hW => ?_)
  obtain ⟨f3, hf3⟩ : ∃ zz, zz = va_up f h (.inr (8, [.ref a, .int 0])) := ⟨_, rfl⟩
  have hW : gx_W G A s (va_pl L f3) H locs := by rw [hf3]; exact hW
  have f3_h : f3 h = .inr (8, [.ref a, .int 0]) := by rw [hf3]; exact va_up_self _ _ _
  refine lv_aload_n gX gB dX3_init_9 rfl (lv_at hl 0 rfl) ?_
  refine lv_iload_n gX gB dX3_init_10 rfl (lv_at hl 2 rfl) ?_
  refine gx_put C hW clX3 fX3_13 hh f3_h (Or.inr ⟨hnm, rfl⟩) rfl rfl (Nat.le_of_ble_eq_true rfl) dX3_init_11 (fun H locs hW => ?_)
  obtain ⟨f4, hf4⟩ : ∃ zz, zz = va_up f3 h (.inr (8, [.ref a, .int k])) := ⟨_, rfl⟩
  have hW : gx_W G A s (va_pl L f4) H locs := by rw [hf4]; exact hW
  have f4_h : f4 h = .inr (8, [.ref a, .int k]) := by rw [hf4]; exact va_up_self _ _ _
  exact gx_vret C hr hW (⟨rfl, by rw [hf4, hf3]; simp only [bx_uu]⟩) (Nat.le_of_ble_eq_true rfl) (Nat.le_of_ble_eq_true rfl) dX3_init_14
set_option maxHeartbeats 4000000 in
set_option maxRecDepth 100000 in
theorem kX1_init (l : Launch) (G : gx_T) (L : List Nat) (f : Nat → va_E) (h : Nat) (x y z g : Int64) (hh : h ∈ L) (fh : f h = .inr (6, [.long 0, .long 0, .long 0, .long 0, .int 0, .long 0])) : gx_M l G yX1_init cX1_init 9 none ({ frames := 1, cells := 0, slots := 0, locals := 20 } : Room) [.ref h, .long x, .long y, .long z, .long g] (va_pl L f) (fun v u => v = none ∧ u = va_pl L (va_up f h (.inr (6, [.long x, .long y, .long z, .long g, .int (-1), .long 0])))) := by
  refine gx_start (by decide +kernel) (Nat.le_of_ble_eq_true rfl) ?_
  intro p e s m args below meth c A ls C hr hnm hW hl
  have gX := C.x
  have gB := C.b
  have hl : lv_has ls 9 [(0, .ref h), (1, .long x), (3, .long y), (5, .long z), (7, .long g)] := hl
  refine lv_aload_n gX gB dX1_init_0 rfl (lv_at hl 0 rfl) ?_
  refine gx_obj C (tq_1 104 (by decide +kernel) rfl) hl.1 dX1_init_1 (Nat.le_of_ble_eq_true rfl) (Nat.le_of_ble_eq_true rfl) ?_
  refine lv_aload_n gX gB dX1_init_4 rfl (lv_at hl 0 rfl) ?_
  refine lv_lload_n gX gB dX1_init_5 rfl (lv_at hl 1 rfl) ?_
  refine gx_put C hW clX1 fX1_9 hh fh (Or.inr ⟨hnm, rfl⟩) rfl rfl (Nat.le_of_ble_eq_true rfl) dX1_init_6 (fun H locs hW => ?_)
  obtain ⟨f5, hf5⟩ : ∃ zz, zz = va_up f h (.inr (6, [.long x, .long 0, .long 0, .long 0, .int 0, .long 0])) := ⟨_, rfl⟩
  have hW : gx_W G A s (va_pl L f5) H locs := by rw [hf5]; exact hW
  have f5_h : f5 h = .inr (6, [.long x, .long 0, .long 0, .long 0, .int 0, .long 0]) := by rw [hf5]; exact va_up_self _ _ _
  refine lv_aload_n gX gB dX1_init_9 rfl (lv_at hl 0 rfl) ?_
  refine lv_lload_n gX gB dX1_init_10 rfl (lv_at hl 2 rfl) ?_
  refine gx_put C hW clX1 fX1_15 hh f5_h (Or.inr ⟨hnm, rfl⟩) rfl rfl (Nat.le_of_ble_eq_true rfl) dX1_init_11 (fun H locs hW => ?_)
  obtain ⟨f6, hf6⟩ : ∃ zz, zz = va_up f5 h (.inr (6, [.long x, .long y, .long 0, .long 0, .int 0, .long 0])) := ⟨_, rfl⟩
  have hW : gx_W G A s (va_pl L f6) H locs := by rw [hf6]; exact hW
  have f6_h : f6 h = .inr (6, [.long x, .long y, .long 0, .long 0, .int 0, .long 0]) := by rw [hf6]; exact va_up_self _ _ _
  refine lv_aload_n gX gB dX1_init_14 rfl (lv_at hl 0 rfl) ?_
  refine lv_lload gX gB dX1_init_15 (lv_at hl 3 rfl) ?_
  refine gx_put C hW clX1 fX1_18 hh f6_h (Or.inr ⟨hnm, rfl⟩) rfl rfl (Nat.le_of_ble_eq_true rfl) dX1_init_17 (fun H locs hW => ?_)
  obtain ⟨f7, hf7⟩ : ∃ zz, zz = va_up f6 h (.inr (6, [.long x, .long y, .long z, .long 0, .int 0, .long 0])) := ⟨_, rfl⟩
  have hW : gx_W G A s (va_pl L f7) H locs := by rw [hf7]; exact hW
  have f7_h : f7 h = .inr (6, [.long x, .long y, .long z, .long 0, .int 0, .long 0]) := by rw [hf7]; exact va_up_self _ _ _
  refine lv_aload_n gX gB dX1_init_20 rfl (lv_at hl 0 rfl) ?_
  refine lv_lload gX gB dX1_init_21 (lv_at hl 4 rfl) ?_
  refine gx_put C hW clX1 fX1_21 hh f7_h (Or.inr ⟨hnm, rfl⟩) rfl rfl (Nat.le_of_ble_eq_true rfl) dX1_init_23 (fun H locs hW => ?_)
  obtain ⟨f8, hf8⟩ : ∃ zz, zz = va_up f7 h (.inr (6, [.long x, .long y, .long z, .long g, .int 0, .long 0])) := ⟨_, rfl⟩
  have hW : gx_W G A s (va_pl L f8) H locs := by rw [hf8]; exact hW
  have f8_h : f8 h = .inr (6, [.long x, .long y, .long z, .long g, .int 0, .long 0]) := by rw [hf8]; exact va_up_self _ _ _
  refine lv_aload_n gX gB dX1_init_26 rfl (lv_at hl 0 rfl) ?_
  refine lv_iconst (v := (-1)) gX gB dX1_init_27 (by decide) ?_
  refine gx_put C hW clX1 fX1_24 hh f8_h (Or.inl rfl) rfl rfl (Nat.le_of_ble_eq_true rfl) dX1_init_28 (fun H locs hW => ?_)
  obtain ⟨f9, hf9⟩ : ∃ zz, zz = va_up f8 h (.inr (6, [.long x, .long y, .long z, .long g, .int (-1), .long 0])) := ⟨_, rfl⟩
  have hW : gx_W G A s (va_pl L f9) H locs := by rw [hf9]; exact hW
  have f9_h : f9 h = .inr (6, [.long x, .long y, .long z, .long g, .int (-1), .long 0]) := by rw [hf9]; exact va_up_self _ _ _
  refine lv_aload_n gX gB dX1_init_31 rfl (lv_at hl 0 rfl) ?_
  refine lv_lconst (v := 0) gX gB dX1_init_32 (by decide) ?_
  refine gx_put C hW clX1 fX1_28 hh f9_h (Or.inl rfl) rfl rfl (Nat.le_of_ble_eq_true rfl) dX1_init_33 (fun H locs hW => ?_)
  obtain ⟨f10, hf10⟩ : ∃ zz, zz = va_up f9 h (.inr (6, [.long x, .long y, .long z, .long g, .int (-1), .long 0])) := ⟨_, rfl⟩
  have hW : gx_W G A s (va_pl L f10) H locs := by rw [hf10]; exact hW
  have f10_h : f10 h = .inr (6, [.long x, .long y, .long z, .long g, .int (-1), .long 0]) := by rw [hf10]; exact va_up_self _ _ _
  exact gx_vret C hr hW (⟨rfl, by rw [hf10, hf9, hf8, hf7, hf6, hf5]; simp only [bx_uu]⟩) (Nat.le_of_ble_eq_true rfl) (Nat.le_of_ble_eq_true rfl) dX1_init_36
/-- twice the area from a to b and to (x, y) -/
def ft_turn (xa ya xb yb x y : Int64) : Int64 := (xb - xa) * (y - ya) - (yb - ya) * (x - xa)
set_option maxHeartbeats 4000000 in
set_option maxRecDepth 100000 in
theorem kX2_turnTo (l : Launch) (G : gx_T) (L : List Nat) (f : Nat → va_E) (h a b : Nat) (na nb : Int32) (xa ya xb yb x y : Int64) (hh : h ∈ L) (fh : f h = .inr (7, [.ref a, .ref b])) (ha : a ∈ L) (fa : f a = .inr (5, [.int na, .long xa, .long ya])) (hb : b ∈ L) (fb : f b = .inr (5, [.int nb, .long xb, .long yb])) : gx_M l G yX2_turnTo cX2_turnTo 5 (some .long) ({ frames := 0, cells := 0, slots := 0, locals := 0 } : Room) [.ref h, .long x, .long y] (va_pl L f) (fun v u => v = some (.long (ft_turn xa ya xb yb x y)) ∧ u = va_pl L f) := by
  refine gx_start (by decide +kernel) (Nat.le_of_ble_eq_true rfl) ?_
  intro p e s m args below meth c A ls C hr hnm hW hl
  have gX := C.x
  have gB := C.b
  have hl : lv_has ls 5 [(0, .ref h), (1, .long x), (3, .long y)] := hl
  refine lv_aload_n gX gB dX2_turnTo_0 rfl (lv_at hl 0 rfl) ?_
  refine gx_get C hW fX2_13 (gx_pl hh fh) rfl dX2_turnTo_1 ?_
  refine gx_getN C hW fX2_16n (gx_pl hb fb) rfl dX2_turnTo_4 ?_
  refine lv_aload_n gX gB dX2_turnTo_7 rfl (lv_at hl 0 rfl) ?_
  refine gx_get C hW fX2_7 (gx_pl hh fh) rfl dX2_turnTo_8 ?_
  refine gx_getN C hW fX2_16n (gx_pl ha fa) rfl dX2_turnTo_11 ?_
  refine lv_lsub gX gB dX2_turnTo_14 ?_
  refine lv_lload_n gX gB dX2_turnTo_15 rfl (lv_at hl 2 rfl) ?_
  refine lv_aload_n gX gB dX2_turnTo_16 rfl (lv_at hl 0 rfl) ?_
  refine gx_get C hW fX2_7 (gx_pl hh fh) rfl dX2_turnTo_17 ?_
  refine gx_getN C hW fX2_22n (gx_pl ha fa) rfl dX2_turnTo_20 ?_
  refine lv_lsub gX gB dX2_turnTo_23 ?_
  refine lv_lmul gX gB dX2_turnTo_24 ?_
  refine lv_aload_n gX gB dX2_turnTo_25 rfl (lv_at hl 0 rfl) ?_
  refine gx_get C hW fX2_13 (gx_pl hh fh) rfl dX2_turnTo_26 ?_
  refine gx_getN C hW fX2_22n (gx_pl hb fb) rfl dX2_turnTo_29 ?_
  refine lv_aload_n gX gB dX2_turnTo_32 rfl (lv_at hl 0 rfl) ?_
  refine gx_get C hW fX2_7 (gx_pl hh fh) rfl dX2_turnTo_33 ?_
  refine gx_getN C hW fX2_22n (gx_pl ha fa) rfl dX2_turnTo_36 ?_
  refine lv_lsub gX gB dX2_turnTo_39 ?_
  refine lv_lload_n gX gB dX2_turnTo_40 rfl (lv_at hl 1 rfl) ?_
  refine lv_aload_n gX gB dX2_turnTo_41 rfl (lv_at hl 0 rfl) ?_
  refine gx_get C hW fX2_7 (gx_pl hh fh) rfl dX2_turnTo_42 ?_
  refine gx_getN C hW fX2_16n (gx_pl ha fa) rfl dX2_turnTo_45 ?_
  refine lv_lsub gX gB dX2_turnTo_48 ?_
  refine lv_lmul gX gB dX2_turnTo_49 ?_
  refine lv_lsub gX gB dX2_turnTo_50 ?_
  exact gx_lret C hr hW (⟨rfl, rfl⟩) (Nat.le_of_ble_eq_true rfl) (Nat.le_of_ble_eq_true rfl) dX2_turnTo_51
set_option maxHeartbeats 4000000 in
set_option maxRecDepth 100000 in
theorem kX1_placeOn (l : Launch) (G : gx_T) (L : List Nat) (f : Nat → va_E) (h : Nat) (x y z gr o : Int64) (dr k : Int32) (hh : h ∈ L) (fh : f h = .inr (6, [.long x, .long y, .long z, .long gr, .int dr, .long o])) : gx_M l G yX1_placeOn cX1_placeOn 2 (some .long) ({ frames := 0, cells := 0, slots := 0, locals := 0 } : Room) [.ref h, .int k] (va_pl L f) (fun v u => v = some (.long (if k = 0 then x else if k = 1 then y else z)) ∧ u = va_pl L f) := by
  refine gx_start (by decide +kernel) (Nat.le_of_ble_eq_true rfl) ?_
  intro p e s m args below meth c A ls C hr hnm hW hl
  have gX := C.x
  have gB := C.b
  have hl : lv_has ls 2 [(0, .ref h), (1, .int k)] := hl
  refine lv_iload_n gX gB dX1_placeOn_0 rfl (lv_at hl 1 rfl) ?_
  refine lv_if_ne (tgt := 9) gX gB dX1_placeOn_1 (by decide) (fun c1 => ?_) (fun c1 => ?_)
  · refine lv_iload_n gX gB dX1_placeOn_9 rfl (lv_at hl 1 rfl) ?_
    refine lv_iconst (v := 1) gX gB dX1_placeOn_10 (by decide) ?_
    refine lv_icmp_ne (tgt := 21) gX gB dX1_placeOn_11 (by decide) (fun c11 => ?_) (fun c11 => ?_)
    · refine lv_aload_n gX gB dX1_placeOn_21 rfl (lv_at hl 0 rfl) ?_
      refine gx_get C hW fX1_18 (gx_pl hh fh) rfl dX1_placeOn_22 ?_
      exact gx_lret C hr hW (⟨by simp [gx_b, c1, c11], rfl⟩) (Nat.le_of_ble_eq_true rfl) (Nat.le_of_ble_eq_true rfl) dX1_placeOn_25
    · refine lv_aload_n gX gB dX1_placeOn_14 rfl (lv_at hl 0 rfl) ?_
      refine gx_get C hW fX1_15 (gx_pl hh fh) rfl dX1_placeOn_15 ?_
      refine lv_goto (tgt := 25) gX gB dX1_placeOn_18 (by decide) ?_
      exact gx_lret C hr hW (⟨by simp [gx_b, c1, c11], rfl⟩) (Nat.le_of_ble_eq_true rfl) (Nat.le_of_ble_eq_true rfl) dX1_placeOn_25
  · refine lv_aload_n gX gB dX1_placeOn_4 rfl (lv_at hl 0 rfl) ?_
    refine gx_get C hW fX1_9 (gx_pl hh fh) rfl dX1_placeOn_5 ?_
    exact gx_lret C hr hW (⟨by simp [gx_b, c1], rfl⟩) (Nat.le_of_ble_eq_true rfl) (Nat.le_of_ble_eq_true rfl) dX1_placeOn_8
/-- a load's moment about the line from a to b, so many drawers open -/
def ld_moment (xa ya xb yb x y gr o : Int64) (dr k : Int32) : Int64 := gr * ft_turn xa ya xb yb x (if dr = -1 then y else if dr < k then y + o else y)
set_option maxHeartbeats 4000000 in
set_option maxRecDepth 100000 in
theorem kX1_momentAbout (l : Launch) (G : gx_T) (L : List Nat) (f : Nat → va_E) (h d a b : Nat) (na nb dr k : Int32) (xa ya xb yb x y z gr o : Int64) (hh : h ∈ L) (fh : f h = .inr (6, [.long x, .long y, .long z, .long gr, .int dr, .long o])) (hd : d ∈ L) (fd : f d = .inr (7, [.ref a, .ref b])) (ha : a ∈ L) (fa : f a = .inr (5, [.int na, .long xa, .long ya])) (hb : b ∈ L) (fb : f b = .inr (5, [.int nb, .long xb, .long yb])) : gx_M l G yX1_momentAbout cX1_momentAbout 4 (some .long) ({ frames := 1, cells := 0, slots := 0, locals := 24 } : Room) [.ref h, .ref d, .int k] (va_pl L f) (fun v u => v = some (.long (ld_moment xa ya xb yb x y gr o dr k)) ∧ u = va_pl L f) := by
  refine gx_start (by decide +kernel) (Nat.le_of_ble_eq_true rfl) ?_
  intro p e s m args below meth c A ls C hr hnm hW hl
  have gX := C.x
  have gB := C.b
  have hl : lv_has ls 4 [(0, .ref h), (1, .ref d), (2, .int k)] := hl
  refine lv_aload_n gX gB dX1_momentAbout_0 rfl (lv_at hl 0 rfl) ?_
  refine gx_get C hW fX1_24 (gx_pl hh fh) rfl dX1_momentAbout_1 ?_
  refine lv_iconst (v := (-1)) gX gB dX1_momentAbout_4 (by decide) ?_
  refine lv_icmp_eq (tgt := 20) gX gB dX1_momentAbout_5 (by decide) (fun c5 => ?_) (fun c5 => ?_)
  · refine lv_iconst (v := 0) gX gB dX1_momentAbout_20 (by decide) ?_
    refine lv_istore_n (lv' := [(3, .int 0), (0, .ref h), (1, .ref d), (2, .int k)]) gX gB dX1_momentAbout_21 rfl hl (by decide) rfl (fun ls hl => ?_)
    refine lv_aload_n gX gB dX1_momentAbout_22 rfl (lv_at hl 1 rfl) ?_
    refine gx_get C hW fX1_21 (gx_pl hh fh) rfl dX1_momentAbout_23 ?_
    refine lv_aload_n gX gB dX1_momentAbout_26 rfl (lv_at hl 2 rfl) ?_
    refine lv_aload_n gX gB dX1_momentAbout_27 rfl (lv_at hl 1 rfl) ?_
    refine gx_get C hW fX1_9 (gx_pl hh fh) rfl dX1_momentAbout_28 ?_
    refine lv_iload_n gX gB dX1_momentAbout_31 rfl (lv_at hl 0 rfl) ?_
    refine lv_if_eq (tgt := 47) gX gB dX1_momentAbout_32 (by decide) (fun _ => ?_) (fun h9 => absurd (show 0 = (0 : Int32) from by decide) h9)
    refine lv_aload_n gX gB dX1_momentAbout_47 rfl (lv_at hl 1 rfl) ?_
    refine gx_get C hW fX1_15 (gx_pl hh fh) rfl dX1_momentAbout_48 ?_
    refine gx_callVN (wr := []) (rest := [.long gr]) C hW sX1_31n (kX2_turnTo l G L f d a b na nb xa ya xb yb x y hd fd ha fa hb fb) (gx_pl hd fd) rfl rfl ⟨(Nat.le_of_ble_eq_true rfl), (Nat.le_of_ble_eq_true rfl)⟩ hl.1 rfl (Nat.le_of_ble_eq_true rfl) dX1_momentAbout_51 ⟨(Nat.le_of_ble_eq_true rfl), (Nat.le_of_ble_eq_true rfl)⟩ (fun v9 u9 H locs hp hW => ?_)
    obtain ⟨rfl, rfl⟩ := hp
    have hW : gx_W G A s (va_pl L f) H locs := hW
    refine W.eq (g2 := F0 m 54 ls [.long (ft_turn xa ya xb yb x y), .long gr]) rfl ?_
    refine W.widen (k := 0) (n := 0) (Nat.le_of_ble_eq_true rfl) (Nat.le_of_ble_eq_true rfl) ?_
    refine lv_lmul gX gB dX1_momentAbout_54 ?_
    exact gx_lret C hr hW (⟨by simp [gx_b, ld_moment, c5], rfl⟩) (Nat.le_of_ble_eq_true rfl) (Nat.le_of_ble_eq_true rfl) dX1_momentAbout_55
  · refine lv_aload_n gX gB dX1_momentAbout_8 rfl (lv_at hl 0 rfl) ?_
    refine gx_get C hW fX1_24 (gx_pl hh fh) rfl dX1_momentAbout_9 ?_
    refine lv_iload_n gX gB dX1_momentAbout_12 rfl (lv_at hl 2 rfl) ?_
    refine lv_icmp_ge (tgt := 20) gX gB dX1_momentAbout_13 (by decide) (fun c13 => ?_) (fun c13 => ?_)
    · refine lv_iconst (v := 0) gX gB dX1_momentAbout_20 (by decide) ?_
      refine lv_istore_n (lv' := [(3, .int 0), (0, .ref h), (1, .ref d), (2, .int k)]) gX gB dX1_momentAbout_21 rfl hl (by decide) rfl (fun ls hl => ?_)
      refine lv_aload_n gX gB dX1_momentAbout_22 rfl (lv_at hl 1 rfl) ?_
      refine gx_get C hW fX1_21 (gx_pl hh fh) rfl dX1_momentAbout_23 ?_
      refine lv_aload_n gX gB dX1_momentAbout_26 rfl (lv_at hl 2 rfl) ?_
      refine lv_aload_n gX gB dX1_momentAbout_27 rfl (lv_at hl 1 rfl) ?_
      refine gx_get C hW fX1_9 (gx_pl hh fh) rfl dX1_momentAbout_28 ?_
      refine lv_iload_n gX gB dX1_momentAbout_31 rfl (lv_at hl 0 rfl) ?_
      refine lv_if_eq (tgt := 47) gX gB dX1_momentAbout_32 (by decide) (fun _ => ?_) (fun h9 => absurd (show 0 = (0 : Int32) from by decide) h9)
      refine lv_aload_n gX gB dX1_momentAbout_47 rfl (lv_at hl 1 rfl) ?_
      refine gx_get C hW fX1_15 (gx_pl hh fh) rfl dX1_momentAbout_48 ?_
      refine gx_callVN (wr := []) (rest := [.long gr]) C hW sX1_31n (kX2_turnTo l G L f d a b na nb xa ya xb yb x y hd fd ha fa hb fb) (gx_pl hd fd) rfl rfl ⟨(Nat.le_of_ble_eq_true rfl), (Nat.le_of_ble_eq_true rfl)⟩ hl.1 rfl (Nat.le_of_ble_eq_true rfl) dX1_momentAbout_51 ⟨(Nat.le_of_ble_eq_true rfl), (Nat.le_of_ble_eq_true rfl)⟩ (fun v9 u9 H locs hp hW => ?_)
      obtain ⟨rfl, rfl⟩ := hp
      have hW : gx_W G A s (va_pl L f) H locs := hW
      refine W.eq (g2 := F0 m 54 ls [.long (ft_turn xa ya xb yb x y), .long gr]) rfl ?_
      refine W.widen (k := 0) (n := 0) (Nat.le_of_ble_eq_true rfl) (Nat.le_of_ble_eq_true rfl) ?_
      refine lv_lmul gX gB dX1_momentAbout_54 ?_
      exact gx_lret C hr hW (⟨by simp [gx_b, ld_moment, c5, Int32.not_lt.mpr c13], rfl⟩) (Nat.le_of_ble_eq_true rfl) (Nat.le_of_ble_eq_true rfl) dX1_momentAbout_55
    · refine lv_iconst (v := 1) gX gB dX1_momentAbout_16 (by decide) ?_
      refine lv_goto (tgt := 21) gX gB dX1_momentAbout_17 (by decide) ?_
      refine lv_istore_n (lv' := [(3, .int 1), (0, .ref h), (1, .ref d), (2, .int k)]) gX gB dX1_momentAbout_21 rfl hl (by decide) rfl (fun ls hl => ?_)
      refine lv_aload_n gX gB dX1_momentAbout_22 rfl (lv_at hl 1 rfl) ?_
      refine gx_get C hW fX1_21 (gx_pl hh fh) rfl dX1_momentAbout_23 ?_
      refine lv_aload_n gX gB dX1_momentAbout_26 rfl (lv_at hl 2 rfl) ?_
      refine lv_aload_n gX gB dX1_momentAbout_27 rfl (lv_at hl 1 rfl) ?_
      refine gx_get C hW fX1_9 (gx_pl hh fh) rfl dX1_momentAbout_28 ?_
      refine lv_iload_n gX gB dX1_momentAbout_31 rfl (lv_at hl 0 rfl) ?_
      refine lv_if_eq (tgt := 47) gX gB dX1_momentAbout_32 (by decide) (fun h9 => absurd (show 1 = (0 : Int32) from h9) (by decide)) (fun _ => ?_)
      refine lv_aload_n gX gB dX1_momentAbout_35 rfl (lv_at hl 1 rfl) ?_
      refine gx_get C hW fX1_15 (gx_pl hh fh) rfl dX1_momentAbout_36 ?_
      refine lv_aload_n gX gB dX1_momentAbout_39 rfl (lv_at hl 1 rfl) ?_
      refine gx_get C hW fX1_28 (gx_pl hh fh) rfl dX1_momentAbout_40 ?_
      refine lv_ladd gX gB dX1_momentAbout_43 ?_
      refine lv_goto (tgt := 51) gX gB dX1_momentAbout_44 (by decide) ?_
      refine gx_callVN (wr := []) (rest := [.long gr]) C hW sX1_31n (kX2_turnTo l G L f d a b na nb xa ya xb yb x (y + o) hd fd ha fa hb fb) (gx_pl hd fd) rfl rfl ⟨(Nat.le_of_ble_eq_true rfl), (Nat.le_of_ble_eq_true rfl)⟩ hl.1 rfl (Nat.le_of_ble_eq_true rfl) dX1_momentAbout_51 ⟨(Nat.le_of_ble_eq_true rfl), (Nat.le_of_ble_eq_true rfl)⟩ (fun v9 u9 H locs hp hW => ?_)
      obtain ⟨rfl, rfl⟩ := hp
      have hW : gx_W G A s (va_pl L f) H locs := hW
      refine W.eq (g2 := F0 m 54 ls [.long (ft_turn xa ya xb yb x (y + o)), .long gr]) rfl ?_
      refine W.widen (k := 0) (n := 0) (Nat.le_of_ble_eq_true rfl) (Nat.le_of_ble_eq_true rfl) ?_
      refine lv_lmul gX gB dX1_momentAbout_54 ?_
      exact gx_lret C hr hW (⟨by simp [gx_b, ld_moment, c5, Int32.not_le.mp c13], rfl⟩) (Nat.le_of_ble_eq_true rfl) (Nat.le_of_ble_eq_true rfl) dX1_momentAbout_55
