/-! STANDTESTS: its static helpers. -/
/-- x lies from a to b -/
abbrev in_rng (a b x : Int64) : Prop := ¬ x < a ∧ ¬ b < x
theorem gx_b1 {b : Prop} [Decidable b] : ¬ gx_b b = 0 ↔ b := by
  unfold gx_b
  by_cases h : b <;> simp [h]
set_option maxHeartbeats 4000000 in
set_option maxRecDepth 100000 in
theorem kX5_isWithin (l : Launch) (G : gx_T) (ws : va_W) (x a b : Int64) : gx_M l G yX5_isWithin cX5_isWithin 6 (some .boolean) ({ frames := 0, cells := 0, slots := 0, locals := 0 } : Room) [.long x, .long a, .long b] (ws) (fun v u => v = some (.int (gx_b (¬ x < a ∧ ¬ b < x))) ∧ u = ws) := by
  refine gx_start (by decide +kernel) (Nat.le_of_ble_eq_true rfl) ?_
  intro p e s m args below meth c A ls C hr hnm hW hl
  have gX := C.x
  have gB := C.b
  have hl : lv_has ls 6 [(0, .long x), (2, .long a), (4, .long b)] := hl
  refine lv_lload_n gX gB dX5_isWithin_0 rfl (lv_at hl 0 rfl) ?_
  refine lv_lload_n gX gB dX5_isWithin_1 rfl (lv_at hl 1 rfl) ?_
  refine gx_lc_lt (tgt := 17) C dX5_isWithin_2 dX5_isWithin_3 (by decide) (fun c2 => ?_) (fun c2 => ?_)
  · refine lv_iconst (v := 0) gX gB dX5_isWithin_17 (by decide) ?_
    exact gx_zret C hr (by decide) hW (⟨by simp [gx_b, c2], rfl⟩) (Nat.le_of_ble_eq_true rfl) (Nat.le_of_ble_eq_true rfl) dX5_isWithin_18
  · refine lv_lload_n gX gB dX5_isWithin_6 rfl (lv_at hl 0 rfl) ?_
    refine lv_lload gX gB dX5_isWithin_7 (lv_at hl 2 rfl) ?_
    refine gx_lc_gt (tgt := 17) C dX5_isWithin_9 dX5_isWithin_10 (by decide) (fun c9 => ?_) (fun c9 => ?_)
    · refine lv_iconst (v := 0) gX gB dX5_isWithin_17 (by decide) ?_
      exact gx_zret C hr (by decide) hW (⟨by simp [gx_b, c2, c9], rfl⟩) (Nat.le_of_ble_eq_true rfl) (Nat.le_of_ble_eq_true rfl) dX5_isWithin_18
    · refine lv_iconst (v := 1) gX gB dX5_isWithin_13 (by decide) ?_
      refine lv_goto (tgt := 18) gX gB dX5_isWithin_14 (by decide) ?_
      exact gx_zret C hr (by decide) hW (⟨by simp [gx_b, c2, c9], rfl⟩) (Nat.le_of_ble_eq_true rfl) (Nat.le_of_ble_eq_true rfl) dX5_isWithin_18
set_option maxHeartbeats 4000000 in
set_option maxRecDepth 100000 in
theorem kX5_needPlace (l : Launch) (hfl : l.flags = flags0) (G : gx_T) (ws : va_W) (x : Int64) : gx_MX l G yX5_needPlace cX5_needPlace 2 none ({ frames := 6, cells := 1, slots := 6, locals := 90 } : Room) [.long x] (ws) (fun v u => v = none ∧ u = ws ∧ in_rng (-100000) 100000 x) (fun E u => E = gx_E2 ∧ u = ws ∧ ¬ in_rng (-100000) 100000 x) := by
  refine gx_startX (by decide +kernel) (Nat.le_of_ble_eq_true rfl) ?_
  intro p e s m args below meth c A ls C hr hno hW hl
  have gX := C.x
  have gB := C.b
  have hl : lv_has ls 2 [(0, .long x)] := hl
  refine lv_lload_n gX gB dX5_needPlace_0 rfl (lv_at hl 0 rfl) ?_
  refine gx_ldc2 (v := (-100000)) C (tq_3 210 (by decide +kernel) rfl) dX5_needPlace_1 ?_
  refine gx_ldc2 (v := 100000) C (tq_3 211 (by decide +kernel) rfl) dX5_needPlace_4 ?_
  refine gx_callS (wr := []) (rest := []) C hW sX5_86 (kX5_isWithin l G ws x (-100000) 100000) rfl ⟨(Nat.le_of_ble_eq_true rfl), (Nat.le_of_ble_eq_true rfl)⟩ hl.1 rfl (Nat.le_of_ble_eq_true rfl) dX5_needPlace_7 ⟨(Nat.le_of_ble_eq_true rfl), (Nat.le_of_ble_eq_true rfl)⟩ (fun v9 u9 H locs hp hW => ?_)
  obtain ⟨rfl, hu⟩ := hp
  rw [hu] at hW
  have hW : gx_W G A s (ws) H locs := hW
  refine W.eq (g2 := F0 m 10 ls [.int (gx_b (¬ x < (-100000) ∧ ¬ 100000 < x))]) rfl ?_
  refine W.widen (k := 0) (n := 0) (Nat.le_of_ble_eq_true rfl) (Nat.le_of_ble_eq_true rfl) ?_
  refine lv_if_ne (tgt := 23) gX gB dX5_needPlace_10 (by decide) (fun c10 => ?_) (fun c10 => ?_)
  · refine vx_ret ?_
    exact gx_vret C hr hW (⟨rfl, rfl, gx_b1.mp c10⟩) (Nat.le_of_ble_eq_true rfl) (Nat.le_of_ble_eq_true rfl) dX5_needPlace_23
  · exact gx_throw (text := "a place is out of its range") hfl C hno hW gx_thr2 (by decide +kernel) (tq_3 215 (by decide +kernel) rfl) (tq_1 15 (by decide +kernel) rfl) (tr_3 216 (by decide +kernel)) hl.1 dX5_needPlace_13 dX5_needPlace_16 dX5_needPlace_17 dX5_needPlace_19 dX5_needPlace_22 (Nat.le_of_ble_eq_true rfl) (Nat.le_of_ble_eq_true rfl) (Nat.le_of_ble_eq_true rfl) (Nat.le_of_ble_eq_true rfl) (⟨rfl, rfl, gx_b0.mp c10⟩) (Nat.le_of_ble_eq_true rfl) (Nat.le_of_ble_eq_true rfl)
set_option maxHeartbeats 4000000 in
set_option maxRecDepth 100000 in
theorem kX5_needGrams (l : Launch) (hfl : l.flags = flags0) (G : gx_T) (ws : va_W) (x : Int64) : gx_MX l G yX5_needGrams cX5_needGrams 2 none ({ frames := 6, cells := 1, slots := 6, locals := 90 } : Room) [.long x] (ws) (fun v u => v = none ∧ u = ws ∧ in_rng 0 1000000 x) (fun E u => E = gx_E2 ∧ u = ws ∧ ¬ in_rng 0 1000000 x) := by
  refine gx_startX (by decide +kernel) (Nat.le_of_ble_eq_true rfl) ?_
  intro p e s m args below meth c A ls C hr hno hW hl
  have gX := C.x
  have gB := C.b
  have hl : lv_has ls 2 [(0, .long x)] := hl
  refine lv_lload_n gX gB dX5_needGrams_0 rfl (lv_at hl 0 rfl) ?_
  refine lv_lconst (v := 0) gX gB dX5_needGrams_1 (by decide) ?_
  refine gx_ldc2 (v := 1000000) C (tq_3 221 (by decide +kernel) rfl) dX5_needGrams_2 ?_
  refine gx_callS (wr := []) (rest := []) C hW sX5_86 (kX5_isWithin l G ws x 0 1000000) rfl ⟨(Nat.le_of_ble_eq_true rfl), (Nat.le_of_ble_eq_true rfl)⟩ hl.1 rfl (Nat.le_of_ble_eq_true rfl) dX5_needGrams_5 ⟨(Nat.le_of_ble_eq_true rfl), (Nat.le_of_ble_eq_true rfl)⟩ (fun v9 u9 H locs hp hW => ?_)
  obtain ⟨rfl, hu⟩ := hp
  rw [hu] at hW
  have hW : gx_W G A s (ws) H locs := hW
  refine W.eq (g2 := F0 m 8 ls [.int (gx_b (¬ x < 0 ∧ ¬ 1000000 < x))]) rfl ?_
  refine W.widen (k := 0) (n := 0) (Nat.le_of_ble_eq_true rfl) (Nat.le_of_ble_eq_true rfl) ?_
  refine lv_if_ne (tgt := 21) gX gB dX5_needGrams_8 (by decide) (fun c8 => ?_) (fun c8 => ?_)
  · refine vx_ret ?_
    exact gx_vret C hr hW (⟨rfl, rfl, gx_b1.mp c8⟩) (Nat.le_of_ble_eq_true rfl) (Nat.le_of_ble_eq_true rfl) dX5_needGrams_21
  · exact gx_throw (text := "grams are out of their range") hfl C hno hW gx_thr2 (by decide +kernel) (tq_3 215 (by decide +kernel) rfl) (tq_1 15 (by decide +kernel) rfl) (tr_3 222 (by decide +kernel)) hl.1 dX5_needGrams_11 dX5_needGrams_14 dX5_needGrams_15 dX5_needGrams_17 dX5_needGrams_20 (Nat.le_of_ble_eq_true rfl) (Nat.le_of_ble_eq_true rfl) (Nat.le_of_ble_eq_true rfl) (Nat.le_of_ble_eq_true rfl) (⟨rfl, rfl, gx_b0.mp c8⟩) (Nat.le_of_ble_eq_true rfl) (Nat.le_of_ble_eq_true rfl)
set_option maxHeartbeats 4000000 in
set_option maxRecDepth 100000 in
theorem kX5_needHeight (l : Launch) (hfl : l.flags = flags0) (G : gx_T) (ws : va_W) (x : Int64) : gx_MX l G yX5_needHeight cX5_needHeight 2 none ({ frames := 6, cells := 1, slots := 6, locals := 90 } : Room) [.long x] (ws) (fun v u => v = none ∧ u = ws ∧ in_rng (-1000) 1000 x) (fun E u => E = gx_E2 ∧ u = ws ∧ ¬ in_rng (-1000) 1000 x) := by
  refine gx_startX (by decide +kernel) (Nat.le_of_ble_eq_true rfl) ?_
  intro p e s m args below meth c A ls C hr hno hW hl
  have gX := C.x
  have gB := C.b
  have hl : lv_has ls 2 [(0, .long x)] := hl
  refine lv_lload_n gX gB dX5_needHeight_0 rfl (lv_at hl 0 rfl) ?_
  refine gx_ldc2 (v := (-1000)) C (tq_4 215 (by decide +kernel) rfl) dX5_needHeight_1 ?_
  refine gx_ldc2 (v := 1000) C (tq_4 216 (by decide +kernel) rfl) dX5_needHeight_4 ?_
  refine gx_callS (wr := []) (rest := []) C hW sX5_86 (kX5_isWithin l G ws x (-1000) 1000) rfl ⟨(Nat.le_of_ble_eq_true rfl), (Nat.le_of_ble_eq_true rfl)⟩ hl.1 rfl (Nat.le_of_ble_eq_true rfl) dX5_needHeight_7 ⟨(Nat.le_of_ble_eq_true rfl), (Nat.le_of_ble_eq_true rfl)⟩ (fun v9 u9 H locs hp hW => ?_)
  obtain ⟨rfl, hu⟩ := hp
  rw [hu] at hW
  have hW : gx_W G A s (ws) H locs := hW
  refine W.eq (g2 := F0 m 10 ls [.int (gx_b (¬ x < (-1000) ∧ ¬ 1000 < x))]) rfl ?_
  refine W.widen (k := 0) (n := 0) (Nat.le_of_ble_eq_true rfl) (Nat.le_of_ble_eq_true rfl) ?_
  refine lv_if_ne (tgt := 23) gX gB dX5_needHeight_10 (by decide) (fun c10 => ?_) (fun c10 => ?_)
  · refine vx_ret ?_
    exact gx_vret C hr hW (⟨rfl, rfl, gx_b1.mp c10⟩) (Nat.le_of_ble_eq_true rfl) (Nat.le_of_ble_eq_true rfl) dX5_needHeight_23
  · exact gx_throw (text := "a height is out of its range") hfl C hno hW gx_thr2 (by decide +kernel) (tq_3 215 (by decide +kernel) rfl) (tq_1 15 (by decide +kernel) rfl) (tr_4 217 (by decide +kernel)) hl.1 dX5_needHeight_13 dX5_needHeight_16 dX5_needHeight_17 dX5_needHeight_19 dX5_needHeight_22 (Nat.le_of_ble_eq_true rfl) (Nat.le_of_ble_eq_true rfl) (Nat.le_of_ble_eq_true rfl) (Nat.le_of_ble_eq_true rfl) (⟨rfl, rfl, gx_b0.mp c10⟩) (Nat.le_of_ble_eq_true rfl) (Nat.le_of_ble_eq_true rfl)
def gp_of (v : Int64) : Int32 := if 5 < v ∧ v < 25 then 1 else if 89 < v ∧ v < 230 then 2 else 0
set_option maxHeartbeats 4000000 in
set_option maxRecDepth 100000 in
theorem kX5_gap (l : Launch) (G : gx_T) (ws : va_W) (o : Nat) (v : Int64) : gx_M l G yX5_gap cX5_gap 3 (some .int) ({ frames := 0, cells := 0, slots := 0, locals := 0 } : Room) [.ref o, .long v] (ws) (fun w u => w = some (.int (gp_of v)) ∧ u = ws) := by
  refine gx_start (by decide +kernel) (Nat.le_of_ble_eq_true rfl) ?_
  intro p e s m args below meth c A ls C hr hnm hW hl
  have gX := C.x
  have gB := C.b
  have hl : lv_has ls 3 [(0, .ref o), (1, .long v)] := hl
  refine lv_lload_n gX gB dX5_gap_0 rfl (lv_at hl 1 rfl) ?_
  refine gx_ldc2 (v := 5) C (tq_3 178 (by decide +kernel) rfl) dX5_gap_1 ?_
  refine gx_lc_le (tgt := 18) C dX5_gap_4 dX5_gap_5 (by decide) (fun c4 => ?_) (fun c4 => ?_)
  · refine lv_lload_n gX gB dX5_gap_18 rfl (lv_at hl 1 rfl) ?_
    refine gx_ldc2 (v := 89) C (tq_3 180 (by decide +kernel) rfl) dX5_gap_19 ?_
    refine gx_lc_le (tgt := 38) C dX5_gap_22 dX5_gap_23 (by decide) (fun c22 => ?_) (fun c22 => ?_)
    · refine lv_iconst (v := 0) gX gB dX5_gap_38 (by decide) ?_
      exact gx_iret C hr hW (⟨by simp [gx_b, gp_of, Int64.not_lt.mpr c4, Int64.not_lt.mpr c22], rfl⟩) (Nat.le_of_ble_eq_true rfl) (Nat.le_of_ble_eq_true rfl) dX5_gap_39
    · refine lv_lload_n gX gB dX5_gap_26 rfl (lv_at hl 1 rfl) ?_
      refine gx_ldc2 (v := 230) C (tq_3 181 (by decide +kernel) rfl) dX5_gap_27 ?_
      refine gx_lc_ge (tgt := 38) C dX5_gap_30 dX5_gap_31 (by decide) (fun c30 => ?_) (fun c30 => ?_)
      · refine lv_iconst (v := 0) gX gB dX5_gap_38 (by decide) ?_
        exact gx_iret C hr hW (⟨by simp [gx_b, gp_of, Int64.not_lt.mpr c4, Int64.not_le.mp c22, Int64.not_lt.mpr c30], rfl⟩) (Nat.le_of_ble_eq_true rfl) (Nat.le_of_ble_eq_true rfl) dX5_gap_39
      · refine lv_iconst (v := 2) gX gB dX5_gap_34 (by decide) ?_
        refine lv_goto (tgt := 39) gX gB dX5_gap_35 (by decide) ?_
        exact gx_iret C hr hW (⟨by simp [gx_b, gp_of, Int64.not_lt.mpr c4, Int64.not_le.mp c22, Int64.not_le.mp c30], rfl⟩) (Nat.le_of_ble_eq_true rfl) (Nat.le_of_ble_eq_true rfl) dX5_gap_39
  · refine lv_lload_n gX gB dX5_gap_8 rfl (lv_at hl 1 rfl) ?_
    refine gx_ldc2 (v := 25) C (tq_3 179 (by decide +kernel) rfl) dX5_gap_9 ?_
    refine gx_lc_ge (tgt := 18) C dX5_gap_12 dX5_gap_13 (by decide) (fun c12 => ?_) (fun c12 => ?_)
    · refine lv_lload_n gX gB dX5_gap_18 rfl (lv_at hl 1 rfl) ?_
      refine gx_ldc2 (v := 89) C (tq_3 180 (by decide +kernel) rfl) dX5_gap_19 ?_
      refine gx_lc_le (tgt := 38) C dX5_gap_22 dX5_gap_23 (by decide) (fun c22 => ?_) (fun c22 => ?_)
      · refine lv_iconst (v := 0) gX gB dX5_gap_38 (by decide) ?_
        exact gx_iret C hr hW (⟨by simp [gx_b, gp_of, Int64.not_le.mp c4, Int64.not_lt.mpr c12, Int64.not_lt.mpr c22], rfl⟩) (Nat.le_of_ble_eq_true rfl) (Nat.le_of_ble_eq_true rfl) dX5_gap_39
      · refine lv_lload_n gX gB dX5_gap_26 rfl (lv_at hl 1 rfl) ?_
        refine gx_ldc2 (v := 230) C (tq_3 181 (by decide +kernel) rfl) dX5_gap_27 ?_
        refine gx_lc_ge (tgt := 38) C dX5_gap_30 dX5_gap_31 (by decide) (fun c30 => ?_) (fun c30 => ?_)
        · refine lv_iconst (v := 0) gX gB dX5_gap_38 (by decide) ?_
          exact gx_iret C hr hW (⟨by simp [gx_b, gp_of, Int64.not_le.mp c4, Int64.not_lt.mpr c12, Int64.not_le.mp c22, Int64.not_lt.mpr c30], rfl⟩) (Nat.le_of_ble_eq_true rfl) (Nat.le_of_ble_eq_true rfl) dX5_gap_39
        · refine lv_iconst (v := 2) gX gB dX5_gap_34 (by decide) ?_
          refine lv_goto (tgt := 39) gX gB dX5_gap_35 (by decide) ?_
          exact gx_iret C hr hW (⟨by simp [gx_b, gp_of, Int64.not_le.mp c4, Int64.not_lt.mpr c12, Int64.not_le.mp c22, Int64.not_le.mp c30], rfl⟩) (Nat.le_of_ble_eq_true rfl) (Nat.le_of_ble_eq_true rfl) dX5_gap_39
    · refine lv_iconst (v := 1) gX gB dX5_gap_16 (by decide) ?_
      exact gx_iret C hr hW (⟨by simp [gx_b, gp_of, Int64.not_le.mp c4, Int64.not_le.mp c12], rfl⟩) (Nat.le_of_ble_eq_true rfl) (Nat.le_of_ble_eq_true rfl) dX5_gap_17
