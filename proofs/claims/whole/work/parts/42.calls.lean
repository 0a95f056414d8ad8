/-! STANDTESTS: side, tips, moment, most, centre. -/
/-- which exception tells which number -/
def px1 (A : String) (c : Int32) (E : String) : Prop := E = A ∧ c = 1
def px2 (A B : String) (c : Int32) (E : String) : Prop := (E = A ∧ c = 1) ∨ (E = B ∧ c = 2)
def px3 (A B D : String) (c : Int32) (E : String) : Prop := (E = A ∧ c = 1) ∨ (E = B ∧ c = 2) ∨ (E = D ∧ c = 3)
def sd_code (ns : Nat) (k : Int32) : Int32 := if ns = 0 then 1 else if k < 0 then 2 else 0
def tp_code (ns : Nat) (dc k : Int32) : Int32 := if ns = 0 then 1 else if k < 0 ∨ dc < k then 2 else 0
def mm_code (ns : Nat) (k w : Int32) : Int32 := if ns = 0 then 1 else if k < 0 ∨ ¬ k < nI ns ∨ w < 0 ∨ 1 < w then 2 else 0
def ms_code (ns : Nat) : Int32 := if ns = 0 then 1 else 0
theorem nI_cases (k : Int32) {n : Nat} (hn : n < 2 ^ 31) (h0 : ¬ k < 0) (h1 : k < nI n) : ∃ j : Nat, j < n ∧ k = nI j := by
  rcases pk_ix k hn with h | h | h
  · exact absurd h h0
  · exact absurd h1 (Int32.not_lt.mpr h)
  · exact h
def sd_val (ns : Nat) (num : Nat → Int32) (k : Int32) : Int32 := if k < nI ns then num k.toNatClampNeg else -1
set_option maxHeartbeats 4000000 in
set_option maxRecDepth 100000 in
theorem kX5_side (l : Launch) (hfl : l.flags = flags0) (G : gx_T) (L : List Nat) (f : Nat → va_E) (x P F S X N T E : Nat) (dc : Int32) (hx : x ∈ L) (fx : f x = .inr (10, [.ref P, .ref F, .ref S, .ref X, .ref N, .ref T, .ref E, .int dc])) (bS : Option Nat) (sa : List Nat) (sd : Nat → sd_T) (hlS : ls_at G L f S bS sa) (hsd : ∀ j (h : j < sa.length), sd_is L f sa[j] (sd j)) (k : Int32) : gx_MX l G yX5_side cX5_side 2 (some .int) ({ frames := 7, cells := 2, slots := 12, locals := 110 } : Room) [.ref x, .int k] (va_pl L f) (fun v u => v = some (.int (sd_val sa.length (fun j => (sd j).1) k)) ∧ u = va_pl L f ∧ sd_code sa.length k = 0) (fun Ex u => u = va_pl L f ∧ px2 gx_E1 gx_E3 (sd_code sa.length k) Ex) := by
  refine gx_startX (by decide +kernel) (Nat.le_of_ble_eq_true rfl) ?_
  intro p e s m args below meth c A ls C hr hno hW hl
  have gX := C.x
  have gB := C.b
  have hl : lv_has ls 2 [(0, .ref x), (1, .int k)] := hl
  refine lv_aload_n gX gB dX5_side_0 rfl (lv_at hl 0 rfl) ?_
  refine gx_callVX (wr := []) (rest := []) C hW sX5_135 (kX5_needPolygon l hfl G L f x P F S X N T E dc hx fx bS sa hlS) (gx_pl hx fx) rfl rfl ⟨(Nat.le_of_ble_eq_true rfl), (Nat.le_of_ble_eq_true rfl)⟩ hl.1 rfl (Nat.le_of_ble_eq_true rfl) dX5_side_1 ⟨(Nat.le_of_ble_eq_true rfl), (Nat.le_of_ble_eq_true rfl)⟩ (fun E ce q9 u9 H locs hpx hW hce hcv hcl => gx_out C hno hW hce hcv hcl (⟨hpx.2.1, Or.inl ⟨hpx.1, by simp [sd_code, hpx.2.2]⟩⟩) (Nat.le_of_ble_eq_true rfl) (Nat.le_of_ble_eq_true rfl)) (fun v9 u9 H locs hp hW => ?_)
  obtain ⟨rfl, hu, hns⟩ := hp
  rw [hu] at hW
  have hW : gx_W G A s (va_pl L f) H locs := hW
  refine W.eq (g2 := F0 m 4 ls []) rfl ?_
  refine W.widen (k := 1) (n := 6) (Nat.le_of_ble_eq_true rfl) (Nat.le_of_ble_eq_true rfl) ?_
  refine lv_iload_n gX gB dX5_side_4 rfl (lv_at hl 1 rfl) ?_
  refine lv_if_ge (tgt := 18) gX gB dX5_side_5 (by decide) (fun c5 => ?_) (fun c5 => ?_)
  · refine lv_iload_n gX gB dX5_side_18 rfl (lv_at hl 1 rfl) ?_
    refine lv_aload_n gX gB dX5_side_19 rfl (lv_at hl 0 rfl) ?_
    refine gx_get C hW fX5_19 (gx_pl hx fx) rfl dX5_side_20 ?_
    refine gx_callV (wr := []) (rest := [.int k]) C hW sX5_48 (kL_size l G L f S bS sa hlS) (gx_pl hlS.1 (ls_at.head hlS).choose_spec.choose_spec) rfl rfl ⟨(Nat.le_of_ble_eq_true rfl), (Nat.le_of_ble_eq_true rfl)⟩ hl.1 rfl (Nat.le_of_ble_eq_true rfl) dX5_side_23 ⟨(Nat.le_of_ble_eq_true rfl), (Nat.le_of_ble_eq_true rfl)⟩ (fun v9 u9 H locs hp hW => ?_)
    obtain ⟨rfl, hu⟩ := hp
    rw [hu] at hW
    have hW : gx_W G A s (va_pl L f) H locs := hW
    refine W.eq (g2 := F0 m 26 ls [.int (nI sa.length), .int k]) rfl ?_
    refine W.widen (k := 1) (n := 6) (Nat.le_of_ble_eq_true rfl) (Nat.le_of_ble_eq_true rfl) ?_
    refine lv_icmp_ge (tgt := 49) gX gB dX5_side_26 (by decide) (fun c26 => ?_) (fun c26 => ?_)
    · refine lv_iconst (v := (-1)) gX gB dX5_side_49 (by decide) ?_
      refine vx_ret ?_
      exact gx_iret C hr hW (⟨by rw [sd_val, if_neg (Int32.not_lt.mpr c26)], rfl, by simp [sd_code, hns, Int32.not_lt.mpr c5]⟩) (Nat.le_of_ble_eq_true rfl) (Nat.le_of_ble_eq_true rfl) dX5_side_50
    · refine lv_aload_n gX gB dX5_side_29 rfl (lv_at hl 0 rfl) ?_
      refine gx_get C hW fX5_19 (gx_pl hx fx) rfl dX5_side_30 ?_
      refine lv_iload_n gX gB dX5_side_33 rfl (lv_at hl 1 rfl) ?_
      obtain ⟨j, hj, rfl⟩ := nI_cases k (by have := hlS.lt; omega) (Int32.not_lt.mpr c5) (Int32.not_le.mp c26)
      obtain ⟨fu, fv, n2, hs1, fs1, ⟨hu1, fu1⟩, -⟩ := hsd j hj
      refine gx_callV (wr := []) (rest := []) C hW sX5_95 (kL_get l G L f S bS sa hlS j hj) (gx_pl hlS.1 (ls_at.head hlS).choose_spec.choose_spec) rfl rfl ⟨(Nat.le_of_ble_eq_true rfl), (Nat.le_of_ble_eq_true rfl)⟩ hl.1 rfl (Nat.le_of_ble_eq_true rfl) dX5_side_34 ⟨(Nat.le_of_ble_eq_true rfl), (Nat.le_of_ble_eq_true rfl)⟩ (fun v9 u9 H locs hp hW => ?_)
      obtain ⟨rfl, hu⟩ := hp
      rw [hu] at hW
      have hW : gx_W G A s (va_pl L f) H locs := hW
      refine W.eq (g2 := F0 m 37 ls [.ref (sa[j])]) rfl ?_
      refine W.widen (k := 1) (n := 6) (Nat.le_of_ble_eq_true rfl) (Nat.le_of_ble_eq_true rfl) ?_
      refine gx_cast C hW (gx_pl hs1 fs1) rfl (tq_4 62 (by decide +kernel) rfl) dX5_side_37 ?_
      refine gx_getN C hW fX5_142n (gx_pl hs1 fs1) rfl dX5_side_40 ?_
      refine gx_getN C hW fX5_146n (gx_pl hu1 fu1) rfl dX5_side_43 ?_
      refine lv_goto (tgt := 50) gX gB dX5_side_46 (by decide) ?_
      refine vx_ret ?_
      exact gx_iret C hr hW (⟨by rw [sd_val, if_pos ((nI_ltI (by have := hlS.lt; omega) (by have := hlS.lt; omega)).mpr hj), nI_clamp (by have := hlS.lt; omega)], rfl, by simp [sd_code, hns, Int32.not_lt.mpr c5]⟩) (Nat.le_of_ble_eq_true rfl) (Nat.le_of_ble_eq_true rfl) dX5_side_50
  · exact gx_throw (text := "no such side") hfl C hno hW gx_thr3 (by decide +kernel) (tq_4 84 (by decide +kernel) rfl) (tq_1 24 (by decide +kernel) rfl) (tr_4 141 (by decide +kernel)) hl.1 dX5_side_8 dX5_side_11 dX5_side_12 dX5_side_14 dX5_side_17 (Nat.le_of_ble_eq_true rfl) (Nat.le_of_ble_eq_true rfl) (Nat.le_of_ble_eq_true rfl) (Nat.le_of_ble_eq_true rfl) (⟨rfl, Or.inr ⟨rfl, by simp [sd_code, hns, Int32.not_le.mp c5]⟩⟩) (Nat.le_of_ble_eq_true rfl) (Nat.le_of_ble_eq_true rfl)
set_option maxHeartbeats 4000000 in
set_option maxRecDepth 100000 in
theorem kX5_tips (l : Launch) (hfl : l.flags = flags0) (G : gx_T) (L : List Nat) (f : Nat → va_E) (x P F S X N T E : Nat) (dc : Int32) (hx : x ∈ L) (fx : f x = .inr (10, [.ref P, .ref F, .ref S, .ref X, .ref N, .ref T, .ref E, .int dc])) (bP : Option Nat) (pa : List Nat) (ps : Nat → ld_T) (hlp : ls_at G L f P bP pa) (hld : ∀ i (h : i < pa.length), ld_is L f pa[i] (ps i)) (bS : Option Nat) (sa : List Nat) (sd : Nat → sd_T) (hlS : ls_at G L f S bS sa) (hsd : ∀ j (h : j < sa.length), sd_is L f sa[j] (sd j)) (dw : ld_T) (hE : ld_is L f E dw) (k : Int32) : gx_MX l G yX5_tips cX5_tips 2 (some .int) ({ frames := 7, cells := 2, slots := 12, locals := 113 } : Room) [.ref x, .int k] (va_pl L f) (fun v u => v = some (.int (nI (vd_at (fun j => mo_of (sd j).2.1 (sd j).2.2 k dw ps pa.length) sa.length))) ∧ u = va_pl L f ∧ tp_code sa.length dc k = 0) (fun Ex u => u = va_pl L f ∧ px2 gx_E1 gx_E2 (tp_code sa.length dc k) Ex) := by
  refine gx_startX (by decide +kernel) (Nat.le_of_ble_eq_true rfl) ?_
  intro p e s m args below meth c A ls C hr hno hW hl
  have gX := C.x
  have gB := C.b
  have hl : lv_has ls 2 [(0, .ref x), (1, .int k)] := hl
  refine lv_aload_n gX gB dX5_tips_0 rfl (lv_at hl 0 rfl) ?_
  refine gx_callVX (wr := []) (rest := []) C hW sX5_135 (kX5_needPolygon l hfl G L f x P F S X N T E dc hx fx bS sa hlS) (gx_pl hx fx) rfl rfl ⟨(Nat.le_of_ble_eq_true rfl), (Nat.le_of_ble_eq_true rfl)⟩ hl.1 rfl (Nat.le_of_ble_eq_true rfl) dX5_tips_1 ⟨(Nat.le_of_ble_eq_true rfl), (Nat.le_of_ble_eq_true rfl)⟩ (fun E ce q9 u9 H locs hpx hW hce hcv hcl => gx_out C hno hW hce hcv hcl (⟨hpx.2.1, Or.inl ⟨hpx.1, by simp [tp_code, hpx.2.2]⟩⟩) (Nat.le_of_ble_eq_true rfl) (Nat.le_of_ble_eq_true rfl)) (fun v9 u9 H locs hp hW => ?_)
  obtain ⟨rfl, hu, hns⟩ := hp
  rw [hu] at hW
  have hW : gx_W G A s (va_pl L f) H locs := hW
  refine W.eq (g2 := F0 m 4 ls []) rfl ?_
  refine W.widen (k := 1) (n := 6) (Nat.le_of_ble_eq_true rfl) (Nat.le_of_ble_eq_true rfl) ?_
  refine lv_iload_n gX gB dX5_tips_4 rfl (lv_at hl 1 rfl) ?_
  refine lv_if_lt (tgt := 16) gX gB dX5_tips_5 (by decide) (fun c5 => ?_) (fun c5 => ?_)
  · exact gx_throw (text := "not so many drawers") hfl C hno hW gx_thr2 (by decide +kernel) (tq_3 215 (by decide +kernel) rfl) (tq_1 15 (by decide +kernel) rfl) (tr_4 149 (by decide +kernel)) hl.1 dX5_tips_16 dX5_tips_19 dX5_tips_20 dX5_tips_22 dX5_tips_25 (Nat.le_of_ble_eq_true rfl) (Nat.le_of_ble_eq_true rfl) (Nat.le_of_ble_eq_true rfl) (Nat.le_of_ble_eq_true rfl) (⟨rfl, Or.inr ⟨rfl, by simp [tp_code, hns, c5]⟩⟩) (Nat.le_of_ble_eq_true rfl) (Nat.le_of_ble_eq_true rfl)
  · refine lv_iload_n gX gB dX5_tips_8 rfl (lv_at hl 1 rfl) ?_
    refine lv_aload_n gX gB dX5_tips_9 rfl (lv_at hl 0 rfl) ?_
    refine gx_get C hW fX5_44 (gx_pl hx fx) rfl dX5_tips_10 ?_
    refine lv_icmp_le (tgt := 26) gX gB dX5_tips_13 (by decide) (fun c13 => ?_) (fun c13 => ?_)
    · refine lv_aload_n gX gB dX5_tips_26 rfl (lv_at hl 0 rfl) ?_
      refine lv_iload_n gX gB dX5_tips_27 rfl (lv_at hl 1 rfl) ?_
      refine lv_aload_n gX gB dX5_tips_28 rfl (lv_at hl 0 rfl) ?_
      refine gx_get C hW fX5_41 (gx_pl hx fx) rfl dX5_tips_29 ?_
      refine gx_callV (wr := []) (rest := []) C hW sX5_151 (kX5_verdict l G L f x P F S X N T E dc hx fx bP pa ps hlp hld bS sa sd hlS hsd E dw hE k) (gx_pl hx fx) rfl rfl ⟨(Nat.le_of_ble_eq_true rfl), (Nat.le_of_ble_eq_true rfl)⟩ hl.1 rfl (Nat.le_of_ble_eq_true rfl) dX5_tips_32 ⟨(Nat.le_of_ble_eq_true rfl), (Nat.le_of_ble_eq_true rfl)⟩ (fun v9 u9 H locs hp hW => ?_)
      obtain ⟨rfl, hu⟩ := hp
      rw [hu] at hW
      have hW : gx_W G A s (va_pl L f) H locs := hW
      refine W.eq (g2 := F0 m 35 ls [.int (nI (vd_at (fun j => mo_of (sd j).2.1 (sd j).2.2 k dw ps pa.length) sa.length))]) rfl ?_
      refine W.widen (k := 1) (n := 6) (Nat.le_of_ble_eq_true rfl) (Nat.le_of_ble_eq_true rfl) ?_
      refine vx_ret ?_
      exact gx_iret C hr hW (⟨rfl, rfl, by simp [tp_code, hns, c5, Int32.not_lt.mpr c13]⟩) (Nat.le_of_ble_eq_true rfl) (Nat.le_of_ble_eq_true rfl) dX5_tips_35
    · exact gx_throw (text := "not so many drawers") hfl C hno hW gx_thr2 (by decide +kernel) (tq_3 215 (by decide +kernel) rfl) (tq_1 15 (by decide +kernel) rfl) (tr_4 149 (by decide +kernel)) hl.1 dX5_tips_16 dX5_tips_19 dX5_tips_20 dX5_tips_22 dX5_tips_25 (Nat.le_of_ble_eq_true rfl) (Nat.le_of_ble_eq_true rfl) (Nat.le_of_ble_eq_true rfl) (Nat.le_of_ble_eq_true rfl) (⟨rfl, Or.inr ⟨rfl, by simp [tp_code, hns, c5, Int32.not_le.mp c13]⟩⟩) (Nat.le_of_ble_eq_true rfl) (Nat.le_of_ble_eq_true rfl)
def mm_val (sd : Nat → sd_T) (dw dn : ld_T) (ps : Nat → ld_T) (np : Nat) (k w : Int32) : Int64 := mo_of (sd k.toNatClampNeg).2.1 (sd k.toNatClampNeg).2.2 0 (if w = 1 then dw else dn) ps np
set_option maxHeartbeats 4000000 in
set_option maxRecDepth 100000 in
theorem kX5_moment (l : Launch) (hfl : l.flags = flags0) (G : gx_T) (L : List Nat) (f : Nat → va_E) (x P F S X N T E : Nat) (dc : Int32) (hx : x ∈ L) (fx : f x = .inr (10, [.ref P, .ref F, .ref S, .ref X, .ref N, .ref T, .ref E, .int dc])) (bP : Option Nat) (pa : List Nat) (ps : Nat → ld_T) (hlp : ls_at G L f P bP pa) (hld : ∀ i (h : i < pa.length), ld_is L f pa[i] (ps i)) (bS : Option Nat) (sa : List Nat) (sd : Nat → sd_T) (hlS : ls_at G L f S bS sa) (hsd : ∀ j (h : j < sa.length), sd_is L f sa[j] (sd j)) (dw dn : ld_T) (hE : ld_is L f E dw) (hN : ld_is L f N dn) (k w : Int32) : gx_MX l G yX5_moment cX5_moment 3 (some .long) ({ frames := 7, cells := 2, slots := 12, locals := 110 } : Room) [.ref x, .int k, .int w] (va_pl L f) (fun v u => v = some (.long (mm_val sd dw dn ps pa.length k w)) ∧ u = va_pl L f ∧ mm_code sa.length k w = 0) (fun Ex u => u = va_pl L f ∧ px2 gx_E1 gx_E3 (mm_code sa.length k w) Ex) := by
  refine gx_startX (by decide +kernel) (Nat.le_of_ble_eq_true rfl) ?_
  intro p e s m args below meth c A ls C hr hno hW hl
  have gX := C.x
  have gB := C.b
  have hl : lv_has ls 3 [(0, .ref x), (1, .int k), (2, .int w)] := hl
  refine lv_aload_n gX gB dX5_moment_0 rfl (lv_at hl 0 rfl) ?_
  refine gx_callVX (wr := []) (rest := []) C hW sX5_135 (kX5_needPolygon l hfl G L f x P F S X N T E dc hx fx bS sa hlS) (gx_pl hx fx) rfl rfl ⟨(Nat.le_of_ble_eq_true rfl), (Nat.le_of_ble_eq_true rfl)⟩ hl.1 rfl (Nat.le_of_ble_eq_true rfl) dX5_moment_1 ⟨(Nat.le_of_ble_eq_true rfl), (Nat.le_of_ble_eq_true rfl)⟩ (fun E ce q9 u9 H locs hpx hW hce hcv hcl => gx_out C hno hW hce hcv hcl (⟨hpx.2.1, Or.inl ⟨hpx.1, by simp [mm_code, hpx.2.2]⟩⟩) (Nat.le_of_ble_eq_true rfl) (Nat.le_of_ble_eq_true rfl)) (fun v9 u9 H locs hp hW => ?_)
  obtain ⟨rfl, hu, hns⟩ := hp
  rw [hu] at hW
  have hW : gx_W G A s (va_pl L f) H locs := hW
  refine W.eq (g2 := F0 m 4 ls []) rfl ?_
  refine W.widen (k := 1) (n := 6) (Nat.le_of_ble_eq_true rfl) (Nat.le_of_ble_eq_true rfl) ?_
  refine lv_iload_n gX gB dX5_moment_4 rfl (lv_at hl 1 rfl) ?_
  refine lv_if_lt (tgt := 19) gX gB dX5_moment_5 (by decide) (fun c5 => ?_) (fun c5 => ?_)
  · exact gx_throw (text := "no such side") hfl C hno hW gx_thr3 (by decide +kernel) (tq_4 84 (by decide +kernel) rfl) (tq_1 24 (by decide +kernel) rfl) (tr_4 141 (by decide +kernel)) hl.1 dX5_moment_19 dX5_moment_22 dX5_moment_23 dX5_moment_25 dX5_moment_28 (Nat.le_of_ble_eq_true rfl) (Nat.le_of_ble_eq_true rfl) (Nat.le_of_ble_eq_true rfl) (Nat.le_of_ble_eq_true rfl) (⟨rfl, Or.inr ⟨rfl, by simp [mm_code, hns, c5]⟩⟩) (Nat.le_of_ble_eq_true rfl) (Nat.le_of_ble_eq_true rfl)
  · refine lv_iload_n gX gB dX5_moment_8 rfl (lv_at hl 1 rfl) ?_
    refine lv_aload_n gX gB dX5_moment_9 rfl (lv_at hl 0 rfl) ?_
    refine gx_get C hW fX5_19 (gx_pl hx fx) rfl dX5_moment_10 ?_
    refine gx_callV (wr := []) (rest := [.int k]) C hW sX5_48 (kL_size l G L f S bS sa hlS) (gx_pl hlS.1 (ls_at.head hlS).choose_spec.choose_spec) rfl rfl ⟨(Nat.le_of_ble_eq_true rfl), (Nat.le_of_ble_eq_true rfl)⟩ hl.1 rfl (Nat.le_of_ble_eq_true rfl) dX5_moment_13 ⟨(Nat.le_of_ble_eq_true rfl), (Nat.le_of_ble_eq_true rfl)⟩ (fun v9 u9 H locs hp hW => ?_)
    obtain ⟨rfl, hu⟩ := hp
    rw [hu] at hW
    have hW : gx_W G A s (va_pl L f) H locs := hW
    refine W.eq (g2 := F0 m 16 ls [.int (nI sa.length), .int k]) rfl ?_
    refine W.widen (k := 1) (n := 6) (Nat.le_of_ble_eq_true rfl) (Nat.le_of_ble_eq_true rfl) ?_
    refine lv_icmp_lt (tgt := 29) gX gB dX5_moment_16 (by decide) (fun c16 => ?_) (fun c16 => ?_)
    · refine lv_iload_n gX gB dX5_moment_29 rfl (lv_at hl 2 rfl) ?_
      refine lv_if_lt (tgt := 38) gX gB dX5_moment_30 (by decide) (fun c30 => ?_) (fun c30 => ?_)
      · exact gx_throw (text := "with the person or without") hfl C hno hW gx_thr3 (by decide +kernel) (tq_4 84 (by decide +kernel) rfl) (tq_1 24 (by decide +kernel) rfl) (tr_4 173 (by decide +kernel)) hl.1 dX5_moment_38 dX5_moment_41 dX5_moment_42 dX5_moment_44 dX5_moment_47 (Nat.le_of_ble_eq_true rfl) (Nat.le_of_ble_eq_true rfl) (Nat.le_of_ble_eq_true rfl) (Nat.le_of_ble_eq_true rfl) (⟨rfl, Or.inr ⟨rfl, by simp [mm_code, hns, c5, c16, c30]⟩⟩) (Nat.le_of_ble_eq_true rfl) (Nat.le_of_ble_eq_true rfl)
      · refine lv_iload_n gX gB dX5_moment_33 rfl (lv_at hl 2 rfl) ?_
        refine lv_iconst (v := 1) gX gB dX5_moment_34 (by decide) ?_
        refine lv_icmp_le (tgt := 48) gX gB dX5_moment_35 (by decide) (fun c35 => ?_) (fun c35 => ?_)
        · refine lv_aload_n gX gB dX5_moment_48 rfl (lv_at hl 0 rfl) ?_
          refine lv_aload_n gX gB dX5_moment_49 rfl (lv_at hl 0 rfl) ?_
          refine gx_get C hW fX5_19 (gx_pl hx fx) rfl dX5_moment_50 ?_
          refine lv_iload_n gX gB dX5_moment_53 rfl (lv_at hl 1 rfl) ?_
          obtain ⟨j, hj, rfl⟩ := nI_cases k (by have := hlS.lt; omega) (c5) c16
          refine gx_callV (wr := []) (rest := [.ref x]) C hW sX5_95 (kL_get l G L f S bS sa hlS j hj) (gx_pl hlS.1 (ls_at.head hlS).choose_spec.choose_spec) rfl rfl ⟨(Nat.le_of_ble_eq_true rfl), (Nat.le_of_ble_eq_true rfl)⟩ hl.1 rfl (Nat.le_of_ble_eq_true rfl) dX5_moment_54 ⟨(Nat.le_of_ble_eq_true rfl), (Nat.le_of_ble_eq_true rfl)⟩ (fun v9 u9 H locs hp hW => ?_)
          obtain ⟨rfl, hu⟩ := hp
          rw [hu] at hW
          have hW : gx_W G A s (va_pl L f) H locs := hW
          refine W.eq (g2 := F0 m 57 ls [.ref (sa[j]), .ref x]) rfl ?_
          refine W.widen (k := 1) (n := 6) (Nat.le_of_ble_eq_true rfl) (Nat.le_of_ble_eq_true rfl) ?_
          refine gx_cast C hW (gx_pl ((hsd j hj).choose_spec.choose_spec.choose_spec.1) ((hsd j hj).choose_spec.choose_spec.choose_spec.2.1)) rfl (tq_4 62 (by decide +kernel) rfl) dX5_moment_57 ?_
          refine lv_iconst (v := 0) gX gB dX5_moment_60 (by decide) ?_
          refine lv_iload_n gX gB dX5_moment_61 rfl (lv_at hl 2 rfl) ?_
          refine lv_iconst (v := 1) gX gB dX5_moment_62 (by decide) ?_
          refine lv_icmp_ne (tgt := 73) gX gB dX5_moment_63 (by decide) (fun c63 => ?_) (fun c63 => ?_)
          · refine lv_aload_n gX gB dX5_moment_73 rfl (lv_at hl 0 rfl) ?_
            refine gx_get C hW fX5_34 (gx_pl hx fx) rfl dX5_moment_74 ?_
            refine gx_callV (wr := []) (rest := []) C hW sX5_157 (kX5_momentOver l G L f x P F S X N T E dc hx fx bP pa ps hlp hld sa[j] (sd j) (hsd j hj) N dn hN 0) (gx_pl hx fx) rfl rfl ⟨(Nat.le_of_ble_eq_true rfl), (Nat.le_of_ble_eq_true rfl)⟩ hl.1 rfl (Nat.le_of_ble_eq_true rfl) dX5_moment_77 ⟨(Nat.le_of_ble_eq_true rfl), (Nat.le_of_ble_eq_true rfl)⟩ (fun v9 u9 H locs hp hW => ?_)
            obtain ⟨rfl, hu⟩ := hp
            rw [hu] at hW
            have hW : gx_W G A s (va_pl L f) H locs := hW
            refine W.eq (g2 := F0 m 80 ls [.long (mo_of (sd j).2.1 (sd j).2.2 0 dn ps pa.length)]) rfl ?_
            refine W.widen (k := 1) (n := 6) (Nat.le_of_ble_eq_true rfl) (Nat.le_of_ble_eq_true rfl) ?_
            refine vx_ret ?_
            exact gx_lret C hr hW (⟨by simp [mm_val, c63, nI_clamp (show j < 2 ^ 31 by have := hlS.lt; omega)], rfl, by simp [mm_code, hns, c5, c16, c30, Int32.not_lt.mpr c35, c63]⟩) (Nat.le_of_ble_eq_true rfl) (Nat.le_of_ble_eq_true rfl) dX5_moment_80
          · refine lv_aload_n gX gB dX5_moment_66 rfl (lv_at hl 0 rfl) ?_
            refine gx_get C hW fX5_41 (gx_pl hx fx) rfl dX5_moment_67 ?_
            refine lv_goto (tgt := 77) gX gB dX5_moment_70 (by decide) ?_
            refine gx_callV (wr := []) (rest := []) C hW sX5_157 (kX5_momentOver l G L f x P F S X N T E dc hx fx bP pa ps hlp hld sa[j] (sd j) (hsd j hj) E dw hE 0) (gx_pl hx fx) rfl rfl ⟨(Nat.le_of_ble_eq_true rfl), (Nat.le_of_ble_eq_true rfl)⟩ hl.1 rfl (Nat.le_of_ble_eq_true rfl) dX5_moment_77 ⟨(Nat.le_of_ble_eq_true rfl), (Nat.le_of_ble_eq_true rfl)⟩ (fun v9 u9 H locs hp hW => ?_)
            obtain ⟨rfl, hu⟩ := hp
            rw [hu] at hW
            have hW : gx_W G A s (va_pl L f) H locs := hW
            refine W.eq (g2 := F0 m 80 ls [.long (mo_of (sd j).2.1 (sd j).2.2 0 dw ps pa.length)]) rfl ?_
            refine W.widen (k := 1) (n := 6) (Nat.le_of_ble_eq_true rfl) (Nat.le_of_ble_eq_true rfl) ?_
            refine vx_ret ?_
            exact gx_lret C hr hW (⟨by simp [mm_val, c63, nI_clamp (show j < 2 ^ 31 by have := hlS.lt; omega)], rfl, by simp [mm_code, hns, c5, c16, c30, Int32.not_lt.mpr c35, c63]⟩) (Nat.le_of_ble_eq_true rfl) (Nat.le_of_ble_eq_true rfl) dX5_moment_80
        · exact gx_throw (text := "with the person or without") hfl C hno hW gx_thr3 (by decide +kernel) (tq_4 84 (by decide +kernel) rfl) (tq_1 24 (by decide +kernel) rfl) (tr_4 173 (by decide +kernel)) hl.1 dX5_moment_38 dX5_moment_41 dX5_moment_42 dX5_moment_44 dX5_moment_47 (Nat.le_of_ble_eq_true rfl) (Nat.le_of_ble_eq_true rfl) (Nat.le_of_ble_eq_true rfl) (Nat.le_of_ble_eq_true rfl) (⟨rfl, Or.inr ⟨rfl, by simp [mm_code, hns, c5, c16, c30, Int32.not_le.mp c35]⟩⟩) (Nat.le_of_ble_eq_true rfl) (Nat.le_of_ble_eq_true rfl)
    · exact gx_throw (text := "no such side") hfl C hno hW gx_thr3 (by decide +kernel) (tq_4 84 (by decide +kernel) rfl) (tq_1 24 (by decide +kernel) rfl) (tr_4 141 (by decide +kernel)) hl.1 dX5_moment_19 dX5_moment_22 dX5_moment_23 dX5_moment_25 dX5_moment_28 (Nat.le_of_ble_eq_true rfl) (Nat.le_of_ble_eq_true rfl) (Nat.le_of_ble_eq_true rfl) (Nat.le_of_ble_eq_true rfl) (⟨rfl, Or.inr ⟨rfl, by simp [mm_code, hns, c5, c16]⟩⟩) (Nat.le_of_ble_eq_true rfl) (Nat.le_of_ble_eq_true rfl)
/-- how many drawers may be open, one by one: with q looked at, 1 more than the last that stood -/
def ms_at (v : Nat → Nat) : Nat → Nat
  | 0 => 0
  | q + 1 => if ms_at v q = q ∧ v q = 0 then q + 1 else ms_at v q
theorem ms_stop {v : Nat → Nat} {q : Nat} (h : ms_at v q = q) (h0 : ¬ v q = 0) : ∀ n, q ≤ n → ms_at v n = q := by
  intro n
  induction n with
  | zero => intro hn; rw [show q = 0 by omega]; rfl
  | succ n ih =>
    intro hn
    rcases Nat.lt_or_ge n q with h1 | h1
    · rw [show n + 1 = q by omega]; exact h
    · show (if ms_at v n = n ∧ v n = 0 then n + 1 else ms_at v n) = q
      rw [ih h1]
      by_cases e : q = n
      · rw [if_neg (fun z => h0 (by rw [e]; exact z.2))]
      · rw [if_neg (fun z => e z.1)]
theorem ms_go {v : Nat → Nat} {q : Nat} (h : ms_at v q = q) (h0 : v q = 0) : ms_at v (q + 1) = q + 1 := if_pos ⟨h, h0⟩
theorem ms_le (v : Nat → Nat) : ∀ n, ms_at v n ≤ n := by
  intro n
  induction n with
  | zero => exact Nat.le_refl _
  | succ n ih =>
    show (if ms_at v n = n ∧ v n = 0 then n + 1 else ms_at v n) ≤ n + 1
    split <;> omega
set_option maxHeartbeats 4000000 in
set_option maxRecDepth 100000 in
theorem kX5_most (l : Launch) (hfl : l.flags = flags0) (G : gx_T) (L : List Nat) (f : Nat → va_E) (x P F S X N T E : Nat) (dn : Nat) (hdn : dn ≤ 8) (hx : x ∈ L) (fx : f x = .inr (10, [.ref P, .ref F, .ref S, .ref X, .ref N, .ref T, .ref E, .int (nI dn)])) (bP : Option Nat) (pa : List Nat) (ps : Nat → ld_T) (hlp : ls_at G L f P bP pa) (hld : ∀ i (h : i < pa.length), ld_is L f pa[i] (ps i)) (bS : Option Nat) (sa : List Nat) (sd : Nat → sd_T) (hlS : ls_at G L f S bS sa) (hsd : ∀ j (h : j < sa.length), sd_is L f sa[j] (sd j)) (dw : ld_T) (hE : ld_is L f E dw) : gx_MX l G yX5_most cX5_most 3 (some .int) ({ frames := 7, cells := 1, slots := 6, locals := 113 } : Room) [.ref x] (va_pl L f) (fun v u => v = some (.int (nI (ms_at (fun q => vd_at (fun j => mo_of (sd j).2.1 (sd j).2.2 (nI q) dw ps pa.length) sa.length) (dn + 1)) - 1)) ∧ u = va_pl L f ∧ ms_code sa.length = 0) (fun Ex u => u = va_pl L f ∧ px1 gx_E1 (ms_code sa.length) Ex) := by
  refine gx_startX (by decide +kernel) (Nat.le_of_ble_eq_true rfl) ?_
  intro p e s m args below meth c A ls C hr hno hW hl
  have gX := C.x
  have gB := C.b
  have hl : lv_has ls 3 [(0, .ref x)] := hl
  refine lv_aload_n gX gB dX5_most_0 rfl (lv_at hl 0 rfl) ?_
  refine gx_callVX (wr := []) (rest := []) C hW sX5_135 (kX5_needPolygon l hfl G L f x P F S X N T E (nI dn) hx fx bS sa hlS) (gx_pl hx fx) rfl rfl ⟨(Nat.le_of_ble_eq_true rfl), (Nat.le_of_ble_eq_true rfl)⟩ hl.1 rfl (Nat.le_of_ble_eq_true rfl) dX5_most_1 ⟨(Nat.le_of_ble_eq_true rfl), (Nat.le_of_ble_eq_true rfl)⟩ (fun E ce q9 u9 H locs hpx hW hce hcv hcl => gx_out C hno hW hce hcv hcl (⟨hpx.2.1, hpx.1, by simp [ms_code, hpx.2.2]⟩) (Nat.le_of_ble_eq_true rfl) (Nat.le_of_ble_eq_true rfl)) (fun v9 u9 H locs hp hW => ?_)
  obtain ⟨rfl, hu, hns⟩ := hp
  rw [hu] at hW
  have hW : gx_W G A s (va_pl L f) H locs := hW
  refine W.eq (g2 := F0 m 4 ls []) rfl ?_
  refine W.widen (k := 1) (n := 6) (Nat.le_of_ble_eq_true rfl) (Nat.le_of_ble_eq_true rfl) ?_
  refine lv_iconst (v := (-1)) gX gB dX5_most_4 (by decide) ?_
  refine lv_istore_n (lv' := [(1, .int (-1)), (0, .ref x)]) gX gB dX5_most_5 rfl hl (by decide) rfl (fun ls hl => ?_)
  refine lv_iconst (v := 0) gX gB dX5_most_6 (by decide) ?_
  refine lv_istore_n (lv' := [(2, .int 0), (1, .int (-1)), (0, .ref x)]) gX gB dX5_most_7 rfl hl (by decide) rfl (fun ls hl => ?_)
  have hl : lv_has ls 3 [(2, .int (nI 0)), (1, .int (nI 0 - 1)), (0, .ref x)] := hl
  have loop : ∀ (r : Nat) (q : Nat), (dn + 1 - q < r) → (q ≤ dn + 1) → (ms_at (fun q => vd_at (fun j => mo_of (sd j).2.1 (sd j).2.2 (nI q) dw ps pa.length) sa.length) q = q) → ∀ (H : Heap) (locs : List Loc), gx_W G A s (va_pl L f) H locs → ∀ ls : Array Slot, lv_has ls 3 [(2, .int (nI q)), (1, .int (nI q - 1)), (0, .ref x)] → W p l e ({ frames := 7, cells := 1, slots := 6, locals := 113 } : Room) s m args below meth c H locs 1 6 (vx_MQ below (gx_Q G A (fun v u => v = some (.int (nI (ms_at (fun q => vd_at (fun j => mo_of (sd j).2.1 (sd j).2.2 (nI q) dw ps pa.length) sa.length) (dn + 1)) - 1)) ∧ u = va_pl L f ∧ ms_code sa.length = 0)) (gx_X G A (fun Ex u => u = va_pl L f ∧ px1 gx_E1 (ms_code sa.length) Ex)) args s (({ frames := 7, cells := 1, slots := 6, locals := 113 } : Room)).cells (({ frames := 7, cells := 1, slots := 6, locals := 113 } : Room)).slots A) (F0 m 8 ls []) := by
    intro r
    induction r with
    | zero => intro q hfu hq hq0 H locs hW ls hl; exact absurd hfu (Nat.not_lt_zero _)
    | succ r ih =>
      intro q hfu hq hq0 H locs hW ls hl
      rcases Nat.lt_or_ge dn q with hjk | hjk
      · refine lv_iload_n gX gB dX5_most_8 rfl (lv_at hl 0 rfl) ?_
        refine lv_aload_n gX gB dX5_most_9 rfl (lv_at hl 2 rfl) ?_
        refine gx_get C hW fX5_44 (gx_pl hx fx) rfl dX5_most_10 ?_
        refine lv_icmp_gt (tgt := 36) gX gB dX5_most_13 (by decide) (fun _ => ?_) (fun h9 => absurd (show (nI dn) < (nI q) from nI_lt hjk (by omega)) h9)
        refine lv_iload_n gX gB dX5_most_36 rfl (lv_at hl 1 rfl) ?_
        refine vx_ret ?_
        exact gx_iret C hr hW (⟨by rw [show q = dn + 1 by omega] at hq0 ⊢; rw [hq0], rfl, by simp [ms_code, hns]⟩) (Nat.le_of_ble_eq_true rfl) (Nat.le_of_ble_eq_true rfl) dX5_most_37
      · refine lv_iload_n gX gB dX5_most_8 rfl (lv_at hl 0 rfl) ?_
        refine lv_aload_n gX gB dX5_most_9 rfl (lv_at hl 2 rfl) ?_
        refine gx_get C hW fX5_44 (gx_pl hx fx) rfl dX5_most_10 ?_
        refine lv_icmp_gt (tgt := 36) gX gB dX5_most_13 (by decide) (fun h9 => absurd (show (nI dn) < (nI q) from h9) (nI_nlt hjk (by omega))) (fun _ => ?_)
        refine lv_aload_n gX gB dX5_most_16 rfl (lv_at hl 2 rfl) ?_
        refine lv_iload_n gX gB dX5_most_17 rfl (lv_at hl 0 rfl) ?_
        refine lv_aload_n gX gB dX5_most_18 rfl (lv_at hl 2 rfl) ?_
        refine gx_get C hW fX5_41 (gx_pl hx fx) rfl dX5_most_19 ?_
        refine gx_callV (wr := []) (rest := []) C hW sX5_151 (kX5_verdict l G L f x P F S X N T E (nI dn) hx fx bP pa ps hlp hld bS sa sd hlS hsd E dw hE (nI q)) (gx_pl hx fx) rfl rfl ⟨(Nat.le_of_ble_eq_true rfl), (Nat.le_of_ble_eq_true rfl)⟩ hl.1 rfl (Nat.le_of_ble_eq_true rfl) dX5_most_22 ⟨(Nat.le_of_ble_eq_true rfl), (Nat.le_of_ble_eq_true rfl)⟩ (fun v9 u9 H locs hp hW => ?_)
        obtain ⟨rfl, hu⟩ := hp
        rw [hu] at hW
        have hW : gx_W G A s (va_pl L f) H locs := hW
        refine W.eq (g2 := F0 m 25 ls [.int (nI (vd_at (fun j => mo_of (sd j).2.1 (sd j).2.2 (nI q) dw ps pa.length) sa.length))]) rfl ?_
        refine W.widen (k := 1) (n := 6) (Nat.le_of_ble_eq_true rfl) (Nat.le_of_ble_eq_true rfl) ?_
        refine lv_if_ne (tgt := 36) gX gB dX5_most_25 (by decide) (fun c25 => ?_) (fun c25 => ?_)
        · refine lv_iload_n gX gB dX5_most_36 rfl (lv_at hl 1 rfl) ?_
          refine vx_ret ?_
          exact gx_iret C hr hW (⟨by rw [ms_stop hq0 (fun zz => c25 (by rw [zz]; rfl)) (dn + 1) (by omega)], rfl, by simp [ms_code, hns]⟩) (Nat.le_of_ble_eq_true rfl) (Nat.le_of_ble_eq_true rfl) dX5_most_37
        · refine lv_iload_n gX gB dX5_most_28 rfl (lv_at hl 0 rfl) ?_
          refine lv_istore_n (lv' := [(1, .int (nI q)), (2, .int (nI q)), (0, .ref x)]) gX gB dX5_most_29 rfl hl (by decide) rfl (fun ls hl => ?_)
          refine lv_iinc (v := nI (q + 1)) (lv' := [(2, .int (nI (q + 1))), (1, .int (nI q)), (0, .ref x)]) gX gB dX5_most_30 hl (k := 1) rfl (by exact nI_1 q) (by decide) rfl (fun ls hl => ?_)
          refine lv_goto (tgt := 8) gX gB dX5_most_33 (by decide) ?_
          have hl : lv_has ls 3 [(2, .int (nI (q + 1))), (1, .int (nI (q + 1) - 1)), (0, .ref x)] := by rw [show nI (q + 1) - 1 = nI q from nI_pred q]; exact hl
          exact ih (q + 1) (by omega) (by omega) (ms_go hq0 ((nI_eq (b := 0) (by have := vd_le (fun j => mo_of (sd j).2.1 (sd j).2.2 (nI q) dw ps pa.length) sa.length; have := hlS.lt; omega) (by decide)).mp c25)) _ _ hW ls (lv_sub hl [0, 1, 2] rfl)
  exact loop (dn + 2) 0 (by omega) (Nat.zero_le _) rfl _ _ hW ls (lv_sub hl [0, 1, 2] rfl)
