/-! STANDTESTS: commonDivisor, centre, test, anchor. -/
theorem gc_half {u v p : Nat} (h : v ≤ u) (h0 : 0 < v) (hb : u * v < 2 ^ (p + 1)) : v * (u % v) < 2 ^ p := by
  have h1 : u % v < v := Nat.mod_lt _ h0
  have h2 : u % v + v ≤ u := by
    have h4 := Nat.div_add_mod u v
    have h5 : 1 ≤ u / v := (Nat.one_le_div_iff h0).mpr h
    have h6 : v * 1 ≤ v * (u / v) := Nat.mul_le_mul_left _ h5
    omega
  have h3 : 2 * (u % v) < u := by omega
  have h7 : v * (2 * (u % v)) < v * u := Nat.mul_lt_mul_of_pos_left h3 h0
  rw [Nat.pow_succ] at hb
  have e1 : v * (2 * (u % v)) = 2 * (v * (u % v)) := by rw [Nat.mul_left_comm]
  have e2 : v * u = u * v := Nat.mul_comm _ _
  omega
set_option maxHeartbeats 4000000 in
set_option maxRecDepth 100000 in
theorem kX5_commonDivisor (l : Launch) (G : gx_T) (ws : va_W) (x0 y0 : Nat) (hx0 : x0 < 2 ^ 62) (hy0 : y0 < 2 ^ 62) (hxy : x0 * y0 < 2 ^ 70) (h1 : 1 ≤ Nat.gcd x0 y0) : gx_M l G yX5_commonDivisor cX5_commonDivisor 11 (some .long) ({ frames := 0, cells := 0, slots := 0, locals := 0 } : Room) [.long (lN x0), .long (lN y0)] (ws) (fun w u => w = some (.long (lN (Nat.gcd x0 y0))) ∧ u = ws) := by
  refine gx_start (by decide +kernel) (Nat.le_of_ble_eq_true rfl) ?_
  intro p e s m args below meth c A ls C hr hnm hW hl
  have gX := C.x
  have gB := C.b
  have hl : lv_has ls 11 [(0, .long (lN x0)), (2, .long (lN y0))] := hl
  refine lv_lload_n gX gB dX5_commonDivisor_0 rfl (lv_at hl 0 rfl) ?_
  refine lv_lstore (lv' := [(4, .long (lN x0)), (0, .long (lN x0)), (2, .long (lN y0))]) gX gB dX5_commonDivisor_1 hl (by decide) rfl (fun ls hl => ?_)
  refine lv_lload_n gX gB dX5_commonDivisor_3 rfl (lv_at hl 2 rfl) ?_
  refine lv_lstore (lv' := [(6, .long (lN y0)), (4, .long (lN x0)), (0, .long (lN x0)), (2, .long (lN y0))]) gX gB dX5_commonDivisor_4 hl (by decide) rfl (fun ls hl => ?_)
  refine lv_iconst (v := 0) gX gB dX5_commonDivisor_6 (by decide) ?_
  refine lv_istore (lv' := [(8, .int 0), (6, .long (lN y0)), (4, .long (lN x0)), (0, .long (lN x0)), (2, .long (lN y0))]) gX gB dX5_commonDivisor_7 hl (by decide) rfl (fun ls hl => ?_)
  have loop : ∀ (r : Nat) (i u v p0 : Nat), (101 - i < r) → (i ≤ 100) → (Nat.gcd u v = Nat.gcd x0 y0) → (u * v < 2 ^ p0) → ((v ≤ u ∧ i + p0 ≤ 100) ∨ i + p0 + 1 ≤ 100) → (u < 2 ^ 62) → (v < 2 ^ 62) → ∀ (H : Heap) (locs : List Loc), gx_W G A s (ws) H locs → ∀ ls : Array Slot, lv_has ls 11 [(8, .int (nI i)), (4, .long (lN u)), (6, .long (lN v))] → W p l e ({ frames := 0, cells := 0, slots := 0, locals := 0 } : Room) s m args below meth c H locs 0 0 (MQ below (gx_Q G A (fun w u => w = some (.long (lN (Nat.gcd x0 y0))) ∧ u = ws)) args s (({ frames := 0, cells := 0, slots := 0, locals := 0 } : Room)).cells (({ frames := 0, cells := 0, slots := 0, locals := 0 } : Room)).slots A) (F0 m 9 ls []) := by
    intro r
    induction r with
    | zero => intro i u v p0 hfu hi hg hb hc hu hv H locs hW ls hl; exact absurd hfu (Nat.not_lt_zero _)
    | succ r ih =>
      intro i u v p0 hfu hi hg hb hc hu hv H locs hW ls hl
      rcases Nat.eq_zero_or_pos v with hv0 | hv0
      · have hu1 : u = Nat.gcd x0 y0 := by rw [← hg, hv0, Nat.gcd_zero_right]
        refine lv_iload gX gB dX5_commonDivisor_9 (lv_at hl 0 rfl) ?_
        refine lv_bipush (v := 100) gX gB dX5_commonDivisor_11 (by decide) ?_
        refine lv_icmp_ge (tgt := 44) gX gB dX5_commonDivisor_13 (by decide) (fun c13 => ?_) (fun c13 => ?_)
        · refine lv_lload gX gB dX5_commonDivisor_44 (lv_at hl 1 rfl) ?_
          refine lv_lconst (v := 1) gX gB dX5_commonDivisor_46 (by decide) ?_
          refine gx_lc_ge (tgt := 55) C dX5_commonDivisor_47 dX5_commonDivisor_48 (by decide) (fun _ => ?_) (fun h9 => absurd (show (1 : Int64) ≤ (lN u) from (pk_lLE (a := 1) (b := u) (by decide) (by omega)).mpr (by omega)) h9)
          refine lv_lload gX gB dX5_commonDivisor_55 (lv_at hl 1 rfl) ?_
          exact gx_lret C hr hW (⟨by rw [← hu1], rfl⟩) (Nat.le_of_ble_eq_true rfl) (Nat.le_of_ble_eq_true rfl) dX5_commonDivisor_57
        · refine lv_lload gX gB dX5_commonDivisor_16 (lv_at hl 2 rfl) ?_
          refine lv_lconst (v := 0) gX gB dX5_commonDivisor_18 (by decide) ?_
          refine gx_lc_eq (tgt := 44) C dX5_commonDivisor_19 dX5_commonDivisor_20 (by decide) (fun _ => ?_) (fun h9 => absurd (show (lN v) = (0 : Int64) from (pk_lEQ (a := v) (b := 0) (by omega) (by decide)).mpr hv0) h9)
          refine lv_lload gX gB dX5_commonDivisor_44 (lv_at hl 1 rfl) ?_
          refine lv_lconst (v := 1) gX gB dX5_commonDivisor_46 (by decide) ?_
          refine gx_lc_ge (tgt := 55) C dX5_commonDivisor_47 dX5_commonDivisor_48 (by decide) (fun _ => ?_) (fun h9 => absurd (show (1 : Int64) ≤ (lN u) from (pk_lLE (a := 1) (b := u) (by decide) (by omega)).mpr (by omega)) h9)
          refine lv_lload gX gB dX5_commonDivisor_55 (lv_at hl 1 rfl) ?_
          exact gx_lret C hr hW (⟨by rw [← hu1], rfl⟩) (Nat.le_of_ble_eq_true rfl) (Nat.le_of_ble_eq_true rfl) dX5_commonDivisor_57
      · refine lv_iload gX gB dX5_commonDivisor_9 (lv_at hl 0 rfl) ?_
        refine lv_bipush (v := 100) gX gB dX5_commonDivisor_11 (by decide) ?_
        refine lv_icmp_ge (tgt := 44) gX gB dX5_commonDivisor_13 (by decide) (fun h9 => absurd (show (100 : Int32) ≤ (nI i) from h9) (nI_ge (by
          rcases Nat.lt_or_ge i 100 with h8 | h8
          · exact h8
          · exfalso
            rcases hc with ⟨hc1, hc2⟩ | hc2
            · rw [show p0 = 0 by omega, Nat.pow_zero] at hb
              have h7 : 0 < u * v := Nat.mul_pos (by omega) hv0
              omega
            · omega) (show (100 : Nat) < 2 ^ 31 by decide))) (fun _ => ?_)
        refine lv_lload gX gB dX5_commonDivisor_16 (lv_at hl 2 rfl) ?_
        refine lv_lconst (v := 0) gX gB dX5_commonDivisor_18 (by decide) ?_
        refine gx_lc_eq (tgt := 44) C dX5_commonDivisor_19 dX5_commonDivisor_20 (by decide) (fun h9 => absurd (show (lN v) = (0 : Int64) from h9) (fun zz => absurd ((pk_lEQ (a := v) (b := 0) (by omega) (by decide)).mp zz) (by omega))) (fun _ => ?_)
        refine lv_lload gX gB dX5_commonDivisor_23 (lv_at hl 1 rfl) ?_
        refine lv_lload gX gB dX5_commonDivisor_25 (lv_at hl 2 rfl) ?_
        refine lv_lrem gX gB dX5_commonDivisor_27 (fun zz => absurd ((pk_lEQ (a := v) (b := 0) (by omega) (by decide)).mp zz) (by omega)) ?_
        refine gx_topl (show ((lN u) - (lN u) / (lN v) * (lN v)) = lN (u % v) from pk_lRem (by omega) (by omega) (by omega)) ?_
        refine lv_lstore (lv' := [(9, .long (lN (u % v))), (8, .int (nI i)), (4, .long (lN u)), (6, .long (lN v))]) gX gB dX5_commonDivisor_28 hl (by decide) rfl (fun ls hl => ?_)
        refine lv_lload gX gB dX5_commonDivisor_30 (lv_at hl 3 rfl) ?_
        refine lv_lstore (lv' := [(4, .long (lN v)), (9, .long (lN (u % v))), (8, .int (nI i)), (6, .long (lN v))]) gX gB dX5_commonDivisor_32 hl (by decide) rfl (fun ls hl => ?_)
        refine lv_lload gX gB dX5_commonDivisor_34 (lv_at hl 1 rfl) ?_
        refine lv_lstore (lv' := [(6, .long (lN (u % v))), (4, .long (lN v)), (9, .long (lN (u % v))), (8, .int (nI i))]) gX gB dX5_commonDivisor_36 hl (by decide) rfl (fun ls hl => ?_)
        refine lv_iinc (v := nI (i + 1)) (lv' := [(8, .int (nI (i + 1))), (6, .long (lN (u % v))), (4, .long (lN v)), (9, .long (lN (u % v)))]) gX gB dX5_commonDivisor_38 hl (k := 3) rfl (by exact nI_1 i) (by decide) rfl (fun ls hl => ?_)
        refine lv_goto (tgt := 9) gX gB dX5_commonDivisor_41 (by decide) ?_
        rcases hc with ⟨hc1, hc2⟩ | hc2
        · obtain ⟨p, rfl⟩ : ∃ p1, p0 = p1 + 1 := by
            cases p0 with
            | zero =>
              have h8 : 0 < u * v := Nat.mul_pos (by omega) hv0
              rw [Nat.pow_zero] at hb; omega
            | succ p1 => exact ⟨p1, rfl⟩
          exact ih (i + 1) v (u % v) p (by omega) (by omega) (by rw [Nat.gcd_comm, ← Nat.gcd_rec, Nat.gcd_comm]; exact hg) (gc_half hc1 hv0 hb) (Or.inl ⟨Nat.le_of_lt (Nat.mod_lt _ hv0), by omega⟩) (by omega) (by have := Nat.mod_lt u hv0; omega) _ _ hW ls (lv_sub hl [0, 2, 1] rfl)
        · rcases Nat.lt_or_ge u v with h8 | h8
          · exact ih (i + 1) v (u % v) p0 (by omega) (by omega) (by rw [Nat.gcd_comm, ← Nat.gcd_rec, Nat.gcd_comm]; exact hg) (by rw [Nat.mod_eq_of_lt h8, Nat.mul_comm]; exact hb) (Or.inl ⟨Nat.le_of_lt (Nat.mod_lt _ hv0), by omega⟩) (by omega) (by have := Nat.mod_lt u hv0; omega) _ _ hW ls (lv_sub hl [0, 2, 1] rfl)
          · obtain ⟨p, rfl⟩ : ∃ p1, p0 = p1 + 1 := by
              cases p0 with
              | zero =>
                have h7 : 0 < u * v := Nat.mul_pos (by omega) hv0
                rw [Nat.pow_zero] at hb; omega
              | succ p1 => exact ⟨p1, rfl⟩
            exact ih (i + 1) v (u % v) p (by omega) (by omega) (by rw [Nat.gcd_comm, ← Nat.gcd_rec, Nat.gcd_comm]; exact hg) (gc_half h8 hv0 hb) (Or.inl ⟨Nat.le_of_lt (Nat.mod_lt _ hv0), by omega⟩) (by omega) (by have := Nat.mod_lt u hv0; omega) _ _ hW ls (lv_sub hl [0, 2, 1] rfl)
  exact loop 102 0 x0 y0 70 (by omega) (by omega) rfl hxy (Or.inr (by omega)) hx0 hy0 _ _ hW ls (lv_sub hl [0, 2, 1] rfl)
abbrev pl_on (d : ld_T) (k : Int32) : Int64 := if k = 0 then d.1 else if k = 1 then d.2.1 else d.2.2.1
def ce_code (ax p2 : Int32) (all : Int64) : Int32 := if ax < 0 ∨ 2 < ax ∨ p2 < 0 ∨ 1 < p2 then 1 else if all = 0 then 2 else 0
def ce_all (dw : ld_T) (ps : Nat → ld_T) (n : Nat) : Int64 := mo_sum dw.2.2.2.1 (fun i => (ps i).2.2.2.1) n
def ce_sum (dw : ld_T) (ps : Nat → ld_T) (ax : Int32) (n : Nat) : Int64 := mo_sum (dw.2.2.2.1 * pl_on dw ax) (fun i => (ps i).2.2.2.1 * pl_on (ps i) ax) n
def tr_is (L : List Nat) (f : Nat → va_E) (a : Nat) (d : ld_T × Int32) : Prop := ∃ w : Nat, a ∈ L ∧ f a = .inr (8, [.ref w, .int d.2]) ∧ ld_is L f w d.1
abbrev op_n (dc k : Int32) : Int32 := if k < dc then k else dc
def ts_code (nt ns : Nat) (k w : Int32) : Int32 := if k < 0 ∨ ¬ k < nI nt then 1 else if w < 0 ∨ 2 < w then 2 else if w = 0 ∧ ns = 0 then 3 else 0
def ts_val (td : Nat → ld_T × Int32) (dc : Int32) (vd : Int32 → ld_T → Nat) (k w : Int32) : Int32 := if w = 1 then (td k.toNatClampNeg).1.2.2.2.1.toInt32 else if w = 2 then op_n dc (td k.toNatClampNeg).2 else nI (vd (op_n dc (td k.toNatClampNeg).2) (td k.toNatClampNeg).1)
noncomputable def an_at (v : Nat → Nat) (n : Nat) : Int32 := @ite _ (∀ j, j < n → v j = 0) (Classical.propDecidable _) 0 1
theorem an_yes {v : Nat → Nat} {n : Nat} (h : ∀ j, j < n → v j = 0) : an_at v n = 0 := by
  unfold an_at
  rw [if_pos h]
theorem an_no {v : Nat → Nat} {n j : Nat} (hj : j < n) (h : ¬ v j = 0) : an_at v n = 1 := by
  unfold an_at
  rw [if_neg (fun z => h (z j hj))]
def ce_val (dw : ld_T) (ps : Nat → ld_T) (n gN sN : Nat) (ax p2 : Int32) : Int64 := if p2 = 0 then ce_sum dw ps ax n / lN (Nat.gcd gN sN) else ce_all dw ps n / lN (Nat.gcd gN sN)
set_option maxHeartbeats 4000000 in
set_option maxRecDepth 100000 in
theorem kX5_centre (l : Launch) (hfl : l.flags = flags0) (G : gx_T) (L : List Nat) (f : Nat → va_E) (x P F S X N T E : Nat) (dc : Int32) (hx : x ∈ L) (fx : f x = .inr (10, [.ref P, .ref F, .ref S, .ref X, .ref N, .ref T, .ref E, .int dc])) (bP : Option Nat) (pa : List Nat) (ps : Nat → ld_T) (hlp : ls_at G L f P bP pa) (hld : ∀ i (h : i < pa.length), ld_is L f pa[i] (ps i)) (dw : ld_T) (hE : ld_is L f E dw) (ax p2 : Int32) (gN sN : Nat) (hgN : ce_all dw ps pa.length = lN gN) (hg0 : gN < 2 ^ 26) (hsN : (if 0 < ce_sum dw ps ax pa.length then ce_sum dw ps ax pa.length else -ce_sum dw ps ax pa.length) = lN sN) (hs0 : sN < 2 ^ 44) (hgs : gN * sN < 2 ^ 70) : gx_MX l G yX5_centre cX5_centre 9 (some .long) ({ frames := 6, cells := 1, slots := 6, locals := 90 } : Room) [.ref x, .int ax, .int p2] (va_pl L f) (fun v u => v = some (.long (ce_val dw ps pa.length gN sN ax p2)) ∧ u = va_pl L f ∧ ce_code ax p2 (ce_all dw ps pa.length) = 0) (fun Ex u => u = va_pl L f ∧ px2 gx_E3 gx_E1 (ce_code ax p2 (ce_all dw ps pa.length)) Ex) := by
  refine gx_startX (by decide +kernel) (Nat.le_of_ble_eq_true rfl) ?_
  intro p e s m args below meth c A ls C hr hno hW hl
  have gX := C.x
  have gB := C.b
  have hl : lv_has ls 9 [(0, .ref x), (1, .int ax), (2, .int p2)] := hl
  refine lv_iload_n gX gB dX5_centre_0 rfl (lv_at hl 1 rfl) ?_
  refine lv_if_lt (tgt := 9) gX gB dX5_centre_1 (by decide) (fun c1 => ?_) (fun c1 => ?_)
  · exact gx_throw (text := "no such axis") hfl C hno hW gx_thr3 (by decide +kernel) (tq_4 84 (by decide +kernel) rfl) (tq_1 24 (by decide +kernel) rfl) (tr_4 112 (by decide +kernel)) hl.1 dX5_centre_9 dX5_centre_12 dX5_centre_13 dX5_centre_15 dX5_centre_18 (Nat.le_of_ble_eq_true rfl) (Nat.le_of_ble_eq_true rfl) (Nat.le_of_ble_eq_true rfl) (Nat.le_of_ble_eq_true rfl) (⟨rfl, Or.inl ⟨rfl, by simp [ce_code, c1]⟩⟩) (Nat.le_of_ble_eq_true rfl) (Nat.le_of_ble_eq_true rfl)
  · refine lv_iload_n gX gB dX5_centre_4 rfl (lv_at hl 1 rfl) ?_
    refine lv_iconst (v := 2) gX gB dX5_centre_5 (by decide) ?_
    refine lv_icmp_le (tgt := 19) gX gB dX5_centre_6 (by decide) (fun c6 => ?_) (fun c6 => ?_)
    · refine lv_iload_n gX gB dX5_centre_19 rfl (lv_at hl 2 rfl) ?_
      refine lv_if_lt (tgt := 28) gX gB dX5_centre_20 (by decide) (fun c20 => ?_) (fun c20 => ?_)
      · exact gx_throw (text := "a fraction has no such part") hfl C hno hW gx_thr3 (by decide +kernel) (tq_4 84 (by decide +kernel) rfl) (tq_1 24 (by decide +kernel) rfl) (tr_4 113 (by decide +kernel)) hl.1 dX5_centre_28 dX5_centre_31 dX5_centre_32 dX5_centre_34 dX5_centre_37 (Nat.le_of_ble_eq_true rfl) (Nat.le_of_ble_eq_true rfl) (Nat.le_of_ble_eq_true rfl) (Nat.le_of_ble_eq_true rfl) (⟨rfl, Or.inl ⟨rfl, by simp [ce_code, c1, Int32.not_lt.mpr c6, c20]⟩⟩) (Nat.le_of_ble_eq_true rfl) (Nat.le_of_ble_eq_true rfl)
      · refine lv_iload_n gX gB dX5_centre_23 rfl (lv_at hl 2 rfl) ?_
        refine lv_iconst (v := 1) gX gB dX5_centre_24 (by decide) ?_
        refine lv_icmp_le (tgt := 38) gX gB dX5_centre_25 (by decide) (fun c25 => ?_) (fun c25 => ?_)
        · refine lv_aload_n gX gB dX5_centre_38 rfl (lv_at hl 0 rfl) ?_
          refine gx_get C hW fX5_41 (gx_pl hx fx) rfl dX5_centre_39 ?_
          refine gx_getN C hW fX5_112n (gx_pl hE.1 hE.2) rfl dX5_centre_42 ?_
          refine lv_lstore_n (lv' := [(3, .long dw.2.2.2.1), (0, .ref x), (1, .int ax), (2, .int p2)]) gX gB dX5_centre_45 rfl hl (by decide) rfl (fun ls hl => ?_)
          refine lv_aload_n gX gB dX5_centre_46 rfl (lv_at hl 1 rfl) ?_
          refine gx_get C hW fX5_41 (gx_pl hx fx) rfl dX5_centre_47 ?_
          refine gx_getN C hW fX5_112n (gx_pl hE.1 hE.2) rfl dX5_centre_50 ?_
          refine lv_aload_n gX gB dX5_centre_53 rfl (lv_at hl 1 rfl) ?_
          refine gx_get C hW fX5_41 (gx_pl hx fx) rfl dX5_centre_54 ?_
          refine lv_iload_n gX gB dX5_centre_57 rfl (lv_at hl 2 rfl) ?_
          refine gx_callVN (wr := []) (rest := [.long dw.2.2.2.1]) C hW sX5_119n (kX1_placeOn l G L f E dw.1 dw.2.1 dw.2.2.1 dw.2.2.2.1 dw.2.2.2.2.2 dw.2.2.2.2.1 ax hE.1 hE.2) (gx_pl hE.1 hE.2) rfl rfl ⟨(Nat.le_of_ble_eq_true rfl), (Nat.le_of_ble_eq_true rfl)⟩ hl.1 rfl (Nat.le_of_ble_eq_true rfl) dX5_centre_58 ⟨(Nat.le_of_ble_eq_true rfl), (Nat.le_of_ble_eq_true rfl)⟩ (fun v9 u9 H locs hp hW => ?_)
          obtain ⟨rfl, hu⟩ := hp
          rw [hu] at hW
          have hW : gx_W G A s (va_pl L f) H locs := hW
          refine W.eq (g2 := F0 m 61 ls [.long (pl_on dw ax), .long dw.2.2.2.1]) rfl ?_
          refine W.widen (k := 0) (n := 0) (Nat.le_of_ble_eq_true rfl) (Nat.le_of_ble_eq_true rfl) ?_
          refine lv_lmul gX gB dX5_centre_61 ?_
          refine lv_lstore (lv' := [(5, .long (dw.2.2.2.1 * (pl_on dw ax))), (3, .long dw.2.2.2.1), (0, .ref x), (1, .int ax), (2, .int p2)]) gX gB dX5_centre_62 hl (by decide) rfl (fun ls hl => ?_)
          refine lv_iconst (v := 0) gX gB dX5_centre_64 (by decide) ?_
          refine lv_istore (lv' := [(7, .int 0), (5, .long (dw.2.2.2.1 * (pl_on dw ax))), (3, .long dw.2.2.2.1), (0, .ref x), (1, .int ax), (2, .int p2)]) gX gB dX5_centre_65 hl (by decide) rfl (fun ls hl => ?_)
          have hl : lv_has ls 9 [(7, .int (nI 0)), (5, .long (mo_sum (dw.2.2.2.1 * pl_on dw ax) (fun i => (ps i).2.2.2.1 * pl_on (ps i) ax) 0)), (3, .long (mo_sum dw.2.2.2.1 (fun i => (ps i).2.2.2.1) 0)), (0, .ref x), (1, .int ax), (2, .int p2)] := hl
          have loop : ∀ (r : Nat) (i : Nat), (pa.length - i < r) → (i ≤ pa.length) → ∀ (H : Heap) (locs : List Loc), gx_W G A s (va_pl L f) H locs → ∀ ls : Array Slot, lv_has ls 9 [(7, .int (nI i)), (3, .long (mo_sum dw.2.2.2.1 (fun i => (ps i).2.2.2.1) i)), (5, .long (mo_sum (dw.2.2.2.1 * pl_on dw ax) (fun i => (ps i).2.2.2.1 * pl_on (ps i) ax) i)), (0, .ref x), (1, .int ax), (2, .int p2)] → W p l e ({ frames := 6, cells := 1, slots := 6, locals := 90 } : Room) s m args below meth c H locs 0 0 (vx_MQ below (gx_Q G A (fun v u => v = some (.long (ce_val dw ps pa.length gN sN ax p2)) ∧ u = va_pl L f ∧ ce_code ax p2 (ce_all dw ps pa.length) = 0)) (gx_X G A (fun Ex u => u = va_pl L f ∧ px2 gx_E3 gx_E1 (ce_code ax p2 (ce_all dw ps pa.length)) Ex)) args s (({ frames := 6, cells := 1, slots := 6, locals := 90 } : Room)).cells (({ frames := 6, cells := 1, slots := 6, locals := 90 } : Room)).slots A) (F0 m 67 ls []) := by
            intro r
            induction r with
            | zero => intro i hfu hi H locs hW ls hl; exact absurd hfu (Nat.not_lt_zero _)
            | succ r ih =>
              intro i hfu hi H locs hW ls hl
              rcases Nat.lt_or_ge i pa.length with hik | hik
              · refine lv_iload gX gB dX5_centre_67 (lv_at hl 0 rfl) ?_
                refine lv_aload_n gX gB dX5_centre_69 rfl (lv_at hl 3 rfl) ?_
                refine gx_get C hW fX5_10 (gx_pl hx fx) rfl dX5_centre_70 ?_
                refine gx_callV (wr := []) (rest := [.int (nI i)]) C hW sX5_48 (kL_size l G L f P bP pa hlp) (gx_pl hlp.1 (ls_at.head hlp).choose_spec.choose_spec) rfl rfl ⟨(Nat.le_of_ble_eq_true rfl), (Nat.le_of_ble_eq_true rfl)⟩ hl.1 rfl (Nat.le_of_ble_eq_true rfl) dX5_centre_73 ⟨(Nat.le_of_ble_eq_true rfl), (Nat.le_of_ble_eq_true rfl)⟩ (fun v9 u9 H locs hp hW => ?_)
                obtain ⟨rfl, hu⟩ := hp
                rw [hu] at hW
                have hW : gx_W G A s (va_pl L f) H locs := hW
                refine W.eq (g2 := F0 m 76 ls [.int (nI pa.length), .int (nI i)]) rfl ?_
                refine W.widen (k := 0) (n := 0) (Nat.le_of_ble_eq_true rfl) (Nat.le_of_ble_eq_true rfl) ?_
                refine lv_icmp_ge (tgt := 124) gX gB dX5_centre_76 (by decide) (fun h9 => absurd (show (nI pa.length) ≤ (nI i) from h9) (nI_ge hik (by have := hlp.lt; omega))) (fun _ => ?_)
                refine lv_aload_n gX gB dX5_centre_79 rfl (lv_at hl 3 rfl) ?_
                refine gx_get C hW fX5_10 (gx_pl hx fx) rfl dX5_centre_80 ?_
                refine lv_iload gX gB dX5_centre_83 (lv_at hl 0 rfl) ?_
                refine gx_callV (wr := []) (rest := []) C hW sX5_95 (kL_get l G L f P bP pa hlp i hik) (gx_pl hlp.1 (ls_at.head hlp).choose_spec.choose_spec) rfl rfl ⟨(Nat.le_of_ble_eq_true rfl), (Nat.le_of_ble_eq_true rfl)⟩ hl.1 rfl (Nat.le_of_ble_eq_true rfl) dX5_centre_85 ⟨(Nat.le_of_ble_eq_true rfl), (Nat.le_of_ble_eq_true rfl)⟩ (fun v9 u9 H locs hp hW => ?_)
                obtain ⟨rfl, hu⟩ := hp
                rw [hu] at hW
                have hW : gx_W G A s (va_pl L f) H locs := hW
                refine W.eq (g2 := F0 m 88 ls [.ref (pa[i])]) rfl ?_
                refine W.widen (k := 0) (n := 0) (Nat.le_of_ble_eq_true rfl) (Nat.le_of_ble_eq_true rfl) ?_
                refine gx_cast C hW (gx_pl ((hld i hik).1) ((hld i hik).2)) rfl (tq_1 99 (by decide +kernel) rfl) dX5_centre_88 ?_
                refine lv_astore (lv' := [(8, .ref (pa[i])), (7, .int (nI i)), (3, .long (mo_sum dw.2.2.2.1 (fun i => (ps i).2.2.2.1) i)), (5, .long (mo_sum (dw.2.2.2.1 * pl_on dw ax) (fun i => (ps i).2.2.2.1 * pl_on (ps i) ax) i)), (0, .ref x), (1, .int ax), (2, .int p2)]) gX gB dX5_centre_91 hl (by decide) rfl (fun ls hl => ?_)
                refine lv_lload_n gX gB dX5_centre_93 rfl (lv_at hl 2 rfl) ?_
                refine lv_aload gX gB dX5_centre_94 (lv_at hl 0 rfl) ?_
                refine gx_getN C hW fX5_112n (gx_pl ((hld i hik).1) ((hld i hik).2)) rfl dX5_centre_96 ?_
                refine lv_ladd gX gB dX5_centre_99 ?_
                refine lv_lstore_n (lv' := [(3, .long ((mo_sum dw.2.2.2.1 (fun i => (ps i).2.2.2.1) i) + ((ps i).2.2.2.1))), (8, .ref (pa[i])), (7, .int (nI i)), (5, .long (mo_sum (dw.2.2.2.1 * pl_on dw ax) (fun i => (ps i).2.2.2.1 * pl_on (ps i) ax) i)), (0, .ref x), (1, .int ax), (2, .int p2)]) gX gB dX5_centre_100 rfl hl (by decide) rfl (fun ls hl => ?_)
                refine lv_lload gX gB dX5_centre_101 (lv_at hl 3 rfl) ?_
                refine lv_aload gX gB dX5_centre_103 (lv_at hl 1 rfl) ?_
                refine gx_getN C hW fX5_112n (gx_pl ((hld i hik).1) ((hld i hik).2)) rfl dX5_centre_105 ?_
                refine lv_aload gX gB dX5_centre_108 (lv_at hl 1 rfl) ?_
                refine lv_iload_n gX gB dX5_centre_110 rfl (lv_at hl 5 rfl) ?_
                refine gx_callVN (wr := []) (rest := [.long ((ps i).2.2.2.1), .long (mo_sum (dw.2.2.2.1 * pl_on dw ax) (fun i => (ps i).2.2.2.1 * pl_on (ps i) ax) i)]) C hW sX5_119n (kX1_placeOn l G L f pa[i] (ps i).1 (ps i).2.1 (ps i).2.2.1 (ps i).2.2.2.1 (ps i).2.2.2.2.2 (ps i).2.2.2.2.1 ax ((hld i hik).1) ((hld i hik).2)) (gx_pl ((hld i hik).1) ((hld i hik).2)) rfl rfl ⟨(Nat.le_of_ble_eq_true rfl), (Nat.le_of_ble_eq_true rfl)⟩ hl.1 rfl (Nat.le_of_ble_eq_true rfl) dX5_centre_111 ⟨(Nat.le_of_ble_eq_true rfl), (Nat.le_of_ble_eq_true rfl)⟩ (fun v9 u9 H locs hp hW => ?_)
                obtain ⟨rfl, hu⟩ := hp
                rw [hu] at hW
                have hW : gx_W G A s (va_pl L f) H locs := hW
                refine W.eq (g2 := F0 m 114 ls [.long (pl_on (ps i) ax), .long ((ps i).2.2.2.1), .long (mo_sum (dw.2.2.2.1 * pl_on dw ax) (fun i => (ps i).2.2.2.1 * pl_on (ps i) ax) i)]) rfl ?_
                refine W.widen (k := 0) (n := 0) (Nat.le_of_ble_eq_true rfl) (Nat.le_of_ble_eq_true rfl) ?_
                refine lv_lmul gX gB dX5_centre_114 ?_
                refine lv_ladd gX gB dX5_centre_115 ?_
                refine lv_lstore (lv' := [(5, .long ((mo_sum (dw.2.2.2.1 * pl_on dw ax) (fun i => (ps i).2.2.2.1 * pl_on (ps i) ax) i) + (((ps i).2.2.2.1) * (pl_on (ps i) ax)))), (3, .long ((mo_sum dw.2.2.2.1 (fun i => (ps i).2.2.2.1) i) + ((ps i).2.2.2.1))), (8, .ref (pa[i])), (7, .int (nI i)), (0, .ref x), (1, .int ax), (2, .int p2)]) gX gB dX5_centre_116 hl (by decide) rfl (fun ls hl => ?_)
                refine lv_iinc (v := nI (i + 1)) (lv' := [(7, .int (nI (i + 1))), (5, .long ((mo_sum (dw.2.2.2.1 * pl_on dw ax) (fun i => (ps i).2.2.2.1 * pl_on (ps i) ax) i) + (((ps i).2.2.2.1) * (pl_on (ps i) ax)))), (3, .long ((mo_sum dw.2.2.2.1 (fun i => (ps i).2.2.2.1) i) + ((ps i).2.2.2.1))), (8, .ref (pa[i])), (0, .ref x), (1, .int ax), (2, .int p2)]) gX gB dX5_centre_118 hl (k := 3) rfl (by exact nI_1 i) (by decide) rfl (fun ls hl => ?_)
                refine lv_goto (tgt := 67) gX gB dX5_centre_121 (by decide) ?_
                exact ih (i + 1) (by omega) (by omega) _ _ hW ls (lv_sub hl [0, 2, 1, 4, 5, 6] rfl)
              · have hi9 : i = pa.length := by omega
                subst hi9
                have hl : lv_has ls 9 [(7, .int (nI pa.length)), (3, .long (ce_all dw ps pa.length)), (5, .long (ce_sum dw ps ax pa.length)), (0, .ref x), (1, .int ax), (2, .int p2)] := hl
                refine lv_iload gX gB dX5_centre_67 (lv_at hl 0 rfl) ?_
                refine lv_aload_n gX gB dX5_centre_69 rfl (lv_at hl 3 rfl) ?_
                refine gx_get C hW fX5_10 (gx_pl hx fx) rfl dX5_centre_70 ?_
                refine gx_callV (wr := []) (rest := [.int (nI pa.length)]) C hW sX5_48 (kL_size l G L f P bP pa hlp) (gx_pl hlp.1 (ls_at.head hlp).choose_spec.choose_spec) rfl rfl ⟨(Nat.le_of_ble_eq_true rfl), (Nat.le_of_ble_eq_true rfl)⟩ hl.1 rfl (Nat.le_of_ble_eq_true rfl) dX5_centre_73 ⟨(Nat.le_of_ble_eq_true rfl), (Nat.le_of_ble_eq_true rfl)⟩ (fun v9 u9 H locs hp hW => ?_)
                obtain ⟨rfl, hu⟩ := hp
                rw [hu] at hW
                have hW : gx_W G A s (va_pl L f) H locs := hW
                refine W.eq (g2 := F0 m 76 ls [.int (nI pa.length), .int (nI pa.length)]) rfl ?_
                refine W.widen (k := 0) (n := 0) (Nat.le_of_ble_eq_true rfl) (Nat.le_of_ble_eq_true rfl) ?_
                refine lv_icmp_ge (tgt := 124) gX gB dX5_centre_76 (by decide) (fun _ => ?_) (fun h9 => absurd (show (nI pa.length) ≤ (nI pa.length) from nI_le hik (by have := hlp.lt; omega)) h9)
                refine lv_lload_n gX gB dX5_centre_124 rfl (lv_at hl 1 rfl) ?_
                refine lv_lconst (v := 0) gX gB dX5_centre_125 (by decide) ?_
                refine gx_lc_ne (tgt := 140) C dX5_centre_126 dX5_centre_127 (by decide) (fun c126 => ?_) (fun c126 => ?_)
                · refine lv_lload_n gX gB dX5_centre_140 rfl (lv_at hl 1 rfl) ?_
                  refine lv_lload gX gB dX5_centre_141 (lv_at hl 2 rfl) ?_
                  refine gx_mabs C (tq_4 119 (by decide +kernel) rfl) hl.1 (Nat.le_of_ble_eq_true rfl) (Nat.le_of_ble_eq_true rfl) (Nat.le_of_ble_eq_true rfl) (Nat.le_of_ble_eq_true rfl) dX5_centre_143 ?_
                  refine gx_topl (show (if 0 < (ce_sum dw ps ax pa.length) then (ce_sum dw ps ax pa.length) else -(ce_sum dw ps ax pa.length)) = lN sN from hsN) ?_
                  have hg1 : ¬ gN = 0 := fun zz => absurd (show ce_all dw ps pa.length = 0 by rw [hgN, zz]; rfl) c126
                  have hg2 : 1 ≤ Nat.gcd gN sN := Nat.gcd_pos_of_pos_left _ (by omega)
                  refine W.eq (g2 := F0 m 146 ls [.long (lN sN), .long (lN gN)]) (by rw [hgN]) ?_
                  refine gx_callS (wr := []) (rest := []) C hW sX5_131 (kX5_commonDivisor l G (va_pl L f) gN sN (by omega) (by omega) hgs hg2) rfl ⟨(Nat.le_of_ble_eq_true rfl), (Nat.le_of_ble_eq_true rfl)⟩ hl.1 rfl (Nat.le_of_ble_eq_true rfl) dX5_centre_146 ⟨(Nat.le_of_ble_eq_true rfl), (Nat.le_of_ble_eq_true rfl)⟩ (fun v9 u9 H locs hp hW => ?_)
                  obtain ⟨rfl, hu⟩ := hp
                  rw [hu] at hW
                  have hW : gx_W G A s (va_pl L f) H locs := hW
                  refine W.eq (g2 := F0 m 149 ls [.long (lN (Nat.gcd gN sN))]) rfl ?_
                  refine W.widen (k := 0) (n := 0) (Nat.le_of_ble_eq_true rfl) (Nat.le_of_ble_eq_true rfl) ?_
                  refine lv_lstore (lv' := [(7, .long (lN (Nat.gcd gN sN))), (3, .long (ce_all dw ps pa.length)), (5, .long (ce_sum dw ps ax pa.length)), (0, .ref x), (1, .int ax), (2, .int p2)]) gX gB dX5_centre_149 hl (by decide) rfl (fun ls hl => ?_)
                  refine lv_iload_n gX gB dX5_centre_151 rfl (lv_at hl 5 rfl) ?_
                  refine lv_if_ne (tgt := 163) gX gB dX5_centre_152 (by decide) (fun c152 => ?_) (fun c152 => ?_)
                  · refine lv_lload_n gX gB dX5_centre_163 rfl (lv_at hl 1 rfl) ?_
                    refine lv_lload gX gB dX5_centre_164 (lv_at hl 0 rfl) ?_
                    refine lv_ldiv gX gB dX5_centre_166 (fun zz => absurd ((pk_lEQ (a := Nat.gcd gN sN) (b := 0) (by have := Nat.gcd_le_left sN (show 0 < gN by omega); omega) (by decide)).mp zz) (by omega)) ?_
                    refine vx_ret ?_
                    exact gx_lret C hr hW (⟨by simp [ce_val, c152], rfl, by simp [ce_code, c1, Int32.not_lt.mpr c6, c20, Int32.not_lt.mpr c25, c126]⟩) (Nat.le_of_ble_eq_true rfl) (Nat.le_of_ble_eq_true rfl) dX5_centre_167
                  · refine lv_lload gX gB dX5_centre_155 (lv_at hl 2 rfl) ?_
                    refine lv_lload gX gB dX5_centre_157 (lv_at hl 0 rfl) ?_
                    refine lv_ldiv gX gB dX5_centre_159 (fun zz => absurd ((pk_lEQ (a := Nat.gcd gN sN) (b := 0) (by have := Nat.gcd_le_left sN (show 0 < gN by omega); omega) (by decide)).mp zz) (by omega)) ?_
                    refine lv_goto (tgt := 167) gX gB dX5_centre_160 (by decide) ?_
                    refine vx_ret ?_
                    exact gx_lret C hr hW (⟨by simp [ce_val, c152], rfl, by simp [ce_code, c1, Int32.not_lt.mpr c6, c20, Int32.not_lt.mpr c25, c126]⟩) (Nat.le_of_ble_eq_true rfl) (Nat.le_of_ble_eq_true rfl) dX5_centre_167
                · exact gx_throw (text := "no grams") hfl C hno hW gx_thr1 (by decide +kernel) (tq_3 191 (by decide +kernel) rfl) (tq_1 14 (by decide +kernel) rfl) (tr_4 118 (by decide +kernel)) hl.1 dX5_centre_130 dX5_centre_133 dX5_centre_134 dX5_centre_136 dX5_centre_139 (Nat.le_of_ble_eq_true rfl) (Nat.le_of_ble_eq_true rfl) (Nat.le_of_ble_eq_true rfl) (Nat.le_of_ble_eq_true rfl) (⟨rfl, Or.inr ⟨rfl, by simp [ce_code, c1, Int32.not_lt.mpr c6, c20, Int32.not_lt.mpr c25, c126]⟩⟩) (Nat.le_of_ble_eq_true rfl) (Nat.le_of_ble_eq_true rfl)
          exact loop (pa.length + 1) 0 (by omega) (Nat.zero_le _) _ _ hW ls (lv_sub hl [0, 2, 1, 3, 4, 5] rfl)
        · exact gx_throw (text := "a fraction has no such part") hfl C hno hW gx_thr3 (by decide +kernel) (tq_4 84 (by decide +kernel) rfl) (tq_1 24 (by decide +kernel) rfl) (tr_4 113 (by decide +kernel)) hl.1 dX5_centre_28 dX5_centre_31 dX5_centre_32 dX5_centre_34 dX5_centre_37 (Nat.le_of_ble_eq_true rfl) (Nat.le_of_ble_eq_true rfl) (Nat.le_of_ble_eq_true rfl) (Nat.le_of_ble_eq_true rfl) (⟨rfl, Or.inl ⟨rfl, by simp [ce_code, c1, Int32.not_lt.mpr c6, c20, Int32.not_le.mp c25]⟩⟩) (Nat.le_of_ble_eq_true rfl) (Nat.le_of_ble_eq_true rfl)
    · exact gx_throw (text := "no such axis") hfl C hno hW gx_thr3 (by decide +kernel) (tq_4 84 (by decide +kernel) rfl) (tq_1 24 (by decide +kernel) rfl) (tr_4 112 (by decide +kernel)) hl.1 dX5_centre_9 dX5_centre_12 dX5_centre_13 dX5_centre_15 dX5_centre_18 (Nat.le_of_ble_eq_true rfl) (Nat.le_of_ble_eq_true rfl) (Nat.le_of_ble_eq_true rfl) (Nat.le_of_ble_eq_true rfl) (⟨rfl, Or.inl ⟨rfl, by simp [ce_code, c1, Int32.not_le.mp c6]⟩⟩) (Nat.le_of_ble_eq_true rfl) (Nat.le_of_ble_eq_true rfl)
theorem ts_w {w : Int32} (h0 : ¬ w < 0) (h2 : ¬ 2 < w) (h1 : ¬ w = 1) (h3 : ¬ w = 2) : w = 0 := by
  rcases pk_ix w (n := 3) (by decide) with h8 | h8 | ⟨q, h8, rfl⟩
  · exact absurd h8 h0
  · exfalso
    rw [Int32.lt_iff_toInt_lt] at h2
    rw [Int32.le_iff_toInt_le] at h8
    have e1 : (nI 3).toInt = 3 := by decide
    have e2 : (2 : Int32).toInt = 2 := by decide
    omega
  · match q, h8 with
    | 0, _ => rfl
    | 1, _ => exact absurd rfl h1
    | 2, _ => exact absurd rfl h3
set_option maxHeartbeats 4000000 in
set_option maxRecDepth 100000 in
theorem kX5_test (l : Launch) (hfl : l.flags = flags0) (G : gx_T) (L : List Nat) (f : Nat → va_E) (x P F S X N T E : Nat) (dc : Int32) (hx : x ∈ L) (fx : f x = .inr (10, [.ref P, .ref F, .ref S, .ref X, .ref N, .ref T, .ref E, .int dc])) (bP : Option Nat) (pa : List Nat) (ps : Nat → ld_T) (hlp : ls_at G L f P bP pa) (hld : ∀ i (h : i < pa.length), ld_is L f pa[i] (ps i)) (bS : Option Nat) (sa : List Nat) (sd : Nat → sd_T) (hlS : ls_at G L f S bS sa) (hsd : ∀ j (h : j < sa.length), sd_is L f sa[j] (sd j)) (bT : Option Nat) (ta : List Nat) (td : Nat → ld_T × Int32) (hlT : ls_at G L f T bT ta) (htd : ∀ j (h : j < ta.length), tr_is L f ta[j] (td j)) (k w : Int32) : gx_MX l G yX5_test cX5_test 4 (some .int) ({ frames := 7, cells := 2, slots := 12, locals := 113 } : Room) [.ref x, .int k, .int w] (va_pl L f) (fun v u => v = some (.int (ts_val td dc (fun k who => vd_at (fun j => mo_of (sd j).2.1 (sd j).2.2 k who ps pa.length) sa.length) k w)) ∧ u = va_pl L f ∧ ts_code ta.length sa.length k w = 0) (fun Ex u => u = va_pl L f ∧ px3 gx_E3 gx_E2 gx_E1 (ts_code ta.length sa.length k w) Ex) := by
  refine gx_startX (by decide +kernel) (Nat.le_of_ble_eq_true rfl) ?_
  intro p e s m args below meth c A ls C hr hno hW hl
  have gX := C.x
  have gB := C.b
  have hl : lv_has ls 4 [(0, .ref x), (1, .int k), (2, .int w)] := hl
  refine lv_iload_n gX gB dX5_test_0 rfl (lv_at hl 1 rfl) ?_
  refine lv_if_lt (tgt := 15) gX gB dX5_test_1 (by decide) (fun c1 => ?_) (fun c1 => ?_)
  · exact gx_throw (text := "no such test") hfl C hno hW gx_thr3 (by decide +kernel) (tq_4 84 (by decide +kernel) rfl) (tq_1 24 (by decide +kernel) rfl) (tr_4 188 (by decide +kernel)) hl.1 dX5_test_15 dX5_test_18 dX5_test_19 dX5_test_21 dX5_test_24 (Nat.le_of_ble_eq_true rfl) (Nat.le_of_ble_eq_true rfl) (Nat.le_of_ble_eq_true rfl) (Nat.le_of_ble_eq_true rfl) (⟨rfl, Or.inl ⟨rfl, by simp [ts_code, c1]⟩⟩) (Nat.le_of_ble_eq_true rfl) (Nat.le_of_ble_eq_true rfl)
  · refine lv_iload_n gX gB dX5_test_4 rfl (lv_at hl 1 rfl) ?_
    refine lv_aload_n gX gB dX5_test_5 rfl (lv_at hl 0 rfl) ?_
    refine gx_get C hW fX5_38 (gx_pl hx fx) rfl dX5_test_6 ?_
    refine gx_callV (wr := []) (rest := [.int k]) C hW sX5_48 (kL_size l G L f T bT ta hlT) (gx_pl hlT.1 (ls_at.head hlT).choose_spec.choose_spec) rfl rfl ⟨(Nat.le_of_ble_eq_true rfl), (Nat.le_of_ble_eq_true rfl)⟩ hl.1 rfl (Nat.le_of_ble_eq_true rfl) dX5_test_9 ⟨(Nat.le_of_ble_eq_true rfl), (Nat.le_of_ble_eq_true rfl)⟩ (fun v9 u9 H locs hp hW => ?_)
    obtain ⟨rfl, hu⟩ := hp
    rw [hu] at hW
    have hW : gx_W G A s (va_pl L f) H locs := hW
    refine W.eq (g2 := F0 m 12 ls [.int (nI ta.length), .int k]) rfl ?_
    refine W.widen (k := 0) (n := 0) (Nat.le_of_ble_eq_true rfl) (Nat.le_of_ble_eq_true rfl) ?_
    refine lv_icmp_lt (tgt := 25) gX gB dX5_test_12 (by decide) (fun c12 => ?_) (fun c12 => ?_)
    · refine lv_iload_n gX gB dX5_test_25 rfl (lv_at hl 2 rfl) ?_
      refine lv_if_lt (tgt := 34) gX gB dX5_test_26 (by decide) (fun c26 => ?_) (fun c26 => ?_)
      · exact gx_throw (text := "a test tells no such thing") hfl C hno hW gx_thr2 (by decide +kernel) (tq_3 215 (by decide +kernel) rfl) (tq_1 15 (by decide +kernel) rfl) (tr_4 189 (by decide +kernel)) hl.1 dX5_test_34 dX5_test_37 dX5_test_38 dX5_test_40 dX5_test_43 (Nat.le_of_ble_eq_true rfl) (Nat.le_of_ble_eq_true rfl) (Nat.le_of_ble_eq_true rfl) (Nat.le_of_ble_eq_true rfl) (⟨rfl, Or.inr (Or.inl ⟨rfl, by simp [ts_code, c1, c12, c26]⟩)⟩) (Nat.le_of_ble_eq_true rfl) (Nat.le_of_ble_eq_true rfl)
      · refine lv_iload_n gX gB dX5_test_29 rfl (lv_at hl 2 rfl) ?_
        refine lv_iconst (v := 2) gX gB dX5_test_30 (by decide) ?_
        refine lv_icmp_le (tgt := 44) gX gB dX5_test_31 (by decide) (fun c31 => ?_) (fun c31 => ?_)
        · refine lv_aload_n gX gB dX5_test_44 rfl (lv_at hl 0 rfl) ?_
          refine gx_get C hW fX5_38 (gx_pl hx fx) rfl dX5_test_45 ?_
          refine lv_iload_n gX gB dX5_test_48 rfl (lv_at hl 1 rfl) ?_
          obtain ⟨j, hj, rfl⟩ := nI_cases k (by have := hlT.lt; omega) (c1) c12
          have hj31 : j < 2 ^ 31 := by have := hlT.lt; omega
          obtain ⟨tw, ht1, ft1, hw1⟩ := htd j hj
          refine gx_callV (wr := []) (rest := []) C hW sX5_95 (kL_get l G L f T bT ta hlT j hj) (gx_pl hlT.1 (ls_at.head hlT).choose_spec.choose_spec) rfl rfl ⟨(Nat.le_of_ble_eq_true rfl), (Nat.le_of_ble_eq_true rfl)⟩ hl.1 rfl (Nat.le_of_ble_eq_true rfl) dX5_test_49 ⟨(Nat.le_of_ble_eq_true rfl), (Nat.le_of_ble_eq_true rfl)⟩ (fun v9 u9 H locs hp hW => ?_)
          obtain ⟨rfl, hu⟩ := hp
          rw [hu] at hW
          have hW : gx_W G A s (va_pl L f) H locs := hW
          refine W.eq (g2 := F0 m 52 ls [.ref (ta[j])]) rfl ?_
          refine W.widen (k := 0) (n := 0) (Nat.le_of_ble_eq_true rfl) (Nat.le_of_ble_eq_true rfl) ?_
          refine gx_cast C hW (gx_pl ht1 ft1) rfl (tq_4 190 (by decide +kernel) rfl) dX5_test_52 ?_
          refine lv_astore_n (lv' := [(3, .ref (ta[j])), (0, .ref x), (1, .int (nI j)), (2, .int w)]) gX gB dX5_test_55 rfl hl (by decide) rfl (fun ls hl => ?_)
          refine lv_iload_n gX gB dX5_test_56 rfl (lv_at hl 3 rfl) ?_
          refine lv_iconst (v := 1) gX gB dX5_test_57 (by decide) ?_
          refine lv_icmp_ne (tgt := 70) gX gB dX5_test_58 (by decide) (fun c58 => ?_) (fun c58 => ?_)
          · refine lv_iload_n gX gB dX5_test_70 rfl (lv_at hl 3 rfl) ?_
            refine lv_iconst (v := 2) gX gB dX5_test_71 (by decide) ?_
            refine lv_icmp_ne (tgt := 81) gX gB dX5_test_72 (by decide) (fun c72 => ?_) (fun c72 => ?_)
            · refine lv_aload_n gX gB dX5_test_81 rfl (lv_at hl 1 rfl) ?_
              have hw9 : w = 0 := ts_w (c26) (Int32.not_lt.mpr c31) (c58) (c72)
              refine gx_callVX (wr := []) (rest := []) C hW sX5_135 (kX5_needPolygon l hfl G L f x P F S X N T E dc hx fx bS sa hlS) (gx_pl hx fx) rfl rfl ⟨(Nat.le_of_ble_eq_true rfl), (Nat.le_of_ble_eq_true rfl)⟩ hl.1 rfl (Nat.le_of_ble_eq_true rfl) dX5_test_82 ⟨(Nat.le_of_ble_eq_true rfl), (Nat.le_of_ble_eq_true rfl)⟩ (fun E ce q9 u9 H locs hpx hW hce hcv hcl => gx_out C hno hW hce hcv hcl (⟨hpx.2.1, Or.inr (Or.inr ⟨hpx.1, by simp [ts_code, hpx.2.2, hw9, c1, c12]⟩)⟩) (Nat.le_of_ble_eq_true rfl) (Nat.le_of_ble_eq_true rfl)) (fun v9 u9 H locs hp hW => ?_)
              obtain ⟨rfl, hu, hns⟩ := hp
              rw [hu] at hW
              have hW : gx_W G A s (va_pl L f) H locs := hW
              refine W.eq (g2 := F0 m 85 ls []) rfl ?_
              refine W.widen (k := 1) (n := 6) (Nat.le_of_ble_eq_true rfl) (Nat.le_of_ble_eq_true rfl) ?_
              refine lv_aload_n gX gB dX5_test_85 rfl (lv_at hl 1 rfl) ?_
              refine lv_aload_n gX gB dX5_test_86 rfl (lv_at hl 1 rfl) ?_
              refine lv_aload_n gX gB dX5_test_87 rfl (lv_at hl 0 rfl) ?_
              refine gx_callV (wr := []) (rest := [.ref x]) C hW sX5_194 (kX5_openDrawers l G L f x P F S X N T E dc hx fx ta[j] tw (td j).2 ht1 ft1) (gx_pl hx fx) rfl rfl ⟨(Nat.le_of_ble_eq_true rfl), (Nat.le_of_ble_eq_true rfl)⟩ hl.1 rfl (Nat.le_of_ble_eq_true rfl) dX5_test_88 ⟨(Nat.le_of_ble_eq_true rfl), (Nat.le_of_ble_eq_true rfl)⟩ (fun v9 u9 H locs hp hW => ?_)
              obtain ⟨rfl, hu⟩ := hp
              rw [hu] at hW
              have hW : gx_W G A s (va_pl L f) H locs := hW
              refine W.eq (g2 := F0 m 91 ls [.int (op_n dc (td j).2), .ref x]) rfl ?_
              refine W.widen (k := 1) (n := 6) (Nat.le_of_ble_eq_true rfl) (Nat.le_of_ble_eq_true rfl) ?_
              refine lv_aload_n gX gB dX5_test_91 rfl (lv_at hl 0 rfl) ?_
              refine gx_getN C hW fX5_191n (gx_pl ht1 ft1) rfl dX5_test_92 ?_
              refine gx_callV (wr := []) (rest := []) C hW sX5_151 (kX5_verdict l G L f x P F S X N T E dc hx fx bP pa ps hlp hld bS sa sd hlS hsd tw (td j).1 hw1 (op_n dc (td j).2)) (gx_pl hx fx) rfl rfl ⟨(Nat.le_of_ble_eq_true rfl), (Nat.le_of_ble_eq_true rfl)⟩ hl.1 rfl (Nat.le_of_ble_eq_true rfl) dX5_test_95 ⟨(Nat.le_of_ble_eq_true rfl), (Nat.le_of_ble_eq_true rfl)⟩ (fun v9 u9 H locs hp hW => ?_)
              obtain ⟨rfl, hu⟩ := hp
              rw [hu] at hW
              have hW : gx_W G A s (va_pl L f) H locs := hW
              refine W.eq (g2 := F0 m 98 ls [.int (nI (vd_at (fun j_1 => mo_of (sd j_1).2.1 (sd j_1).2.2 (op_n dc (td j).2) (td j).1 ps pa.length) sa.length))]) rfl ?_
              refine W.widen (k := 1) (n := 6) (Nat.le_of_ble_eq_true rfl) (Nat.le_of_ble_eq_true rfl) ?_
              refine vx_ret ?_
              exact gx_iret C hr hW (⟨by simp [ts_val, nI_clamp hj31, hw9, c58, c72], rfl, by simp [ts_code, hw9, c1, c12, c26, Int32.not_lt.mpr c31, c58, c72, hns]⟩) (Nat.le_of_ble_eq_true rfl) (Nat.le_of_ble_eq_true rfl) dX5_test_98
            · refine lv_aload_n gX gB dX5_test_75 rfl (lv_at hl 1 rfl) ?_
              refine lv_aload_n gX gB dX5_test_76 rfl (lv_at hl 0 rfl) ?_
              refine gx_callV (wr := []) (rest := []) C hW sX5_194 (kX5_openDrawers l G L f x P F S X N T E dc hx fx ta[j] tw (td j).2 ht1 ft1) (gx_pl hx fx) rfl rfl ⟨(Nat.le_of_ble_eq_true rfl), (Nat.le_of_ble_eq_true rfl)⟩ hl.1 rfl (Nat.le_of_ble_eq_true rfl) dX5_test_77 ⟨(Nat.le_of_ble_eq_true rfl), (Nat.le_of_ble_eq_true rfl)⟩ (fun v9 u9 H locs hp hW => ?_)
              obtain ⟨rfl, hu⟩ := hp
              rw [hu] at hW
              have hW : gx_W G A s (va_pl L f) H locs := hW
              refine W.eq (g2 := F0 m 80 ls [.int (op_n dc (td j).2)]) rfl ?_
              refine W.widen (k := 0) (n := 0) (Nat.le_of_ble_eq_true rfl) (Nat.le_of_ble_eq_true rfl) ?_
              refine vx_ret ?_
              exact gx_iret C hr hW (⟨by simp [ts_val, nI_clamp hj31, c58, c72], rfl, by simp [ts_code, c1, c12, c26, Int32.not_lt.mpr c31, c58, c72]⟩) (Nat.le_of_ble_eq_true rfl) (Nat.le_of_ble_eq_true rfl) dX5_test_80
          · refine lv_aload_n gX gB dX5_test_61 rfl (lv_at hl 0 rfl) ?_
            refine gx_getN C hW fX5_191n (gx_pl ht1 ft1) rfl dX5_test_62 ?_
            refine gx_getN C hW fX5_112n (gx_pl hw1.1 hw1.2) rfl dX5_test_65 ?_
            refine lv_l2i gX gB dX5_test_68 rfl ?_
            refine vx_ret ?_
            exact gx_iret C hr hW (⟨by simp [ts_val, nI_clamp hj31, c58], rfl, by simp [ts_code, c1, c12, c26, Int32.not_lt.mpr c31, c58]⟩) (Nat.le_of_ble_eq_true rfl) (Nat.le_of_ble_eq_true rfl) dX5_test_69
        · exact gx_throw (text := "a test tells no such thing") hfl C hno hW gx_thr2 (by decide +kernel) (tq_3 215 (by decide +kernel) rfl) (tq_1 15 (by decide +kernel) rfl) (tr_4 189 (by decide +kernel)) hl.1 dX5_test_34 dX5_test_37 dX5_test_38 dX5_test_40 dX5_test_43 (Nat.le_of_ble_eq_true rfl) (Nat.le_of_ble_eq_true rfl) (Nat.le_of_ble_eq_true rfl) (Nat.le_of_ble_eq_true rfl) (⟨rfl, Or.inr (Or.inl ⟨rfl, by simp [ts_code, c1, c12, c26, Int32.not_le.mp c31]⟩)⟩) (Nat.le_of_ble_eq_true rfl) (Nat.le_of_ble_eq_true rfl)
    · exact gx_throw (text := "no such test") hfl C hno hW gx_thr3 (by decide +kernel) (tq_4 84 (by decide +kernel) rfl) (tq_1 24 (by decide +kernel) rfl) (tr_4 188 (by decide +kernel)) hl.1 dX5_test_15 dX5_test_18 dX5_test_19 dX5_test_21 dX5_test_24 (Nat.le_of_ble_eq_true rfl) (Nat.le_of_ble_eq_true rfl) (Nat.le_of_ble_eq_true rfl) (Nat.le_of_ble_eq_true rfl) (⟨rfl, Or.inl ⟨rfl, by simp [ts_code, c1, c12]⟩⟩) (Nat.le_of_ble_eq_true rfl) (Nat.le_of_ble_eq_true rfl)
set_option maxHeartbeats 4000000 in
set_option maxRecDepth 100000 in
theorem kX5_anchor (l : Launch) (hfl : l.flags = flags0) (G : gx_T) (L : List Nat) (f : Nat → va_E) (x P F S X N T E : Nat) (dc : Int32) (hx : x ∈ L) (fx : f x = .inr (10, [.ref P, .ref F, .ref S, .ref X, .ref N, .ref T, .ref E, .int dc])) (bP : Option Nat) (pa : List Nat) (ps : Nat → ld_T) (hlp : ls_at G L f P bP pa) (hld : ∀ i (h : i < pa.length), ld_is L f pa[i] (ps i)) (bS : Option Nat) (sa : List Nat) (sd : Nat → sd_T) (hlS : ls_at G L f S bS sa) (hsd : ∀ j (h : j < sa.length), sd_is L f sa[j] (sd j)) (bT : Option Nat) (ta : List Nat) (td : Nat → ld_T × Int32) (hlT : ls_at G L f T bT ta) (htd : ∀ j (h : j < ta.length), tr_is L f ta[j] (td j)) : gx_MX l G yX5_anchor cX5_anchor 3 (some .boolean) ({ frames := 7, cells := 1, slots := 6, locals := 113 } : Room) [.ref x] (va_pl L f) (fun v u => v = some (.int (an_at (fun j => vd_at (fun j_1 => mo_of (sd j_1).2.1 (sd j_1).2.2 (op_n dc (td j).2) (td j).1 ps pa.length) sa.length) ta.length)) ∧ u = va_pl L f ∧ ms_code sa.length = 0) (fun Ex u => u = va_pl L f ∧ px1 gx_E1 (ms_code sa.length) Ex) := by
  refine gx_startX (by decide +kernel) (Nat.le_of_ble_eq_true rfl) ?_
  intro p e s m args below meth c A ls C hr hno hW hl
  have gX := C.x
  have gB := C.b
  have hl : lv_has ls 3 [(0, .ref x)] := hl
  refine lv_aload_n gX gB dX5_anchor_0 rfl (lv_at hl 0 rfl) ?_
  refine gx_callVX (wr := []) (rest := []) C hW sX5_135 (kX5_needPolygon l hfl G L f x P F S X N T E dc hx fx bS sa hlS) (gx_pl hx fx) rfl rfl ⟨(Nat.le_of_ble_eq_true rfl), (Nat.le_of_ble_eq_true rfl)⟩ hl.1 rfl (Nat.le_of_ble_eq_true rfl) dX5_anchor_1 ⟨(Nat.le_of_ble_eq_true rfl), (Nat.le_of_ble_eq_true rfl)⟩ (fun E ce q9 u9 H locs hpx hW hce hcv hcl => gx_out C hno hW hce hcv hcl (⟨hpx.2.1, hpx.1, by simp [ms_code, hpx.2.2]⟩) (Nat.le_of_ble_eq_true rfl) (Nat.le_of_ble_eq_true rfl)) (fun v9 u9 H locs hp hW => ?_)
  obtain ⟨rfl, hu, hns⟩ := hp
  rw [hu] at hW
  have hW : gx_W G A s (va_pl L f) H locs := hW
  refine W.eq (g2 := F0 m 4 ls []) rfl ?_
  refine W.widen (k := 1) (n := 6) (Nat.le_of_ble_eq_true rfl) (Nat.le_of_ble_eq_true rfl) ?_
  refine lv_iconst (v := 0) gX gB dX5_anchor_4 (by decide) ?_
  refine lv_istore_n (lv' := [(1, .int 0), (0, .ref x)]) gX gB dX5_anchor_5 rfl hl (by decide) rfl (fun ls hl => ?_)
  have hl : lv_has ls 3 [(1, .int (nI 0)), (0, .ref x)] := hl
  have loop : ∀ (r : Nat) (j : Nat), (ta.length - j < r) → (j ≤ ta.length) → (∀ q, q < j → (fun j => vd_at (fun j_1 => mo_of (sd j_1).2.1 (sd j_1).2.2 (op_n dc (td j).2) (td j).1 ps pa.length) sa.length) q = 0) → ∀ (H : Heap) (locs : List Loc), gx_W G A s (va_pl L f) H locs → ∀ ls : Array Slot, lv_has ls 3 [(1, .int (nI j)), (0, .ref x)] → W p l e ({ frames := 7, cells := 1, slots := 6, locals := 113 } : Room) s m args below meth c H locs 1 6 (vx_MQ below (gx_Q G A (fun v u => v = some (.int (an_at (fun j => vd_at (fun j_1 => mo_of (sd j_1).2.1 (sd j_1).2.2 (op_n dc (td j).2) (td j).1 ps pa.length) sa.length) ta.length)) ∧ u = va_pl L f ∧ ms_code sa.length = 0)) (gx_X G A (fun Ex u => u = va_pl L f ∧ px1 gx_E1 (ms_code sa.length) Ex)) args s (({ frames := 7, cells := 1, slots := 6, locals := 113 } : Room)).cells (({ frames := 7, cells := 1, slots := 6, locals := 113 } : Room)).slots A) (F0 m 6 ls []) := by
    intro r
    induction r with
    | zero => intro j hfu hj hall H locs hW ls hl; exact absurd hfu (Nat.not_lt_zero _)
    | succ r ih =>
      intro j hfu hj hall H locs hW ls hl
      rcases Nat.lt_or_ge j ta.length with hjk | hjk
      · refine lv_iload_n gX gB dX5_anchor_6 rfl (lv_at hl 0 rfl) ?_
        refine lv_aload_n gX gB dX5_anchor_7 rfl (lv_at hl 1 rfl) ?_
        refine gx_get C hW fX5_38 (gx_pl hx fx) rfl dX5_anchor_8 ?_
        refine gx_callV (wr := []) (rest := [.int (nI j)]) C hW sX5_48 (kL_size l G L f T bT ta hlT) (gx_pl hlT.1 (ls_at.head hlT).choose_spec.choose_spec) rfl rfl ⟨(Nat.le_of_ble_eq_true rfl), (Nat.le_of_ble_eq_true rfl)⟩ hl.1 rfl (Nat.le_of_ble_eq_true rfl) dX5_anchor_11 ⟨(Nat.le_of_ble_eq_true rfl), (Nat.le_of_ble_eq_true rfl)⟩ (fun v9 u9 H locs hp hW => ?_)
        obtain ⟨rfl, hu⟩ := hp
        rw [hu] at hW
        have hW : gx_W G A s (va_pl L f) H locs := hW
        refine W.eq (g2 := F0 m 14 ls [.int (nI ta.length), .int (nI j)]) rfl ?_
        refine W.widen (k := 1) (n := 6) (Nat.le_of_ble_eq_true rfl) (Nat.le_of_ble_eq_true rfl) ?_
        refine lv_icmp_ge (tgt := 53) gX gB dX5_anchor_14 (by decide) (fun h9 => absurd (show (nI ta.length) ≤ (nI j) from h9) (nI_ge hjk (by have := hlT.lt; omega))) (fun _ => ?_)
        refine lv_aload_n gX gB dX5_anchor_17 rfl (lv_at hl 1 rfl) ?_
        refine gx_get C hW fX5_38 (gx_pl hx fx) rfl dX5_anchor_18 ?_
        refine lv_iload_n gX gB dX5_anchor_21 rfl (lv_at hl 0 rfl) ?_
        obtain ⟨tw, ht1, ft1, hw1⟩ := htd j hjk
        refine gx_callV (wr := []) (rest := []) C hW sX5_95 (kL_get l G L f T bT ta hlT j hjk) (gx_pl hlT.1 (ls_at.head hlT).choose_spec.choose_spec) rfl rfl ⟨(Nat.le_of_ble_eq_true rfl), (Nat.le_of_ble_eq_true rfl)⟩ hl.1 rfl (Nat.le_of_ble_eq_true rfl) dX5_anchor_22 ⟨(Nat.le_of_ble_eq_true rfl), (Nat.le_of_ble_eq_true rfl)⟩ (fun v9 u9 H locs hp hW => ?_)
        obtain ⟨rfl, hu⟩ := hp
        rw [hu] at hW
        have hW : gx_W G A s (va_pl L f) H locs := hW
        refine W.eq (g2 := F0 m 25 ls [.ref (ta[j])]) rfl ?_
        refine W.widen (k := 1) (n := 6) (Nat.le_of_ble_eq_true rfl) (Nat.le_of_ble_eq_true rfl) ?_
        refine gx_cast C hW (gx_pl ht1 ft1) rfl (tq_4 190 (by decide +kernel) rfl) dX5_anchor_25 ?_
        refine lv_astore_n (lv' := [(2, .ref (ta[j])), (1, .int (nI j)), (0, .ref x)]) gX gB dX5_anchor_28 rfl hl (by decide) rfl (fun ls hl => ?_)
        refine lv_aload_n gX gB dX5_anchor_29 rfl (lv_at hl 2 rfl) ?_
        refine lv_aload_n gX gB dX5_anchor_30 rfl (lv_at hl 2 rfl) ?_
        refine lv_aload_n gX gB dX5_anchor_31 rfl (lv_at hl 0 rfl) ?_
        refine gx_callV (wr := []) (rest := [.ref x]) C hW sX5_194 (kX5_openDrawers l G L f x P F S X N T E dc hx fx ta[j] tw (td j).2 ht1 ft1) (gx_pl hx fx) rfl rfl ⟨(Nat.le_of_ble_eq_true rfl), (Nat.le_of_ble_eq_true rfl)⟩ hl.1 rfl (Nat.le_of_ble_eq_true rfl) dX5_anchor_32 ⟨(Nat.le_of_ble_eq_true rfl), (Nat.le_of_ble_eq_true rfl)⟩ (fun v9 u9 H locs hp hW => ?_)
        obtain ⟨rfl, hu⟩ := hp
        rw [hu] at hW
        have hW : gx_W G A s (va_pl L f) H locs := hW
        refine W.eq (g2 := F0 m 35 ls [.int (op_n dc (td j).2), .ref x]) rfl ?_
        refine W.widen (k := 1) (n := 6) (Nat.le_of_ble_eq_true rfl) (Nat.le_of_ble_eq_true rfl) ?_
        refine lv_aload_n gX gB dX5_anchor_35 rfl (lv_at hl 0 rfl) ?_
        refine gx_getN C hW fX5_191n (gx_pl ht1 ft1) rfl dX5_anchor_36 ?_
        refine gx_callV (wr := []) (rest := []) C hW sX5_151 (kX5_verdict l G L f x P F S X N T E dc hx fx bP pa ps hlp hld bS sa sd hlS hsd tw (td j).1 hw1 (op_n dc (td j).2)) (gx_pl hx fx) rfl rfl ⟨(Nat.le_of_ble_eq_true rfl), (Nat.le_of_ble_eq_true rfl)⟩ hl.1 rfl (Nat.le_of_ble_eq_true rfl) dX5_anchor_39 ⟨(Nat.le_of_ble_eq_true rfl), (Nat.le_of_ble_eq_true rfl)⟩ (fun v9 u9 H locs hp hW => ?_)
        obtain ⟨rfl, hu⟩ := hp
        rw [hu] at hW
        have hW : gx_W G A s (va_pl L f) H locs := hW
        refine W.eq (g2 := F0 m 42 ls [.int (nI (vd_at (fun j_1 => mo_of (sd j_1).2.1 (sd j_1).2.2 (op_n dc (td j).2) (td j).1 ps pa.length) sa.length))]) rfl ?_
        refine W.widen (k := 1) (n := 6) (Nat.le_of_ble_eq_true rfl) (Nat.le_of_ble_eq_true rfl) ?_
        refine lv_if_eq (tgt := 47) gX gB dX5_anchor_42 (by decide) (fun c42 => ?_) (fun c42 => ?_)
        · refine lv_iinc (v := nI (j + 1)) (lv' := [(1, .int (nI (j + 1))), (2, .ref (ta[j])), (0, .ref x)]) gX gB dX5_anchor_47 hl (k := 1) rfl (by exact nI_1 j) (by decide) rfl (fun ls hl => ?_)
          refine lv_goto (tgt := 6) gX gB dX5_anchor_50 (by decide) ?_
          exact ih (j + 1) (by omega) (by omega) (fun q hq => by
            rcases Nat.lt_or_ge q j with h8 | h8
            · exact hall q h8
            · rw [show q = j by omega]
              show vd_at (fun j_1 => mo_of (sd j_1).2.1 (sd j_1).2.2 (op_n dc (td j).2) (td j).1 ps pa.length) sa.length = 0
              exact (nI_eq (b := 0) (by have := vd_le (fun j_1 => mo_of (sd j_1).2.1 (sd j_1).2.2 (op_n dc (td j).2) (td j).1 ps pa.length) sa.length; have := hlS.lt; omega) (by decide)).mp c42) _ _ hW ls (lv_sub hl [0, 2] rfl)
        · refine lv_iconst (v := 1) gX gB dX5_anchor_45 (by decide) ?_
          refine vx_ret ?_
          exact gx_zret C hr (by decide) hW (⟨by rw [an_no hjk (fun zz => c42 (by rw [zz]; rfl))], rfl, by simp [ms_code, hns]⟩) (Nat.le_of_ble_eq_true rfl) (Nat.le_of_ble_eq_true rfl) dX5_anchor_46
      · refine lv_iload_n gX gB dX5_anchor_6 rfl (lv_at hl 0 rfl) ?_
        refine lv_aload_n gX gB dX5_anchor_7 rfl (lv_at hl 1 rfl) ?_
        refine gx_get C hW fX5_38 (gx_pl hx fx) rfl dX5_anchor_8 ?_
        refine gx_callV (wr := []) (rest := [.int (nI j)]) C hW sX5_48 (kL_size l G L f T bT ta hlT) (gx_pl hlT.1 (ls_at.head hlT).choose_spec.choose_spec) rfl rfl ⟨(Nat.le_of_ble_eq_true rfl), (Nat.le_of_ble_eq_true rfl)⟩ hl.1 rfl (Nat.le_of_ble_eq_true rfl) dX5_anchor_11 ⟨(Nat.le_of_ble_eq_true rfl), (Nat.le_of_ble_eq_true rfl)⟩ (fun v9 u9 H locs hp hW => ?_)
        obtain ⟨rfl, hu⟩ := hp
        rw [hu] at hW
        have hW : gx_W G A s (va_pl L f) H locs := hW
        refine W.eq (g2 := F0 m 14 ls [.int (nI ta.length), .int (nI j)]) rfl ?_
        refine W.widen (k := 1) (n := 6) (Nat.le_of_ble_eq_true rfl) (Nat.le_of_ble_eq_true rfl) ?_
        refine lv_icmp_ge (tgt := 53) gX gB dX5_anchor_14 (by decide) (fun _ => ?_) (fun h9 => absurd (show (nI ta.length) ≤ (nI j) from nI_le hjk (by have := hlT.lt; omega)) h9)
        refine lv_iconst (v := 0) gX gB dX5_anchor_53 (by decide) ?_
        refine vx_ret ?_
        exact gx_zret C hr (by decide) hW (⟨by rw [an_yes (fun q hq => hall q (by omega))], rfl, by simp [ms_code, hns]⟩) (Nat.le_of_ble_eq_true rfl) (Nat.le_of_ble_eq_true rfl) dX5_anchor_54
  exact loop (ta.length + 1) 0 (by omega) (Nat.zero_le _) (fun q hq => absurd hq (Nat.not_lt_zero _)) _ _ hW ls (lv_sub hl [0, 1] rfl)
