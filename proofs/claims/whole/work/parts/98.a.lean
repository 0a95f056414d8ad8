/-! DOUBLES: wobble, bend, creep. -/
section
variable {G : gx_T} {p : Program} {l : Launch} {e : Env} {R : Room} {s : State} {m : MethodId} {args : Array Value} {below : List Frame} {meth : Method} {c : Code} {H : Heap} {locs : List Loc} {cells slots : Nat}
variable {cc : ByteArray} {nL pc : Nat} {own : String} {A : Nat → Prop} {ls : Array Slot} {ws : va_W} {post : Option Value → va_W → Prop}
theorem gx_dret {v : UInt64} {mc ms : Nat} (C : gx_C G p s m args meth c cc nL own A) (hr : meth.sig.returnType = some .double) (hW : gx_W G A s ws H locs) (hp : post (some (.double v)) ws) (hc : cells ≤ mc) (hs : slots ≤ ms) (d : decode cc pc = .ok (.dreturn, 1)) : W p l e R s m args below meth c H locs cells slots (MQ below (gx_Q G A post) args s mc ms A) (F0 m pc ls [.double v]) :=
  W.widen hc hs (W.dret C.x C.b hr (gx_end hW hp) hW.2.2.2.2 d C.2.1)
end
abbrev fd_x (fd : Nat → ft_T) (i : Nat) : Int64 := (fd i).1
abbrev fd_y (fd : Nat → ft_T) (i : Nat) : Int64 := (fd i).2
abbrev hg_ok (x : Int64) : Prop := in_rng (-1000) 1000 x
def wb_code (n : Nat) (cr z1 z2 z3 z4 : Int64) : Int32 := if nI n < 4 ∨ cr = 0 then 1 else if hg_ok z1 ∧ hg_ok z2 ∧ hg_ok z3 ∧ hg_ok z4 then 0 else 2
theorem wb_1 {n : Nat} {cr z1 z2 z3 z4 : Int64} (h : nI n < 4 ∨ cr = 0) : wb_code n cr z1 z2 z3 z4 = 1 := if_pos h
theorem wb_2 {n : Nat} {cr z1 z2 z3 z4 : Int64} (h1 : ¬ nI n < 4) (h2 : ¬ cr = 0) (h : ¬ (hg_ok z1 ∧ hg_ok z2 ∧ hg_ok z3 ∧ hg_ok z4)) : wb_code n cr z1 z2 z3 z4 = 2 := by
  unfold wb_code
  rw [if_neg (fun z => z.elim h1 h2), if_neg h]
theorem wb_0 {n : Nat} {cr z1 z2 z3 z4 : Int64} (h1 : ¬ nI n < 4) (h2 : ¬ cr = 0) (h : hg_ok z1 ∧ hg_ok z2 ∧ hg_ok z3 ∧ hg_ok z4) : wb_code n cr z1 z2 z3 z4 = 0 := by
  unfold wb_code
  rw [if_neg (fun z => z.elim h1 h2), if_pos h]
def wb_off (fx fy : Nat → Int64) (z1 z2 z3 z4 : Int64) : UInt64 := FP.dsub (FP.l2d (z4 - z1)) (FP.ddiv (FP.l2d ((z2 - z1) * cr_s fx fy 3 2 + (z3 - z1) * cr_s fx fy 1 3)) (FP.l2d (cr_s fx fy 1 2)))
def wb_val (fx fy : Nat → Int64) (z1 z2 z3 z4 : Int64) : UInt64 := if Op.cmpValue (FP.dcmp (wb_off fx fy z1 z2 z3 z4) FP.dconst0) .g < 0 then FP.dneg (wb_off fx fy z1 z2 z3 z4) else wb_off fx fy z1 z2 z3 z4
theorem wb_p {fx fy : Nat → Int64} {z1 z2 z3 z4 : Int64} {off : UInt64} (e : off = wb_off fx fy z1 z2 z3 z4) (h : ¬ Op.cmpValue (FP.dcmp off FP.dconst0) .g < 0) : some (Value.double off) = some (Value.double (wb_val fx fy z1 z2 z3 z4)) := by
  unfold wb_val
  rw [← e, if_neg h]
theorem wb_n {fx fy : Nat → Int64} {z1 z2 z3 z4 : Int64} {off : UInt64} (e : off = wb_off fx fy z1 z2 z3 z4) (h : Op.cmpValue (FP.dcmp off FP.dconst0) .g < 0) : some (Value.double (FP.dneg off)) = some (Value.double (wb_val fx fy z1 z2 z3 z4)) := by
  unfold wb_val
  rw [← e, if_pos h]
abbrev be_l (v : UInt64) : Prop := sz_ok FP.dconst0 4666723172467343360 v
abbrev be_w (v : UInt64) : Prop := sz_ok 4593671619917905920 4652007308841189376 v
def be_code (sp wi th lo : UInt64) : Int32 := if be_l lo ∧ be_l sp ∧ be_w wi ∧ be_w th then 0 else 1
theorem be_1 {sp wi th lo : UInt64} (h : ¬ (be_l lo ∧ be_l sp ∧ be_w wi ∧ be_w th)) : be_code sp wi th lo = 1 := if_neg h
theorem be_0 {sp wi th lo : UInt64} (h : be_l lo ∧ be_l sp ∧ be_w wi ∧ be_w th) : be_code sp wi th lo = 0 := if_pos h
def be_val (sp wi th lo : UInt64) : UInt64 := FP.ddiv (FP.dmul (FP.dmul (FP.dmul (FP.dmul 4594797519824748544 lo) sp) sp) sp) (FP.dmul (FP.dmul (FP.dmul wi th) th) th)
theorem fp_d0 : fp_D FP.dconst0 = .fin false 0 (-1074) := by decide +kernel
theorem fp_d1 : fp_D FP.dconst1 = .fin false 4503599627370496 (-52) := by decide +kernel
theorem fp_k4 : fp_D 4666723172467343360 = .fin false 5497558138880000 (-39) := by decide +kernel
theorem fp_kl : fp_D 4593671619917905920 = .fin false 4503599627370496 (-55) := by decide +kernel
theorem fp_kg : fp_D 4652007308841189376 = .fin false 8796093022208000 (-43) := by decide +kernel
theorem fp_k5 : fp_D 4594797519824748544 = .fin false 5629499534213120 (-55) := by decide +kernel
theorem fp_kh : fp_D 4602678819172646912 = .fin false 4503599627370496 (-53) := by decide +kernel
theorem be_lu {v : UInt64} (h : be_l v) : fp_ub (fp_D v) 14 := fp_szu fp_d0 fp_k4 h (by decide +kernel)
theorem be_wu {v : UInt64} (h : be_w v) : fp_ub (fp_D v) 10 := fp_szu fp_kl fp_kg h (by decide +kernel)
theorem be_wl {v : UInt64} (h : be_w v) : fp_lb (fp_D v) (-3) := fp_szl fp_kl fp_kg h (by decide) (by decide +kernel)
theorem be_k5 : fp_ub (fp_D 4594797519824748544) (-2) := ⟨_, _, _, fp_k5, by decide +kernel⟩
section
variable {sp wi th lo : UInt64}
theorem be_s1 (h3 : be_w wi) (h4 : be_w th) : (fp_ub (fp_D (FP.dmul wi th)) (10 + 10 + 1) ∧ vf_n64 (FP.dmul wi th)) ∧ fp_lb (fp_D (FP.dmul wi th)) (-3 + -3) := ⟨fp_mub (be_wu h3) (be_wu h4) (by decide) (by decide), fp_mlb (be_wu h3) (be_wu h4) (be_wl h3) (be_wl h4) (by decide) (by decide)⟩
theorem be_s2 (h3 : be_w wi) (h4 : be_w th) : (fp_ub (fp_D (FP.dmul (FP.dmul wi th) th)) (10 + 10 + 1 + 10 + 1) ∧ vf_n64 (FP.dmul (FP.dmul wi th) th)) ∧ fp_lb (fp_D (FP.dmul (FP.dmul wi th) th)) (-3 + -3 + -3) := ⟨fp_mub (be_s1 h3 h4).1.1 (be_wu h4) (by decide) (by decide), fp_mlb (be_s1 h3 h4).1.1 (be_wu h4) (be_s1 h3 h4).2 (be_wl h4) (by decide) (by decide)⟩
theorem be_s3 (h3 : be_w wi) (h4 : be_w th) : (fp_ub (fp_D (FP.dmul (FP.dmul (FP.dmul wi th) th) th)) (10 + 10 + 1 + 10 + 1 + 10 + 1) ∧ vf_n64 (FP.dmul (FP.dmul (FP.dmul wi th) th) th)) ∧ fp_lb (fp_D (FP.dmul (FP.dmul (FP.dmul wi th) th) th)) (-3 + -3 + -3 + -3) := ⟨fp_mub (be_s2 h3 h4).1.1 (be_wu h4) (by decide) (by decide), fp_mlb (be_s2 h3 h4).1.1 (be_wu h4) (be_s2 h3 h4).2 (be_wl h4) (by decide) (by decide)⟩
theorem be_t1 (h1 : be_l lo) : fp_ub (fp_D (FP.dmul 4594797519824748544 lo)) (-2 + 14 + 1) ∧ vf_n64 (FP.dmul 4594797519824748544 lo) := fp_mub be_k5 (be_lu h1) (by decide) (by decide)
theorem be_t2 (h1 : be_l lo) (h2 : be_l sp) : fp_ub (fp_D (FP.dmul (FP.dmul 4594797519824748544 lo) sp)) (-2 + 14 + 1 + 14 + 1) ∧ vf_n64 (FP.dmul (FP.dmul 4594797519824748544 lo) sp) := fp_mub (be_t1 h1).1 (be_lu h2) (by decide) (by decide)
theorem be_t3 (h1 : be_l lo) (h2 : be_l sp) : fp_ub (fp_D (FP.dmul (FP.dmul (FP.dmul 4594797519824748544 lo) sp) sp)) (-2 + 14 + 1 + 14 + 1 + 14 + 1) ∧ vf_n64 (FP.dmul (FP.dmul (FP.dmul 4594797519824748544 lo) sp) sp) := fp_mub (be_t2 h1 h2).1 (be_lu h2) (by decide) (by decide)
theorem be_t4 (h1 : be_l lo) (h2 : be_l sp) : fp_ub (fp_D (FP.dmul (FP.dmul (FP.dmul (FP.dmul 4594797519824748544 lo) sp) sp) sp)) (-2 + 14 + 1 + 14 + 1 + 14 + 1 + 14 + 1) ∧ vf_n64 (FP.dmul (FP.dmul (FP.dmul (FP.dmul 4594797519824748544 lo) sp) sp) sp) := fp_mub (be_t3 h1 h2).1 (be_lu h2) (by decide) (by decide)
theorem be_q (h1 : be_l lo) (h2 : be_l sp) (h3 : be_w wi) (h4 : be_w th) : vf_n64 (be_val sp wi th lo) := (fp_div (fp_fin_n (be_t4 h1 h2).1.fin) (be_s3 h3 h4).2.nz).1
end
def yc_code (y : Int32) : Int32 := if y < 0 ∨ 1000 < y then 1 else 0
theorem yc_1 {y : Int32} (h : y < 0 ∨ 1000 < y) : yc_code y = 1 := if_pos h
theorem yc_0 {y : Int32} (h : ¬ y < 0) (h2 : ¬ 1000 < y) : yc_code y = 0 := if_neg (fun z => z.elim h h2)
def yc_val (y : Int32) : UInt64 := FP.dadd FP.dconst1 (FP.ddiv (FP.dmul 4602678819172646912 (FP.i2d y)) (FP.i2d (y + 2)))
theorem yc_m (y : Int32) : vf_n64 (FP.dmul 4602678819172646912 (FP.i2d y)) ∧ ¬ fp_D (FP.dmul 4602678819172646912 (FP.i2d y)) = .nan := fp_mfin ⟨_, _, _, fp_kh⟩ (fp_i2d y).1
theorem yc_nz {y : Int32} (h : ¬ y < 0) (h2 : ¬ 1000 < y) : ¬ (y + 2).toInt = 0 := by
  rw [Int32.lt_iff_toInt_lt] at h h2
  rw [show (0 : Int32).toInt = 0 by decide] at h
  rw [show (1000 : Int32).toInt = 1000 by decide] at h2
  rw [Int32.toInt_add, show (2 : Int32).toInt = 2 by decide, Int.bmod_eq_of_le (by omega) (by omega)]
  omega
theorem yc_d {y : Int32} (h : ¬ y < 0) (h2 : ¬ 1000 < y) : vf_n64 (FP.ddiv (FP.dmul 4602678819172646912 (FP.i2d y)) (FP.i2d (y + 2))) ∧ ¬ fp_D (FP.ddiv (FP.dmul 4602678819172646912 (FP.i2d y)) (FP.i2d (y + 2))) = .nan := fp_div (yc_m y).2 ((fp_i2d (y + 2)).2 (yc_nz h h2))
theorem yc_a {y : Int32} (h : ¬ y < 0) (h2 : ¬ 1000 < y) : vf_n64 (yc_val y) := fp_add ⟨_, _, _, fp_d1⟩ (yc_d h h2).2
set_option maxHeartbeats 4000000 in
set_option maxRecDepth 100000 in
theorem kX5_isSize (l : Launch) (G : gx_T) (ws : va_W) (v a b : UInt64) : gx_M l G yX5_isSize cX5_isSize 6 (some .boolean) ({ frames := 0, cells := 0, slots := 0, locals := 0 } : Room) [.double v, .double a, .double b] (ws) (fun r u => r = some (.int (gx_b (sz_ok a b v))) ∧ u = ws) := by
  refine gx_start (by decide +kernel) (Nat.le_of_ble_eq_true rfl) ?_
  intro p e s m args below meth c A ls C hr hnm hW hl
  have gX := C.x
  have gB := C.b
  have hl : lv_has ls 6 [(0, .double v), (2, .double a), (4, .double b)] := hl
  refine lv_dload_n gX gB dX5_isSize_0 rfl (lv_at hl 0 rfl) ?_
  refine lv_dload_n gX gB dX5_isSize_1 rfl (lv_at hl 1 rfl) ?_
  refine lv_dcmp gX gB dX5_isSize_2 ?_
  refine lv_if_lt (tgt := 17) gX gB dX5_isSize_3 (by decide) (fun c3 => ?_) (fun c3 => ?_)
  · refine lv_iconst (v := 0) gX gB dX5_isSize_17 (by decide) ?_
    exact gx_zret C hr (by decide) hW (⟨by simp [gx_b, sz_ok, c3], rfl⟩) (Nat.le_of_ble_eq_true rfl) (Nat.le_of_ble_eq_true rfl) dX5_isSize_18
  · refine lv_dload_n gX gB dX5_isSize_6 rfl (lv_at hl 0 rfl) ?_
    refine lv_dload gX gB dX5_isSize_7 (lv_at hl 2 rfl) ?_
    refine lv_dcmp gX gB dX5_isSize_9 ?_
    refine lv_if_gt (tgt := 17) gX gB dX5_isSize_10 (by decide) (fun c10 => ?_) (fun c10 => ?_)
    · refine lv_iconst (v := 0) gX gB dX5_isSize_17 (by decide) ?_
      exact gx_zret C hr (by decide) hW (⟨by simp [gx_b, sz_ok, c3, c10], rfl⟩) (Nat.le_of_ble_eq_true rfl) (Nat.le_of_ble_eq_true rfl) dX5_isSize_18
    · refine lv_iconst (v := 1) gX gB dX5_isSize_13 (by decide) ?_
      refine lv_goto (tgt := 18) gX gB dX5_isSize_14 (by decide) ?_
      exact gx_zret C hr (by decide) hW (⟨by simp [gx_b, sz_ok, c3, c10], rfl⟩) (Nat.le_of_ble_eq_true rfl) (Nat.le_of_ble_eq_true rfl) dX5_isSize_18
set_option maxHeartbeats 4000000 in
set_option maxRecDepth 100000 in
theorem kX6_isNumber (l : Launch) (G : gx_T) (ws : va_W) (v a b : UInt64) : gx_M l G yX6_isNumber cX6_isNumber 6 (some .boolean) ({ frames := 0, cells := 0, slots := 0, locals := 0 } : Room) [.double v, .double a, .double b] (ws) (fun r u => r = some (.int (gx_b (sz_ok a b v))) ∧ u = ws) := by
  refine gx_start (by decide +kernel) (Nat.le_of_ble_eq_true rfl) ?_
  intro p e s m args below meth c A ls C hr hnm hW hl
  have gX := C.x
  have gB := C.b
  have hl : lv_has ls 6 [(0, .double v), (2, .double a), (4, .double b)] := hl
  refine lv_dload_n gX gB dX6_isNumber_0 rfl (lv_at hl 0 rfl) ?_
  refine lv_dload_n gX gB dX6_isNumber_1 rfl (lv_at hl 1 rfl) ?_
  refine lv_dcmp gX gB dX6_isNumber_2 ?_
  refine lv_if_lt (tgt := 17) gX gB dX6_isNumber_3 (by decide) (fun c3 => ?_) (fun c3 => ?_)
  · refine lv_iconst (v := 0) gX gB dX6_isNumber_17 (by decide) ?_
    exact gx_zret C hr (by decide) hW (⟨by simp [gx_b, sz_ok, c3], rfl⟩) (Nat.le_of_ble_eq_true rfl) (Nat.le_of_ble_eq_true rfl) dX6_isNumber_18
  · refine lv_dload_n gX gB dX6_isNumber_6 rfl (lv_at hl 0 rfl) ?_
    refine lv_dload gX gB dX6_isNumber_7 (lv_at hl 2 rfl) ?_
    refine lv_dcmp gX gB dX6_isNumber_9 ?_
    refine lv_if_gt (tgt := 17) gX gB dX6_isNumber_10 (by decide) (fun c10 => ?_) (fun c10 => ?_)
    · refine lv_iconst (v := 0) gX gB dX6_isNumber_17 (by decide) ?_
      exact gx_zret C hr (by decide) hW (⟨by simp [gx_b, sz_ok, c3, c10], rfl⟩) (Nat.le_of_ble_eq_true rfl) (Nat.le_of_ble_eq_true rfl) dX6_isNumber_18
    · refine lv_iconst (v := 1) gX gB dX6_isNumber_13 (by decide) ?_
      refine lv_goto (tgt := 18) gX gB dX6_isNumber_14 (by decide) ?_
      exact gx_zret C hr (by decide) hW (⟨by simp [gx_b, sz_ok, c3, c10], rfl⟩) (Nat.le_of_ble_eq_true rfl) (Nat.le_of_ble_eq_true rfl) dX6_isNumber_18
set_option maxHeartbeats 4000000 in
set_option maxRecDepth 100000 in
theorem kX5_wobble (l : Launch) (hfl : l.flags = flags0) (G : gx_T) (L : List Nat) (f : Nat → va_E) (x P F S X N T E : Nat) (dc : Int32) (hx : x ∈ L) (fx : f x = .inr (10, [.ref P, .ref F, .ref S, .ref X, .ref N, .ref T, .ref E, .int dc])) (bF : Option Nat) (fa : List Nat) (fd : Nat → ft_T) (hlF : ls_at G L f F bF fa) (hfd : ∀ i (h : i < fa.length), ft_is L f fa[i] (nI i) (fd i)) (hF12 : fa.length ≤ 12) (z1 z2 z3 z4 : Int64) : gx_MX l G yX5_wobble cX5_wobble 19 (some .double) ({ frames := 7, cells := 5, slots := 40, locals := 111 } : Room) [.ref x, .long z1, .long z2, .long z3, .long z4] (va_pl L f) (fun v u => v = some (.double (wb_val (fd_x fd) (fd_y fd) z1 z2 z3 z4)) ∧ u = va_pl L f ∧ wb_code fa.length (cr_s (fd_x fd) (fd_y fd) 1 2) z1 z2 z3 z4 = 0) (fun Ex u => u = va_pl L f ∧ px2 gx_E1 gx_E2 (wb_code fa.length (cr_s (fd_x fd) (fd_y fd) 1 2) z1 z2 z3 z4) Ex) := by
  refine gx_startX (by decide +kernel) (Nat.le_of_ble_eq_true rfl) ?_
  intro p e s m args below meth c A ls C hr hno hW hl
  have gX := C.x
  have gB := C.b
  have hl : lv_has ls 19 [(0, .ref x), (1, .long z1), (3, .long z2), (5, .long z3), (7, .long z4)] := hl
  refine lv_aload_n gX gB dX5_wobble_0 rfl (lv_at hl 0 rfl) ?_
  refine gx_get C hW fX5_16 (gx_pl hx fx) rfl dX5_wobble_1 ?_
  refine gx_callV (wr := []) (rest := []) C hW sX5_48 (kL_size l G L f F bF fa hlF) (gx_pl hlF.1 (ls_at.head hlF).choose_spec.choose_spec) rfl rfl ⟨(Nat.le_of_ble_eq_true rfl), (Nat.le_of_ble_eq_true rfl)⟩ hl.1 rfl (Nat.le_of_ble_eq_true rfl) dX5_wobble_4 ⟨(Nat.le_of_ble_eq_true rfl), (Nat.le_of_ble_eq_true rfl)⟩ (fun v9 u9 H locs hp hW => ?_)
  obtain ⟨rfl, hu⟩ := hp
  rw [hu] at hW
  have hW : gx_W G A s (va_pl L f) H locs := hW
  refine W.eq (g2 := F0 m 7 ls [.int (nI fa.length)]) rfl ?_
  refine W.widen (k := 0) (n := 0) (Nat.le_of_ble_eq_true rfl) (Nat.le_of_ble_eq_true rfl) ?_
  refine lv_iconst (v := 4) gX gB dX5_wobble_7 (by decide) ?_
  refine lv_icmp_ge (tgt := 21) gX gB dX5_wobble_8 (by decide) (fun c8 => ?_) (fun c8 => ?_)
  · have h4 : 4 ≤ fa.length := Nat.le_of_not_lt (fun zz => (Int32.not_lt.mpr c8) ((nI_ltI (b := 4) (by omega) (by decide)).mpr zz))
    have h0 : 0 < fa.length := by omega
    have h1 : 1 < fa.length := by omega
    have h2 : 2 < fa.length := by omega
    have h3 : 3 < fa.length := by omega
    refine lv_aload_n gX gB dX5_wobble_21 rfl (lv_at hl 0 rfl) ?_
    refine gx_get C hW fX5_16 (gx_pl hx fx) rfl dX5_wobble_22 ?_
    refine lv_iconst (v := 0) gX gB dX5_wobble_25 (by decide) ?_
    refine gx_topi (show (0 : Int32) = nI 0 from rfl) ?_
    refine gx_callV (wr := []) (rest := []) C hW sX5_95 (kL_get l G L f F bF fa hlF 0 h0) (gx_pl hlF.1 (ls_at.head hlF).choose_spec.choose_spec) rfl rfl ⟨(Nat.le_of_ble_eq_true rfl), (Nat.le_of_ble_eq_true rfl)⟩ hl.1 rfl (Nat.le_of_ble_eq_true rfl) dX5_wobble_26 ⟨(Nat.le_of_ble_eq_true rfl), (Nat.le_of_ble_eq_true rfl)⟩ (fun v9 u9 H locs hp hW => ?_)
    obtain ⟨rfl, hu⟩ := hp
    rw [hu] at hW
    have hW : gx_W G A s (va_pl L f) H locs := hW
    refine W.eq (g2 := F0 m 29 ls [.ref (fa[0])]) rfl ?_
    refine W.widen (k := 0) (n := 0) (Nat.le_of_ble_eq_true rfl) (Nat.le_of_ble_eq_true rfl) ?_
    refine gx_cast C hW (gx_pl ((hfd 0 h0).1) ((hfd 0 h0).2)) rfl (tq_3 231 (by decide +kernel) rfl) dX5_wobble_29 ?_
    refine lv_astore (lv' := [(9, .ref (fa[0])), (0, .ref x), (1, .long z1), (3, .long z2), (5, .long z3), (7, .long z4)]) gX gB dX5_wobble_32 hl (by decide) rfl (fun ls hl => ?_)
    refine lv_aload_n gX gB dX5_wobble_34 rfl (lv_at hl 1 rfl) ?_
    refine gx_get C hW fX5_16 (gx_pl hx fx) rfl dX5_wobble_35 ?_
    refine lv_iconst (v := 1) gX gB dX5_wobble_38 (by decide) ?_
    refine gx_topi (show (1 : Int32) = nI 1 from rfl) ?_
    refine gx_callV (wr := []) (rest := []) C hW sX5_95 (kL_get l G L f F bF fa hlF 1 h1) (gx_pl hlF.1 (ls_at.head hlF).choose_spec.choose_spec) rfl rfl ⟨(Nat.le_of_ble_eq_true rfl), (Nat.le_of_ble_eq_true rfl)⟩ hl.1 rfl (Nat.le_of_ble_eq_true rfl) dX5_wobble_39 ⟨(Nat.le_of_ble_eq_true rfl), (Nat.le_of_ble_eq_true rfl)⟩ (fun v9 u9 H locs hp hW => ?_)
    obtain ⟨rfl, hu⟩ := hp
    rw [hu] at hW
    have hW : gx_W G A s (va_pl L f) H locs := hW
    refine W.eq (g2 := F0 m 42 ls [.ref (fa[1])]) rfl ?_
    refine W.widen (k := 0) (n := 0) (Nat.le_of_ble_eq_true rfl) (Nat.le_of_ble_eq_true rfl) ?_
    refine gx_cast C hW (gx_pl ((hfd 1 h1).1) ((hfd 1 h1).2)) rfl (tq_3 231 (by decide +kernel) rfl) dX5_wobble_42 ?_
    refine lv_astore (lv' := [(10, .ref (fa[1])), (9, .ref (fa[0])), (0, .ref x), (1, .long z1), (3, .long z2), (5, .long z3), (7, .long z4)]) gX gB dX5_wobble_45 hl (by decide) rfl (fun ls hl => ?_)
    refine lv_aload_n gX gB dX5_wobble_47 rfl (lv_at hl 2 rfl) ?_
    refine gx_get C hW fX5_16 (gx_pl hx fx) rfl dX5_wobble_48 ?_
    refine lv_iconst (v := 2) gX gB dX5_wobble_51 (by decide) ?_
    refine gx_topi (show (2 : Int32) = nI 2 from rfl) ?_
    refine gx_callV (wr := []) (rest := []) C hW sX5_95 (kL_get l G L f F bF fa hlF 2 h2) (gx_pl hlF.1 (ls_at.head hlF).choose_spec.choose_spec) rfl rfl ⟨(Nat.le_of_ble_eq_true rfl), (Nat.le_of_ble_eq_true rfl)⟩ hl.1 rfl (Nat.le_of_ble_eq_true rfl) dX5_wobble_52 ⟨(Nat.le_of_ble_eq_true rfl), (Nat.le_of_ble_eq_true rfl)⟩ (fun v9 u9 H locs hp hW => ?_)
    obtain ⟨rfl, hu⟩ := hp
    rw [hu] at hW
    have hW : gx_W G A s (va_pl L f) H locs := hW
    refine W.eq (g2 := F0 m 55 ls [.ref (fa[2])]) rfl ?_
    refine W.widen (k := 0) (n := 0) (Nat.le_of_ble_eq_true rfl) (Nat.le_of_ble_eq_true rfl) ?_
    refine gx_cast C hW (gx_pl ((hfd 2 h2).1) ((hfd 2 h2).2)) rfl (tq_3 231 (by decide +kernel) rfl) dX5_wobble_55 ?_
    refine lv_astore (lv' := [(11, .ref (fa[2])), (10, .ref (fa[1])), (9, .ref (fa[0])), (0, .ref x), (1, .long z1), (3, .long z2), (5, .long z3), (7, .long z4)]) gX gB dX5_wobble_58 hl (by decide) rfl (fun ls hl => ?_)
    refine lv_aload_n gX gB dX5_wobble_60 rfl (lv_at hl 3 rfl) ?_
    refine gx_get C hW fX5_16 (gx_pl hx fx) rfl dX5_wobble_61 ?_
    refine lv_iconst (v := 3) gX gB dX5_wobble_64 (by decide) ?_
    refine gx_topi (show (3 : Int32) = nI 3 from rfl) ?_
    refine gx_callV (wr := []) (rest := []) C hW sX5_95 (kL_get l G L f F bF fa hlF 3 h3) (gx_pl hlF.1 (ls_at.head hlF).choose_spec.choose_spec) rfl rfl ⟨(Nat.le_of_ble_eq_true rfl), (Nat.le_of_ble_eq_true rfl)⟩ hl.1 rfl (Nat.le_of_ble_eq_true rfl) dX5_wobble_65 ⟨(Nat.le_of_ble_eq_true rfl), (Nat.le_of_ble_eq_true rfl)⟩ (fun v9 u9 H locs hp hW => ?_)
    obtain ⟨rfl, hu⟩ := hp
    rw [hu] at hW
    have hW : gx_W G A s (va_pl L f) H locs := hW
    refine W.eq (g2 := F0 m 68 ls [.ref (fa[3])]) rfl ?_
    refine W.widen (k := 0) (n := 0) (Nat.le_of_ble_eq_true rfl) (Nat.le_of_ble_eq_true rfl) ?_
    refine gx_cast C hW (gx_pl ((hfd 3 h3).1) ((hfd 3 h3).2)) rfl (tq_3 231 (by decide +kernel) rfl) dX5_wobble_68 ?_
    refine lv_astore (lv' := [(12, .ref (fa[3])), (11, .ref (fa[2])), (10, .ref (fa[1])), (9, .ref (fa[0])), (0, .ref x), (1, .long z1), (3, .long z2), (5, .long z3), (7, .long z4)]) gX gB dX5_wobble_71 hl (by decide) rfl (fun ls hl => ?_)
    refine lv_aload gX gB dX5_wobble_73 (lv_at hl 3 rfl) ?_
    refine lv_aload gX gB dX5_wobble_75 (lv_at hl 2 rfl) ?_
    refine lv_aload gX gB dX5_wobble_77 (lv_at hl 1 rfl) ?_
    refine gx_callVN (wr := []) (rest := []) C hW sX5_200n (kX0_turn l G L f fa[0] fa[1] fa[2] (nI 0) (nI 1) (nI 2) (fd 0).1 (fd 0).2 (fd 1).1 (fd 1).2 (fd 2).1 (fd 2).2 (hfd 0 h0).1 (hfd 0 h0).2 (hfd 1 h1).1 (hfd 1 h1).2 (hfd 2 h2).1 (hfd 2 h2).2) (gx_pl ((hfd 0 h0).1) ((hfd 0 h0).2)) rfl rfl ⟨(Nat.le_of_ble_eq_true rfl), (Nat.le_of_ble_eq_true rfl)⟩ hl.1 rfl (Nat.le_of_ble_eq_true rfl) dX5_wobble_79 ⟨(Nat.le_of_ble_eq_true rfl), (Nat.le_of_ble_eq_true rfl)⟩ (fun v9 u9 H locs hp hW => ?_)
    obtain ⟨rfl, hu⟩ := hp
    rw [hu] at hW
    have hW : gx_W G A s (va_pl L f) H locs := hW
    refine W.eq (g2 := F0 m 82 ls [.long (cr_s (fd_x fd) (fd_y fd) 1 2)]) rfl ?_
    refine W.widen (k := 0) (n := 0) (Nat.le_of_ble_eq_true rfl) (Nat.le_of_ble_eq_true rfl) ?_
    refine lv_lstore (lv' := [(13, .long (cr_s (fd_x fd) (fd_y fd) 1 2)), (12, .ref (fa[3])), (11, .ref (fa[2])), (10, .ref (fa[1])), (9, .ref (fa[0])), (0, .ref x), (1, .long z1), (3, .long z2), (5, .long z3), (7, .long z4)]) gX gB dX5_wobble_82 hl (by decide) rfl (fun ls hl => ?_)
    refine lv_lload gX gB dX5_wobble_84 (lv_at hl 0 rfl) ?_
    refine lv_lconst (v := 0) gX gB dX5_wobble_86 (by decide) ?_
    refine gx_lc_ne (tgt := 101) C dX5_wobble_87 dX5_wobble_88 (by decide) (fun c87 => ?_) (fun c87 => ?_)
    · refine lv_lload_n gX gB dX5_wobble_101 rfl (lv_at hl 6 rfl) ?_
      refine gx_callSX (wr := []) (rest := []) C hW sX5_206 (kX5_needHeight l hfl G (va_pl L f) z1) rfl ⟨(Nat.le_of_ble_eq_true rfl), (Nat.le_of_ble_eq_true rfl)⟩ hl.1 rfl (Nat.le_of_ble_eq_true rfl) dX5_wobble_102 ⟨(Nat.le_of_ble_eq_true rfl), (Nat.le_of_ble_eq_true rfl)⟩ (fun E ce q9 u9 H locs hpx hW hce hcv hcl => gx_out C hno hW hce hcv hcl (⟨hpx.2.1, Or.inr ⟨hpx.1, wb_2 (Int32.not_lt.mpr c8) (c87) (fun zz => hpx.2.2 zz.1)⟩⟩) (Nat.le_of_ble_eq_true rfl) (Nat.le_of_ble_eq_true rfl)) (fun v9 u9 H locs hp hW => ?_)
      obtain ⟨rfl, hu, n1⟩ := hp
      rw [hu] at hW
      have hW : gx_W G A s (va_pl L f) H locs := hW
      refine W.eq (g2 := F0 m 105 ls []) rfl ?_
      refine W.widen (k := 1) (n := 6) (Nat.le_of_ble_eq_true rfl) (Nat.le_of_ble_eq_true rfl) ?_
      refine lv_lload_n gX gB dX5_wobble_105 rfl (lv_at hl 7 rfl) ?_
      refine gx_callSX (wr := []) (rest := []) C hW sX5_206 (kX5_needHeight l hfl G (va_pl L f) z2) rfl ⟨(Nat.le_of_ble_eq_true rfl), (Nat.le_of_ble_eq_true rfl)⟩ hl.1 rfl (Nat.le_of_ble_eq_true rfl) dX5_wobble_106 ⟨(Nat.le_of_ble_eq_true rfl), (Nat.le_of_ble_eq_true rfl)⟩ (fun E ce q9 u9 H locs hpx hW hce hcv hcl => gx_out C hno hW hce hcv hcl (⟨hpx.2.1, Or.inr ⟨hpx.1, wb_2 (Int32.not_lt.mpr c8) (c87) (fun zz => hpx.2.2 zz.2.1)⟩⟩) (Nat.le_of_ble_eq_true rfl) (Nat.le_of_ble_eq_true rfl)) (fun v9 u9 H locs hp hW => ?_)
      obtain ⟨rfl, hu, n2⟩ := hp
      rw [hu] at hW
      have hW : gx_W G A s (va_pl L f) H locs := hW
      refine W.eq (g2 := F0 m 109 ls []) rfl ?_
      refine W.widen (k := 2) (n := 12) (Nat.le_of_ble_eq_true rfl) (Nat.le_of_ble_eq_true rfl) ?_
      refine lv_lload gX gB dX5_wobble_109 (lv_at hl 8 rfl) ?_
      refine gx_callSX (wr := []) (rest := []) C hW sX5_206 (kX5_needHeight l hfl G (va_pl L f) z3) rfl ⟨(Nat.le_of_ble_eq_true rfl), (Nat.le_of_ble_eq_true rfl)⟩ hl.1 rfl (Nat.le_of_ble_eq_true rfl) dX5_wobble_111 ⟨(Nat.le_of_ble_eq_true rfl), (Nat.le_of_ble_eq_true rfl)⟩ (fun E ce q9 u9 H locs hpx hW hce hcv hcl => gx_out C hno hW hce hcv hcl (⟨hpx.2.1, Or.inr ⟨hpx.1, wb_2 (Int32.not_lt.mpr c8) (c87) (fun zz => hpx.2.2 zz.2.2.1)⟩⟩) (Nat.le_of_ble_eq_true rfl) (Nat.le_of_ble_eq_true rfl)) (fun v9 u9 H locs hp hW => ?_)
      obtain ⟨rfl, hu, n3⟩ := hp
      rw [hu] at hW
      have hW : gx_W G A s (va_pl L f) H locs := hW
      refine W.eq (g2 := F0 m 114 ls []) rfl ?_
      refine W.widen (k := 3) (n := 18) (Nat.le_of_ble_eq_true rfl) (Nat.le_of_ble_eq_true rfl) ?_
      refine lv_lload gX gB dX5_wobble_114 (lv_at hl 9 rfl) ?_
      refine gx_callSX (wr := []) (rest := []) C hW sX5_206 (kX5_needHeight l hfl G (va_pl L f) z4) rfl ⟨(Nat.le_of_ble_eq_true rfl), (Nat.le_of_ble_eq_true rfl)⟩ hl.1 rfl (Nat.le_of_ble_eq_true rfl) dX5_wobble_116 ⟨(Nat.le_of_ble_eq_true rfl), (Nat.le_of_ble_eq_true rfl)⟩ (fun E ce q9 u9 H locs hpx hW hce hcv hcl => gx_out C hno hW hce hcv hcl (⟨hpx.2.1, Or.inr ⟨hpx.1, wb_2 (Int32.not_lt.mpr c8) (c87) (fun zz => hpx.2.2 zz.2.2.2)⟩⟩) (Nat.le_of_ble_eq_true rfl) (Nat.le_of_ble_eq_true rfl)) (fun v9 u9 H locs hp hW => ?_)
      obtain ⟨rfl, hu, n4⟩ := hp
      rw [hu] at hW
      have hW : gx_W G A s (va_pl L f) H locs := hW
      refine W.eq (g2 := F0 m 119 ls []) rfl ?_
      refine W.widen (k := 4) (n := 24) (Nat.le_of_ble_eq_true rfl) (Nat.le_of_ble_eq_true rfl) ?_
      refine lv_lload_n gX gB dX5_wobble_119 rfl (lv_at hl 7 rfl) ?_
      refine lv_lload_n gX gB dX5_wobble_120 rfl (lv_at hl 6 rfl) ?_
      refine lv_lsub gX gB dX5_wobble_121 ?_
      refine lv_aload gX gB dX5_wobble_122 (lv_at hl 4 rfl) ?_
      refine lv_aload gX gB dX5_wobble_124 (lv_at hl 1 rfl) ?_
      refine lv_aload gX gB dX5_wobble_126 (lv_at hl 2 rfl) ?_
      refine gx_callVN (wr := []) (rest := [.long (z2 - z1)]) C hW sX5_200n (kX0_turn l G L f fa[0] fa[3] fa[2] (nI 0) (nI 3) (nI 2) (fd 0).1 (fd 0).2 (fd 3).1 (fd 3).2 (fd 2).1 (fd 2).2 (hfd 0 h0).1 (hfd 0 h0).2 (hfd 3 h3).1 (hfd 3 h3).2 (hfd 2 h2).1 (hfd 2 h2).2) (gx_pl ((hfd 0 h0).1) ((hfd 0 h0).2)) rfl rfl ⟨(Nat.le_of_ble_eq_true rfl), (Nat.le_of_ble_eq_true rfl)⟩ hl.1 rfl (Nat.le_of_ble_eq_true rfl) dX5_wobble_128 ⟨(Nat.le_of_ble_eq_true rfl), (Nat.le_of_ble_eq_true rfl)⟩ (fun v9 u9 H locs hp hW => ?_)
      obtain ⟨rfl, hu⟩ := hp
      rw [hu] at hW
      have hW : gx_W G A s (va_pl L f) H locs := hW
      refine W.eq (g2 := F0 m 131 ls [.long (cr_s (fd_x fd) (fd_y fd) 3 2), .long (z2 - z1)]) rfl ?_
      refine W.widen (k := 4) (n := 24) (Nat.le_of_ble_eq_true rfl) (Nat.le_of_ble_eq_true rfl) ?_
      refine lv_lmul gX gB dX5_wobble_131 ?_
      refine lv_lload gX gB dX5_wobble_132 (lv_at hl 8 rfl) ?_
      refine lv_lload_n gX gB dX5_wobble_134 rfl (lv_at hl 6 rfl) ?_
      refine lv_lsub gX gB dX5_wobble_135 ?_
      refine lv_aload gX gB dX5_wobble_136 (lv_at hl 4 rfl) ?_
      refine lv_aload gX gB dX5_wobble_138 (lv_at hl 3 rfl) ?_
      refine lv_aload gX gB dX5_wobble_140 (lv_at hl 1 rfl) ?_
      refine gx_callVN (wr := []) (rest := [.long (z3 - z1), .long ((z2 - z1) * (cr_s (fd_x fd) (fd_y fd) 3 2))]) C hW sX5_200n (kX0_turn l G L f fa[0] fa[1] fa[3] (nI 0) (nI 1) (nI 3) (fd 0).1 (fd 0).2 (fd 1).1 (fd 1).2 (fd 3).1 (fd 3).2 (hfd 0 h0).1 (hfd 0 h0).2 (hfd 1 h1).1 (hfd 1 h1).2 (hfd 3 h3).1 (hfd 3 h3).2) (gx_pl ((hfd 0 h0).1) ((hfd 0 h0).2)) rfl rfl ⟨(Nat.le_of_ble_eq_true rfl), (Nat.le_of_ble_eq_true rfl)⟩ hl.1 rfl (Nat.le_of_ble_eq_true rfl) dX5_wobble_142 ⟨(Nat.le_of_ble_eq_true rfl), (Nat.le_of_ble_eq_true rfl)⟩ (fun v9 u9 H locs hp hW => ?_)
      obtain ⟨rfl, hu⟩ := hp
      rw [hu] at hW
      have hW : gx_W G A s (va_pl L f) H locs := hW
      refine W.eq (g2 := F0 m 145 ls [.long (cr_s (fd_x fd) (fd_y fd) 1 3), .long (z3 - z1), .long ((z2 - z1) * (cr_s (fd_x fd) (fd_y fd) 3 2))]) rfl ?_
      refine W.widen (k := 4) (n := 24) (Nat.le_of_ble_eq_true rfl) (Nat.le_of_ble_eq_true rfl) ?_
      refine lv_lmul gX gB dX5_wobble_145 ?_
      refine lv_ladd gX gB dX5_wobble_146 ?_
      refine lv_lstore (lv' := [(15, .long (((z2 - z1) * (cr_s (fd_x fd) (fd_y fd) 3 2)) + ((z3 - z1) * (cr_s (fd_x fd) (fd_y fd) 1 3)))), (13, .long (cr_s (fd_x fd) (fd_y fd) 1 2)), (12, .ref (fa[3])), (11, .ref (fa[2])), (10, .ref (fa[1])), (9, .ref (fa[0])), (0, .ref x), (1, .long z1), (3, .long z2), (5, .long z3), (7, .long z4)]) gX gB dX5_wobble_147 hl (by decide) rfl (fun ls hl => ?_)
      refine lv_lload gX gB dX5_wobble_149 (lv_at hl 10 rfl) ?_
      refine lv_lload_n gX gB dX5_wobble_151 rfl (lv_at hl 7 rfl) ?_
      refine lv_lsub gX gB dX5_wobble_152 ?_
      refine lv_l2d gX gB dX5_wobble_153 ?_
      refine lv_lload gX gB dX5_wobble_154 (lv_at hl 0 rfl) ?_
      refine lv_l2d gX gB dX5_wobble_156 ?_
      refine lv_lload gX gB dX5_wobble_157 (lv_at hl 1 rfl) ?_
      refine lv_l2d gX gB dX5_wobble_159 ?_
      refine lv_ddiv gX gB dX5_wobble_160 ((fp_div (fp_fin_n (fp_l2d _).1) ((fp_l2d _).2 (c87))).1) ?_
      refine lv_dsub gX gB dX5_wobble_161 ((fp_sub (fp_l2d _).1 (fp_div (fp_fin_n (fp_l2d _).1) ((fp_l2d _).2 (c87))).2)) ?_
      refine lv_topd (fun off eoff => ?_)
      refine lv_dstore (lv' := [(17, .double off), (15, .long (((z2 - z1) * (cr_s (fd_x fd) (fd_y fd) 3 2)) + ((z3 - z1) * (cr_s (fd_x fd) (fd_y fd) 1 3)))), (13, .long (cr_s (fd_x fd) (fd_y fd) 1 2)), (12, .ref (fa[3])), (11, .ref (fa[2])), (10, .ref (fa[1])), (9, .ref (fa[0])), (0, .ref x), (1, .long z1), (3, .long z2), (5, .long z3), (7, .long z4)]) gX gB dX5_wobble_162 hl (by decide) rfl (fun ls hl => ?_)
      refine lv_dload gX gB dX5_wobble_164 (lv_at hl 0 rfl) ?_
      refine lv_dconst0 gX gB dX5_wobble_166 ?_
      refine lv_dcmp gX gB dX5_wobble_167 ?_
      refine lv_if_ge (tgt := 177) gX gB dX5_wobble_168 (by decide) (fun c168 => ?_) (fun c168 => ?_)
      · refine lv_dload gX gB dX5_wobble_177 (lv_at hl 0 rfl) ?_
        refine vx_ret ?_
        exact gx_dret C hr hW (⟨wb_p eoff (Int32.not_lt.mpr c168), rfl, wb_0 (Int32.not_lt.mpr c8) (c87) ⟨n1, n2, n3, n4⟩⟩) (Nat.le_of_ble_eq_true rfl) (Nat.le_of_ble_eq_true rfl) dX5_wobble_179
      · refine lv_dload gX gB dX5_wobble_171 (lv_at hl 0 rfl) ?_
        refine lv_dneg gX gB dX5_wobble_173 ?_
        refine lv_goto (tgt := 179) gX gB dX5_wobble_174 (by decide) ?_
        refine vx_ret ?_
        exact gx_dret C hr hW (⟨wb_n eoff (Int32.not_le.mp c168), rfl, wb_0 (Int32.not_lt.mpr c8) (c87) ⟨n1, n2, n3, n4⟩⟩) (Nat.le_of_ble_eq_true rfl) (Nat.le_of_ble_eq_true rfl) dX5_wobble_179
    · exact gx_throw (text := "three feet on a line bear no plane") hfl C hno hW gx_thr1 (by decide +kernel) (tq_3 191 (by decide +kernel) rfl) (tq_1 14 (by decide +kernel) rfl) (tr_4 211 (by decide +kernel)) hl.1 dX5_wobble_91 dX5_wobble_94 dX5_wobble_95 dX5_wobble_97 dX5_wobble_100 (Nat.le_of_ble_eq_true rfl) (Nat.le_of_ble_eq_true rfl) (Nat.le_of_ble_eq_true rfl) (Nat.le_of_ble_eq_true rfl) (⟨rfl, Or.inl ⟨rfl, wb_1 (Or.inr (c87))⟩⟩) (Nat.le_of_ble_eq_true rfl) (Nat.le_of_ble_eq_true rfl)
  · exact gx_throw (text := "not four feet") hfl C hno hW gx_thr1 (by decide +kernel) (tq_3 191 (by decide +kernel) rfl) (tq_1 14 (by decide +kernel) rfl) (tr_4 209 (by decide +kernel)) hl.1 dX5_wobble_11 dX5_wobble_14 dX5_wobble_15 dX5_wobble_17 dX5_wobble_20 (Nat.le_of_ble_eq_true rfl) (Nat.le_of_ble_eq_true rfl) (Nat.le_of_ble_eq_true rfl) (Nat.le_of_ble_eq_true rfl) (⟨rfl, Or.inl ⟨rfl, wb_1 (Or.inl (Int32.not_le.mp c8))⟩⟩) (Nat.le_of_ble_eq_true rfl) (Nat.le_of_ble_eq_true rfl)
set_option maxHeartbeats 4000000 in
set_option maxRecDepth 100000 in
theorem kX5_bend (l : Launch) (hfl : l.flags = flags0) (G : gx_T) (ws : va_W) (o : Nat) (sp wi th lo : UInt64) : gx_MX l G yX5_bend cX5_bend 11 (some .double) ({ frames := 6, cells := 1, slots := 6, locals := 90 } : Room) [.ref o, .double sp, .double wi, .double th, .double lo] (ws) (fun v u => v = some (.double (be_val sp wi th lo)) ∧ u = ws ∧ be_code sp wi th lo = 0) (fun Ex u => u = ws ∧ px1 gx_E2 (be_code sp wi th lo) Ex) := by
  refine gx_startX (by decide +kernel) (Nat.le_of_ble_eq_true rfl) ?_
  intro p e s m args below meth c A ls C hr hno hW hl
  have gX := C.x
  have gB := C.b
  have hl : lv_has ls 11 [(0, .ref o), (1, .double sp), (3, .double wi), (5, .double th), (7, .double lo)] := hl
  refine lv_dload gX gB dX5_bend_0 (lv_at hl 4 rfl) ?_
  refine lv_dconst0 gX gB dX5_bend_2 ?_
  refine lv_ldc2d (v := 4666723172467343360) gX gB C.hown (C.ts _ (tq_4 225 (by decide +kernel) rfl)) dX5_bend_3 ?_
  refine gx_callS (wr := []) (rest := []) C hW sX5_211 (kX5_isSize l G (ws) lo FP.dconst0 4666723172467343360) rfl ⟨(Nat.le_of_ble_eq_true rfl), (Nat.le_of_ble_eq_true rfl)⟩ hl.1 rfl (Nat.le_of_ble_eq_true rfl) dX5_bend_6 ⟨(Nat.le_of_ble_eq_true rfl), (Nat.le_of_ble_eq_true rfl)⟩ (fun v9 u9 H locs hp hW => ?_)
  obtain ⟨rfl, hu⟩ := hp
  rw [hu] at hW
  have hW : gx_W G A s (ws) H locs := hW
  refine W.eq (g2 := F0 m 9 ls [.int (gx_b (be_l lo))]) rfl ?_
  refine W.widen (k := 0) (n := 0) (Nat.le_of_ble_eq_true rfl) (Nat.le_of_ble_eq_true rfl) ?_
  refine lv_if_eq (tgt := 23) gX gB dX5_bend_9 (by decide) (fun c9 => ?_) (fun c9 => ?_)
  · exact gx_throw (text := "load or span is out of its range") hfl C hno hW gx_thr2 (by decide +kernel) (tq_3 215 (by decide +kernel) rfl) (tq_1 15 (by decide +kernel) rfl) (tr_4 229 (by decide +kernel)) hl.1 dX5_bend_23 dX5_bend_26 dX5_bend_27 dX5_bend_29 dX5_bend_32 (Nat.le_of_ble_eq_true rfl) (Nat.le_of_ble_eq_true rfl) (Nat.le_of_ble_eq_true rfl) (Nat.le_of_ble_eq_true rfl) (⟨rfl, rfl, be_1 (fun zz => gx_b0.mp (c9) zz.1)⟩) (Nat.le_of_ble_eq_true rfl) (Nat.le_of_ble_eq_true rfl)
  · refine lv_dload_n gX gB dX5_bend_12 rfl (lv_at hl 1 rfl) ?_
    refine lv_dconst0 gX gB dX5_bend_13 ?_
    refine lv_ldc2d (v := 4666723172467343360) gX gB C.hown (C.ts _ (tq_4 225 (by decide +kernel) rfl)) dX5_bend_14 ?_
    refine gx_callS (wr := []) (rest := []) C hW sX5_211 (kX5_isSize l G (ws) sp FP.dconst0 4666723172467343360) rfl ⟨(Nat.le_of_ble_eq_true rfl), (Nat.le_of_ble_eq_true rfl)⟩ hl.1 rfl (Nat.le_of_ble_eq_true rfl) dX5_bend_17 ⟨(Nat.le_of_ble_eq_true rfl), (Nat.le_of_ble_eq_true rfl)⟩ (fun v9 u9 H locs hp hW => ?_)
    obtain ⟨rfl, hu⟩ := hp
    rw [hu] at hW
    have hW : gx_W G A s (ws) H locs := hW
    refine W.eq (g2 := F0 m 20 ls [.int (gx_b (be_l sp))]) rfl ?_
    refine W.widen (k := 0) (n := 0) (Nat.le_of_ble_eq_true rfl) (Nat.le_of_ble_eq_true rfl) ?_
    refine lv_if_ne (tgt := 33) gX gB dX5_bend_20 (by decide) (fun c20 => ?_) (fun c20 => ?_)
    · refine lv_dload_n gX gB dX5_bend_33 rfl (lv_at hl 2 rfl) ?_
      refine lv_ldc2d (v := 4593671619917905920) gX gB C.hown (C.ts _ (tq_4 230 (by decide +kernel) rfl)) dX5_bend_34 ?_
      refine lv_ldc2d (v := 4652007308841189376) gX gB C.hown (C.ts _ (tq_4 231 (by decide +kernel) rfl)) dX5_bend_37 ?_
      refine gx_callS (wr := []) (rest := []) C hW sX5_211 (kX5_isSize l G (ws) wi 4593671619917905920 4652007308841189376) rfl ⟨(Nat.le_of_ble_eq_true rfl), (Nat.le_of_ble_eq_true rfl)⟩ hl.1 rfl (Nat.le_of_ble_eq_true rfl) dX5_bend_40 ⟨(Nat.le_of_ble_eq_true rfl), (Nat.le_of_ble_eq_true rfl)⟩ (fun v9 u9 H locs hp hW => ?_)
      obtain ⟨rfl, hu⟩ := hp
      rw [hu] at hW
      have hW : gx_W G A s (ws) H locs := hW
      refine W.eq (g2 := F0 m 43 ls [.int (gx_b (be_w wi))]) rfl ?_
      refine W.widen (k := 0) (n := 0) (Nat.le_of_ble_eq_true rfl) (Nat.le_of_ble_eq_true rfl) ?_
      refine lv_if_eq (tgt := 60) gX gB dX5_bend_43 (by decide) (fun c43 => ?_) (fun c43 => ?_)
      · exact gx_throw (text := "width or thick is out of its range") hfl C hno hW gx_thr2 (by decide +kernel) (tq_3 215 (by decide +kernel) rfl) (tq_1 15 (by decide +kernel) rfl) (tr_4 232 (by decide +kernel)) hl.1 dX5_bend_60 dX5_bend_63 dX5_bend_64 dX5_bend_66 dX5_bend_69 (Nat.le_of_ble_eq_true rfl) (Nat.le_of_ble_eq_true rfl) (Nat.le_of_ble_eq_true rfl) (Nat.le_of_ble_eq_true rfl) (⟨rfl, rfl, be_1 (fun zz => gx_b0.mp (c43) zz.2.2.1)⟩) (Nat.le_of_ble_eq_true rfl) (Nat.le_of_ble_eq_true rfl)
      · refine lv_dload gX gB dX5_bend_46 (lv_at hl 3 rfl) ?_
        refine lv_ldc2d (v := 4593671619917905920) gX gB C.hown (C.ts _ (tq_4 230 (by decide +kernel) rfl)) dX5_bend_48 ?_
        refine lv_ldc2d (v := 4652007308841189376) gX gB C.hown (C.ts _ (tq_4 231 (by decide +kernel) rfl)) dX5_bend_51 ?_
        refine gx_callS (wr := []) (rest := []) C hW sX5_211 (kX5_isSize l G (ws) th 4593671619917905920 4652007308841189376) rfl ⟨(Nat.le_of_ble_eq_true rfl), (Nat.le_of_ble_eq_true rfl)⟩ hl.1 rfl (Nat.le_of_ble_eq_true rfl) dX5_bend_54 ⟨(Nat.le_of_ble_eq_true rfl), (Nat.le_of_ble_eq_true rfl)⟩ (fun v9 u9 H locs hp hW => ?_)
        obtain ⟨rfl, hu⟩ := hp
        rw [hu] at hW
        have hW : gx_W G A s (ws) H locs := hW
        refine W.eq (g2 := F0 m 57 ls [.int (gx_b (be_w th))]) rfl ?_
        refine W.widen (k := 0) (n := 0) (Nat.le_of_ble_eq_true rfl) (Nat.le_of_ble_eq_true rfl) ?_
        refine lv_if_ne (tgt := 70) gX gB dX5_bend_57 (by decide) (fun c57 => ?_) (fun c57 => ?_)
        · refine lv_dload_n gX gB dX5_bend_70 rfl (lv_at hl 2 rfl) ?_
          refine lv_dload gX gB dX5_bend_71 (lv_at hl 3 rfl) ?_
          refine lv_dmul gX gB dX5_bend_73 ((be_s1 (gx_b1.mp (c43)) (gx_b1.mp (c57))).1.2) ?_
          refine lv_dload gX gB dX5_bend_74 (lv_at hl 3 rfl) ?_
          refine lv_dmul gX gB dX5_bend_76 ((be_s2 (gx_b1.mp (c43)) (gx_b1.mp (c57))).1.2) ?_
          refine lv_dload gX gB dX5_bend_77 (lv_at hl 3 rfl) ?_
          refine lv_dmul gX gB dX5_bend_79 ((be_s3 (gx_b1.mp (c43)) (gx_b1.mp (c57))).1.2) ?_
          refine lv_dstore (lv' := [(9, .double (FP.dmul (FP.dmul (FP.dmul wi th) th) th)), (0, .ref o), (1, .double sp), (3, .double wi), (5, .double th), (7, .double lo)]) gX gB dX5_bend_80 hl (by decide) rfl (fun ls hl => ?_)
          refine lv_ldc2d (v := 4594797519824748544) gX gB C.hown (C.ts _ (tq_4 233 (by decide +kernel) rfl)) dX5_bend_82 ?_
          refine lv_dload gX gB dX5_bend_85 (lv_at hl 5 rfl) ?_
          refine lv_dmul gX gB dX5_bend_87 ((be_t1 (gx_b1.mp (c9))).2) ?_
          refine lv_dload_n gX gB dX5_bend_88 rfl (lv_at hl 2 rfl) ?_
          refine lv_dmul gX gB dX5_bend_89 ((be_t2 (gx_b1.mp (c9)) (gx_b1.mp (c20))).2) ?_
          refine lv_dload_n gX gB dX5_bend_90 rfl (lv_at hl 2 rfl) ?_
          refine lv_dmul gX gB dX5_bend_91 ((be_t3 (gx_b1.mp (c9)) (gx_b1.mp (c20))).2) ?_
          refine lv_dload_n gX gB dX5_bend_92 rfl (lv_at hl 2 rfl) ?_
          refine lv_dmul gX gB dX5_bend_93 ((be_t4 (gx_b1.mp (c9)) (gx_b1.mp (c20))).2) ?_
          refine lv_dload gX gB dX5_bend_94 (lv_at hl 0 rfl) ?_
          refine lv_ddiv gX gB dX5_bend_96 (be_q (gx_b1.mp (c9)) (gx_b1.mp (c20)) (gx_b1.mp (c43)) (gx_b1.mp (c57))) ?_
          refine vx_ret ?_
          exact gx_dret C hr hW (⟨rfl, rfl, be_0 ⟨(gx_b1.mp (c9)), (gx_b1.mp (c20)), (gx_b1.mp (c43)), (gx_b1.mp (c57))⟩⟩) (Nat.le_of_ble_eq_true rfl) (Nat.le_of_ble_eq_true rfl) dX5_bend_97
        · exact gx_throw (text := "width or thick is out of its range") hfl C hno hW gx_thr2 (by decide +kernel) (tq_3 215 (by decide +kernel) rfl) (tq_1 15 (by decide +kernel) rfl) (tr_4 232 (by decide +kernel)) hl.1 dX5_bend_60 dX5_bend_63 dX5_bend_64 dX5_bend_66 dX5_bend_69 (Nat.le_of_ble_eq_true rfl) (Nat.le_of_ble_eq_true rfl) (Nat.le_of_ble_eq_true rfl) (Nat.le_of_ble_eq_true rfl) (⟨rfl, rfl, be_1 (fun zz => gx_b0.mp (c57) zz.2.2.2)⟩) (Nat.le_of_ble_eq_true rfl) (Nat.le_of_ble_eq_true rfl)
    · exact gx_throw (text := "load or span is out of its range") hfl C hno hW gx_thr2 (by decide +kernel) (tq_3 215 (by decide +kernel) rfl) (tq_1 15 (by decide +kernel) rfl) (tr_4 229 (by decide +kernel)) hl.1 dX5_bend_23 dX5_bend_26 dX5_bend_27 dX5_bend_29 dX5_bend_32 (Nat.le_of_ble_eq_true rfl) (Nat.le_of_ble_eq_true rfl) (Nat.le_of_ble_eq_true rfl) (Nat.le_of_ble_eq_true rfl) (⟨rfl, rfl, be_1 (fun zz => gx_b0.mp (c20) zz.2.1)⟩) (Nat.le_of_ble_eq_true rfl) (Nat.le_of_ble_eq_true rfl)
set_option maxHeartbeats 4000000 in
set_option maxRecDepth 100000 in
theorem kX5_creep (l : Launch) (hfl : l.flags = flags0) (G : gx_T) (ws : va_W) (o : Nat) (y : Int32) : gx_MX l G yX5_creep cX5_creep 2 (some .double) ({ frames := 6, cells := 1, slots := 6, locals := 90 } : Room) [.ref o, .int y] (ws) (fun v u => v = some (.double (yc_val y)) ∧ u = ws ∧ yc_code y = 0) (fun Ex u => u = ws ∧ px1 gx_E2 (yc_code y) Ex) := by
  refine gx_startX (by decide +kernel) (Nat.le_of_ble_eq_true rfl) ?_
  intro p e s m args below meth c A ls C hr hno hW hl
  have gX := C.x
  have gB := C.b
  have hl : lv_has ls 2 [(0, .ref o), (1, .int y)] := hl
  refine lv_iload_n gX gB dX5_creep_0 rfl (lv_at hl 1 rfl) ?_
  refine lv_if_lt (tgt := 11) gX gB dX5_creep_1 (by decide) (fun c1 => ?_) (fun c1 => ?_)
  · exact gx_throw (text := "years are out of their range") hfl C hno hW gx_thr2 (by decide +kernel) (tq_3 215 (by decide +kernel) rfl) (tq_1 15 (by decide +kernel) rfl) (tr_5 1 (by decide +kernel)) hl.1 dX5_creep_11 dX5_creep_14 dX5_creep_15 dX5_creep_17 dX5_creep_20 (Nat.le_of_ble_eq_true rfl) (Nat.le_of_ble_eq_true rfl) (Nat.le_of_ble_eq_true rfl) (Nat.le_of_ble_eq_true rfl) (⟨rfl, rfl, yc_1 (Or.inl (c1))⟩) (Nat.le_of_ble_eq_true rfl) (Nat.le_of_ble_eq_true rfl)
  · refine lv_iload_n gX gB dX5_creep_4 rfl (lv_at hl 1 rfl) ?_
    refine lv_sipush (v := 1000) gX gB dX5_creep_5 (by decide) ?_
    refine lv_icmp_le (tgt := 21) gX gB dX5_creep_8 (by decide) (fun c8 => ?_) (fun c8 => ?_)
    · refine lv_dconst1 gX gB dX5_creep_21 ?_
      refine lv_ldc2d (v := 4602678819172646912) gX gB C.hown (C.ts _ (tq_5 2 (by decide +kernel) rfl)) dX5_creep_22 ?_
      refine lv_iload_n gX gB dX5_creep_25 rfl (lv_at hl 1 rfl) ?_
      refine lv_i2d gX gB dX5_creep_26 ?_
      refine lv_dmul gX gB dX5_creep_27 ((yc_m y).1) ?_
      refine lv_iload_n gX gB dX5_creep_28 rfl (lv_at hl 1 rfl) ?_
      refine lv_iconst (v := 2) gX gB dX5_creep_29 (by decide) ?_
      refine lv_iadd gX gB dX5_creep_30 ?_
      refine lv_i2d gX gB dX5_creep_31 ?_
      refine lv_ddiv gX gB dX5_creep_32 ((yc_d (c1) (Int32.not_lt.mpr c8)).1) ?_
      refine lv_dadd gX gB dX5_creep_33 (yc_a (c1) (Int32.not_lt.mpr c8)) ?_
      refine vx_ret ?_
      exact gx_dret C hr hW (⟨rfl, rfl, yc_0 (c1) (Int32.not_lt.mpr c8)⟩) (Nat.le_of_ble_eq_true rfl) (Nat.le_of_ble_eq_true rfl) dX5_creep_34
    · exact gx_throw (text := "years are out of their range") hfl C hno hW gx_thr2 (by decide +kernel) (tq_3 215 (by decide +kernel) rfl) (tq_1 15 (by decide +kernel) rfl) (tr_5 1 (by decide +kernel)) hl.1 dX5_creep_11 dX5_creep_14 dX5_creep_15 dX5_creep_17 dX5_creep_20 (Nat.le_of_ble_eq_true rfl) (Nat.le_of_ble_eq_true rfl) (Nat.le_of_ble_eq_true rfl) (Nat.le_of_ble_eq_true rfl) (⟨rfl, rfl, yc_1 (Or.inr (Int32.not_le.mp c8))⟩) (Nat.le_of_ble_eq_true rfl) (Nat.le_of_ble_eq_true rfl)
set_option maxHeartbeats 4000000 in
set_option maxRecDepth 100000 in
theorem kX6_wobble (l : Launch) (G : gx_T) (ad : Nat → Nat) (cd : Int32) (pn fn dn cn sn tn : Nat) (ex ey eg : Int64) (at0 fl : Int32) (px py pz gr ou fx fy : Nat → Int64) (od cr ty to_ dr : Nat → Int32) (z1 z2 z3 z4 : Int64) : gx_M l G yX6_wobble cX6_wobble 14 (some .double) ({ frames := 1, cells := 0, slots := 0, locals := 25 } : Room) [.ref (ad 0), .long z1, .long z2, .long z3, .long z4] ([(ad 0, .inr (11, [.int cd, .int (nI pn), .ref (ad 1), .ref (ad 2), .ref (ad 3), .ref (ad 4), .ref (ad 5), .int (nI fn), .ref (ad 6), .ref (ad 7), .int (nI dn), .ref (ad 8), .long ex, .long ey, .long eg, .int (nI cn), .ref (ad 9), .ref (ad 10), .int (nI sn), .int at0, .int fl, .int (nI tn), .ref (ad 11), .ref (ad 12)])), (ad 1, .inl (G.2.1 2, 16, .inr (.inl px))), (ad 2, .inl (G.2.1 2, 16, .inr (.inl py))), (ad 3, .inl (G.2.1 2, 16, .inr (.inl pz))), (ad 4, .inl (G.2.1 2, 16, .inr (.inl gr))), (ad 5, .inl (G.2.1 2, 16, .inr (.inl ou))), (ad 6, .inl (G.2.1 2, 12, .inr (.inl fx))), (ad 7, .inl (G.2.1 2, 12, .inr (.inl fy))), (ad 8, .inl (G.2.1 1, 8, .inl od)), (ad 9, .inl (G.2.1 1, 12, .inl cr)), (ad 10, .inl (G.2.1 1, 200, .inl ty)), (ad 11, .inl (G.2.1 1, 48, .inl to_)), (ad 12, .inl (G.2.1 1, 48, .inl dr))]) (fun v u => (wb_code fn (cr_s fx fy 1 2) z1 z2 z3 z4 = 0 ∧ v = some (.double (wb_val fx fy z1 z2 z3 z4)) ∧ u = [(ad 0, .inr (11, [.int 0, .int (nI pn), .ref (ad 1), .ref (ad 2), .ref (ad 3), .ref (ad 4), .ref (ad 5), .int (nI fn), .ref (ad 6), .ref (ad 7), .int (nI dn), .ref (ad 8), .long ex, .long ey, .long eg, .int (nI cn), .ref (ad 9), .ref (ad 10), .int (nI sn), .int at0, .int fl, .int (nI tn), .ref (ad 11), .ref (ad 12)])), (ad 1, .inl (G.2.1 2, 16, .inr (.inl px))), (ad 2, .inl (G.2.1 2, 16, .inr (.inl py))), (ad 3, .inl (G.2.1 2, 16, .inr (.inl pz))), (ad 4, .inl (G.2.1 2, 16, .inr (.inl gr))), (ad 5, .inl (G.2.1 2, 16, .inr (.inl ou))), (ad 6, .inl (G.2.1 2, 12, .inr (.inl fx))), (ad 7, .inl (G.2.1 2, 12, .inr (.inl fy))), (ad 8, .inl (G.2.1 1, 8, .inl od)), (ad 9, .inl (G.2.1 1, 12, .inl cr)), (ad 10, .inl (G.2.1 1, 200, .inl ty)), (ad 11, .inl (G.2.1 1, 48, .inl to_)), (ad 12, .inl (G.2.1 1, 48, .inl dr))]) ∨ (¬ wb_code fn (cr_s fx fy 1 2) z1 z2 z3 z4 = 0 ∧ v = some (.double FP.dconst0) ∧ u = [(ad 0, .inr (11, [.int (wb_code fn (cr_s fx fy 1 2) z1 z2 z3 z4), .int (nI pn), .ref (ad 1), .ref (ad 2), .ref (ad 3), .ref (ad 4), .ref (ad 5), .int (nI fn), .ref (ad 6), .ref (ad 7), .int (nI dn), .ref (ad 8), .long ex, .long ey, .long eg, .int (nI cn), .ref (ad 9), .ref (ad 10), .int (nI sn), .int at0, .int fl, .int (nI tn), .ref (ad 11), .ref (ad 12)])), (ad 1, .inl (G.2.1 2, 16, .inr (.inl px))), (ad 2, .inl (G.2.1 2, 16, .inr (.inl py))), (ad 3, .inl (G.2.1 2, 16, .inr (.inl pz))), (ad 4, .inl (G.2.1 2, 16, .inr (.inl gr))), (ad 5, .inl (G.2.1 2, 16, .inr (.inl ou))), (ad 6, .inl (G.2.1 2, 12, .inr (.inl fx))), (ad 7, .inl (G.2.1 2, 12, .inr (.inl fy))), (ad 8, .inl (G.2.1 1, 8, .inl od)), (ad 9, .inl (G.2.1 1, 12, .inl cr)), (ad 10, .inl (G.2.1 1, 200, .inl ty)), (ad 11, .inl (G.2.1 1, 48, .inl to_)), (ad 12, .inl (G.2.1 1, 48, .inl dr))])) := by
  refine gx_start (by decide +kernel) (Nat.le_of_ble_eq_true rfl) ?_
  intro p e s m args below meth c A ls C hr hnm hW hl
  have gX := C.x
  have gB := C.b
  have hl : lv_has ls 14 [(0, .ref (ad 0)), (1, .long z1), (3, .long z2), (5, .long z3), (7, .long z4)] := hl
  refine lv_lload_n gX gB dX6_wobble_0 rfl (lv_at hl 1 rfl) ?_
  refine gx_ldc2 (v := (-1000)) C (tq_5 212 (by decide +kernel) rfl) dX6_wobble_1 ?_
  refine gx_ldc2 (v := 1000) C (tq_5 213 (by decide +kernel) rfl) dX6_wobble_4 ?_
  refine gx_callS (wr := []) (rest := []) C hW sX6_61 (kX6_isIn l G ([(ad 0, .inr (11, [.int cd, .int (nI pn), .ref (ad 1), .ref (ad 2), .ref (ad 3), .ref (ad 4), .ref (ad 5), .int (nI fn), .ref (ad 6), .ref (ad 7), .int (nI dn), .ref (ad 8), .long ex, .long ey, .long eg, .int (nI cn), .ref (ad 9), .ref (ad 10), .int (nI sn), .int at0, .int fl, .int (nI tn), .ref (ad 11), .ref (ad 12)])), (ad 1, .inl (G.2.1 2, 16, .inr (.inl px))), (ad 2, .inl (G.2.1 2, 16, .inr (.inl py))), (ad 3, .inl (G.2.1 2, 16, .inr (.inl pz))), (ad 4, .inl (G.2.1 2, 16, .inr (.inl gr))), (ad 5, .inl (G.2.1 2, 16, .inr (.inl ou))), (ad 6, .inl (G.2.1 2, 12, .inr (.inl fx))), (ad 7, .inl (G.2.1 2, 12, .inr (.inl fy))), (ad 8, .inl (G.2.1 1, 8, .inl od)), (ad 9, .inl (G.2.1 1, 12, .inl cr)), (ad 10, .inl (G.2.1 1, 200, .inl ty)), (ad 11, .inl (G.2.1 1, 48, .inl to_)), (ad 12, .inl (G.2.1 1, 48, .inl dr))]) z1 (-1000) 1000) rfl ⟨(Nat.le_of_ble_eq_true rfl), (Nat.le_of_ble_eq_true rfl)⟩ hl.1 rfl (Nat.le_of_ble_eq_true rfl) dX6_wobble_7 ⟨(Nat.le_of_ble_eq_true rfl), (Nat.le_of_ble_eq_true rfl)⟩ (fun v9 u9 H locs hp hW => ?_)
  obtain ⟨rfl, hu⟩ := hp
  rw [hu] at hW
  have hW : gx_W G A s ([(ad 0, .inr (11, [.int cd, .int (nI pn), .ref (ad 1), .ref (ad 2), .ref (ad 3), .ref (ad 4), .ref (ad 5), .int (nI fn), .ref (ad 6), .ref (ad 7), .int (nI dn), .ref (ad 8), .long ex, .long ey, .long eg, .int (nI cn), .ref (ad 9), .ref (ad 10), .int (nI sn), .int at0, .int fl, .int (nI tn), .ref (ad 11), .ref (ad 12)])), (ad 1, .inl (G.2.1 2, 16, .inr (.inl px))), (ad 2, .inl (G.2.1 2, 16, .inr (.inl py))), (ad 3, .inl (G.2.1 2, 16, .inr (.inl pz))), (ad 4, .inl (G.2.1 2, 16, .inr (.inl gr))), (ad 5, .inl (G.2.1 2, 16, .inr (.inl ou))), (ad 6, .inl (G.2.1 2, 12, .inr (.inl fx))), (ad 7, .inl (G.2.1 2, 12, .inr (.inl fy))), (ad 8, .inl (G.2.1 1, 8, .inl od)), (ad 9, .inl (G.2.1 1, 12, .inl cr)), (ad 10, .inl (G.2.1 1, 200, .inl ty)), (ad 11, .inl (G.2.1 1, 48, .inl to_)), (ad 12, .inl (G.2.1 1, 48, .inl dr))]) H locs := hW
  refine W.eq (g2 := F0 m 10 ls [.int (gx_b (hg_ok z1))]) rfl ?_
  refine W.widen (k := 0) (n := 0) (Nat.le_of_ble_eq_true rfl) (Nat.le_of_ble_eq_true rfl) ?_
  refine lv_if_eq (tgt := 58) gX gB dX6_wobble_10 (by decide) (fun c10 => ?_) (fun c10 => ?_)
  · refine lv_iconst (v := 0) gX gB dX6_wobble_58 (by decide) ?_
    refine lv_istore (lv' := [(9, .int 0), (0, .ref (ad 0)), (1, .long z1), (3, .long z2), (5, .long z3), (7, .long z4)]) gX gB dX6_wobble_59 hl (by decide) rfl (fun ls hl => ?_)
    refine lv_aload_n gX gB dX6_wobble_61 rfl (lv_at hl 1 rfl) ?_
    refine lv_aload_n gX gB dX6_wobble_62 rfl (lv_at hl 1 rfl) ?_
    refine gx_get C hW fX6_68 ⟨0, rfl⟩ rfl dX6_wobble_63 ?_
    refine lv_iconst (v := 4) gX gB dX6_wobble_66 (by decide) ?_
    refine lv_icmp_lt (tgt := 81) gX gB dX6_wobble_67 (by decide) (fun c67 => ?_) (fun c67 => ?_)
    · refine lv_iconst (v := 1) gX gB dX6_wobble_81 (by decide) ?_
      refine lv_goto (tgt := 95) gX gB dX6_wobble_82 (by decide) ?_
      refine gx_putE C hW clX6 fX6_47 0 rfl (Or.inl rfl) rfl rfl (Nat.le_of_ble_eq_true rfl) dX6_wobble_95 (fun H locs hW => ?_)
      have hW : gx_W G A s ([(ad 0, .inr (11, [.int 1, .int (nI pn), .ref (ad 1), .ref (ad 2), .ref (ad 3), .ref (ad 4), .ref (ad 5), .int (nI fn), .ref (ad 6), .ref (ad 7), .int (nI dn), .ref (ad 8), .long ex, .long ey, .long eg, .int (nI cn), .ref (ad 9), .ref (ad 10), .int (nI sn), .int at0, .int fl, .int (nI tn), .ref (ad 11), .ref (ad 12)])), (ad 1, .inl (G.2.1 2, 16, .inr (.inl px))), (ad 2, .inl (G.2.1 2, 16, .inr (.inl py))), (ad 3, .inl (G.2.1 2, 16, .inr (.inl pz))), (ad 4, .inl (G.2.1 2, 16, .inr (.inl gr))), (ad 5, .inl (G.2.1 2, 16, .inr (.inl ou))), (ad 6, .inl (G.2.1 2, 12, .inr (.inl fx))), (ad 7, .inl (G.2.1 2, 12, .inr (.inl fy))), (ad 8, .inl (G.2.1 1, 8, .inl od)), (ad 9, .inl (G.2.1 1, 12, .inl cr)), (ad 10, .inl (G.2.1 1, 200, .inl ty)), (ad 11, .inl (G.2.1 1, 48, .inl to_)), (ad 12, .inl (G.2.1 1, 48, .inl dr))]) H locs := hW
      refine lv_aload_n gX gB dX6_wobble_98 rfl (lv_at hl 1 rfl) ?_
      refine gx_get C hW fX6_47 ⟨0, rfl⟩ rfl dX6_wobble_99 ?_
      refine lv_if_le (tgt := 107) gX gB dX6_wobble_102 (by decide) (fun h9 => absurd (show 1 ≤ (0 : Int32) from h9) (by decide)) (fun _ => ?_)
      refine lv_dconst0 gX gB dX6_wobble_105 ?_
      exact gx_dret C hr hW (Or.inr ⟨by rw [wb_1 (n := fn) (cr := cr_s fx fy 1 2) (z1 := z1) (z2 := z2) (z3 := z3) (z4 := z4) (Or.inl (c67))]; decide, rfl, by rw [wb_1 (n := fn) (cr := cr_s fx fy 1 2) (z1 := z1) (z2 := z2) (z3 := z3) (z4 := z4) (Or.inl (c67))]⟩) (Nat.le_of_ble_eq_true rfl) (Nat.le_of_ble_eq_true rfl) dX6_wobble_106
    · refine lv_aload_n gX gB dX6_wobble_70 rfl (lv_at hl 1 rfl) ?_
      refine lv_iconst (v := 1) gX gB dX6_wobble_71 (by decide) ?_
      refine gx_topi (show (1 : Int32) = nI 1 from rfl) ?_
      refine lv_iconst (v := 2) gX gB dX6_wobble_72 (by decide) ?_
      refine gx_topi (show (2 : Int32) = nI 2 from rfl) ?_
      refine gx_callV (wr := []) (rest := [.ref (ad 0)]) C hW sX6_158 (kX6_cross l G ad cd pn fn dn cn sn tn ex ey eg at0 fl px py pz gr ou fx fy od cr ty to_ dr 1 2 (by decide) (by decide)) ⟨0, rfl⟩ rfl rfl ⟨(Nat.le_of_ble_eq_true rfl), (Nat.le_of_ble_eq_true rfl)⟩ hl.1 rfl (Nat.le_of_ble_eq_true rfl) dX6_wobble_73 ⟨(Nat.le_of_ble_eq_true rfl), (Nat.le_of_ble_eq_true rfl)⟩ (fun v9 u9 H locs hp hW => ?_)
      obtain ⟨rfl, hu⟩ := hp
      rw [hu] at hW
      have hW : gx_W G A s ([(ad 0, .inr (11, [.int cd, .int (nI pn), .ref (ad 1), .ref (ad 2), .ref (ad 3), .ref (ad 4), .ref (ad 5), .int (nI fn), .ref (ad 6), .ref (ad 7), .int (nI dn), .ref (ad 8), .long ex, .long ey, .long eg, .int (nI cn), .ref (ad 9), .ref (ad 10), .int (nI sn), .int at0, .int fl, .int (nI tn), .ref (ad 11), .ref (ad 12)])), (ad 1, .inl (G.2.1 2, 16, .inr (.inl px))), (ad 2, .inl (G.2.1 2, 16, .inr (.inl py))), (ad 3, .inl (G.2.1 2, 16, .inr (.inl pz))), (ad 4, .inl (G.2.1 2, 16, .inr (.inl gr))), (ad 5, .inl (G.2.1 2, 16, .inr (.inl ou))), (ad 6, .inl (G.2.1 2, 12, .inr (.inl fx))), (ad 7, .inl (G.2.1 2, 12, .inr (.inl fy))), (ad 8, .inl (G.2.1 1, 8, .inl od)), (ad 9, .inl (G.2.1 1, 12, .inl cr)), (ad 10, .inl (G.2.1 1, 200, .inl ty)), (ad 11, .inl (G.2.1 1, 48, .inl to_)), (ad 12, .inl (G.2.1 1, 48, .inl dr))]) H locs := hW
      refine W.eq (g2 := F0 m 76 ls [.long (cr_s fx fy 1 2), .ref (ad 0)]) rfl ?_
      refine W.widen (k := 0) (n := 0) (Nat.le_of_ble_eq_true rfl) (Nat.le_of_ble_eq_true rfl) ?_
      refine lv_lconst (v := 0) gX gB dX6_wobble_76 (by decide) ?_
      refine gx_lc_ne (tgt := 85) C dX6_wobble_77 dX6_wobble_78 (by decide) (fun c77 => ?_) (fun c77 => ?_)
      · refine lv_iload gX gB dX6_wobble_85 (lv_at hl 0 rfl) ?_
        refine lv_if_eq (tgt := 94) gX gB dX6_wobble_87 (by decide) (fun _ => ?_) (fun h9 => absurd (show 0 = (0 : Int32) from by decide) h9)
        refine lv_iconst (v := 2) gX gB dX6_wobble_94 (by decide) ?_
        refine gx_putE C hW clX6 fX6_47 0 rfl (Or.inl rfl) rfl rfl (Nat.le_of_ble_eq_true rfl) dX6_wobble_95 (fun H locs hW => ?_)
        have hW : gx_W G A s ([(ad 0, .inr (11, [.int 2, .int (nI pn), .ref (ad 1), .ref (ad 2), .ref (ad 3), .ref (ad 4), .ref (ad 5), .int (nI fn), .ref (ad 6), .ref (ad 7), .int (nI dn), .ref (ad 8), .long ex, .long ey, .long eg, .int (nI cn), .ref (ad 9), .ref (ad 10), .int (nI sn), .int at0, .int fl, .int (nI tn), .ref (ad 11), .ref (ad 12)])), (ad 1, .inl (G.2.1 2, 16, .inr (.inl px))), (ad 2, .inl (G.2.1 2, 16, .inr (.inl py))), (ad 3, .inl (G.2.1 2, 16, .inr (.inl pz))), (ad 4, .inl (G.2.1 2, 16, .inr (.inl gr))), (ad 5, .inl (G.2.1 2, 16, .inr (.inl ou))), (ad 6, .inl (G.2.1 2, 12, .inr (.inl fx))), (ad 7, .inl (G.2.1 2, 12, .inr (.inl fy))), (ad 8, .inl (G.2.1 1, 8, .inl od)), (ad 9, .inl (G.2.1 1, 12, .inl cr)), (ad 10, .inl (G.2.1 1, 200, .inl ty)), (ad 11, .inl (G.2.1 1, 48, .inl to_)), (ad 12, .inl (G.2.1 1, 48, .inl dr))]) H locs := hW
        refine lv_aload_n gX gB dX6_wobble_98 rfl (lv_at hl 1 rfl) ?_
        refine gx_get C hW fX6_47 ⟨0, rfl⟩ rfl dX6_wobble_99 ?_
        refine lv_if_le (tgt := 107) gX gB dX6_wobble_102 (by decide) (fun h9 => absurd (show 2 ≤ (0 : Int32) from h9) (by decide)) (fun _ => ?_)
        refine lv_dconst0 gX gB dX6_wobble_105 ?_
        exact gx_dret C hr hW (Or.inr ⟨by rw [wb_2 (n := fn) (cr := cr_s fx fy 1 2) (z1 := z1) (z2 := z2) (z3 := z3) (z4 := z4) (c67) (c77) (fun zz => gx_b0.mp (c10) zz.1)]; decide, rfl, by rw [wb_2 (n := fn) (cr := cr_s fx fy 1 2) (z1 := z1) (z2 := z2) (z3 := z3) (z4 := z4) (c67) (c77) (fun zz => gx_b0.mp (c10) zz.1)]⟩) (Nat.le_of_ble_eq_true rfl) (Nat.le_of_ble_eq_true rfl) dX6_wobble_106
      · refine lv_iconst (v := 1) gX gB dX6_wobble_81 (by decide) ?_
        refine lv_goto (tgt := 95) gX gB dX6_wobble_82 (by decide) ?_
        refine gx_putE C hW clX6 fX6_47 0 rfl (Or.inl rfl) rfl rfl (Nat.le_of_ble_eq_true rfl) dX6_wobble_95 (fun H locs hW => ?_)
        have hW : gx_W G A s ([(ad 0, .inr (11, [.int 1, .int (nI pn), .ref (ad 1), .ref (ad 2), .ref (ad 3), .ref (ad 4), .ref (ad 5), .int (nI fn), .ref (ad 6), .ref (ad 7), .int (nI dn), .ref (ad 8), .long ex, .long ey, .long eg, .int (nI cn), .ref (ad 9), .ref (ad 10), .int (nI sn), .int at0, .int fl, .int (nI tn), .ref (ad 11), .ref (ad 12)])), (ad 1, .inl (G.2.1 2, 16, .inr (.inl px))), (ad 2, .inl (G.2.1 2, 16, .inr (.inl py))), (ad 3, .inl (G.2.1 2, 16, .inr (.inl pz))), (ad 4, .inl (G.2.1 2, 16, .inr (.inl gr))), (ad 5, .inl (G.2.1 2, 16, .inr (.inl ou))), (ad 6, .inl (G.2.1 2, 12, .inr (.inl fx))), (ad 7, .inl (G.2.1 2, 12, .inr (.inl fy))), (ad 8, .inl (G.2.1 1, 8, .inl od)), (ad 9, .inl (G.2.1 1, 12, .inl cr)), (ad 10, .inl (G.2.1 1, 200, .inl ty)), (ad 11, .inl (G.2.1 1, 48, .inl to_)), (ad 12, .inl (G.2.1 1, 48, .inl dr))]) H locs := hW
        refine lv_aload_n gX gB dX6_wobble_98 rfl (lv_at hl 1 rfl) ?_
        refine gx_get C hW fX6_47 ⟨0, rfl⟩ rfl dX6_wobble_99 ?_
        refine lv_if_le (tgt := 107) gX gB dX6_wobble_102 (by decide) (fun h9 => absurd (show 1 ≤ (0 : Int32) from h9) (by decide)) (fun _ => ?_)
        refine lv_dconst0 gX gB dX6_wobble_105 ?_
        exact gx_dret C hr hW (Or.inr ⟨by rw [wb_1 (n := fn) (cr := cr_s fx fy 1 2) (z1 := z1) (z2 := z2) (z3 := z3) (z4 := z4) (Or.inr (c77))]; decide, rfl, by rw [wb_1 (n := fn) (cr := cr_s fx fy 1 2) (z1 := z1) (z2 := z2) (z3 := z3) (z4 := z4) (Or.inr (c77))]⟩) (Nat.le_of_ble_eq_true rfl) (Nat.le_of_ble_eq_true rfl) dX6_wobble_106
  · refine lv_lload_n gX gB dX6_wobble_13 rfl (lv_at hl 2 rfl) ?_
    refine gx_ldc2 (v := (-1000)) C (tq_5 212 (by decide +kernel) rfl) dX6_wobble_14 ?_
    refine gx_ldc2 (v := 1000) C (tq_5 213 (by decide +kernel) rfl) dX6_wobble_17 ?_
    refine gx_callS (wr := []) (rest := []) C hW sX6_61 (kX6_isIn l G ([(ad 0, .inr (11, [.int cd, .int (nI pn), .ref (ad 1), .ref (ad 2), .ref (ad 3), .ref (ad 4), .ref (ad 5), .int (nI fn), .ref (ad 6), .ref (ad 7), .int (nI dn), .ref (ad 8), .long ex, .long ey, .long eg, .int (nI cn), .ref (ad 9), .ref (ad 10), .int (nI sn), .int at0, .int fl, .int (nI tn), .ref (ad 11), .ref (ad 12)])), (ad 1, .inl (G.2.1 2, 16, .inr (.inl px))), (ad 2, .inl (G.2.1 2, 16, .inr (.inl py))), (ad 3, .inl (G.2.1 2, 16, .inr (.inl pz))), (ad 4, .inl (G.2.1 2, 16, .inr (.inl gr))), (ad 5, .inl (G.2.1 2, 16, .inr (.inl ou))), (ad 6, .inl (G.2.1 2, 12, .inr (.inl fx))), (ad 7, .inl (G.2.1 2, 12, .inr (.inl fy))), (ad 8, .inl (G.2.1 1, 8, .inl od)), (ad 9, .inl (G.2.1 1, 12, .inl cr)), (ad 10, .inl (G.2.1 1, 200, .inl ty)), (ad 11, .inl (G.2.1 1, 48, .inl to_)), (ad 12, .inl (G.2.1 1, 48, .inl dr))]) z2 (-1000) 1000) rfl ⟨(Nat.le_of_ble_eq_true rfl), (Nat.le_of_ble_eq_true rfl)⟩ hl.1 rfl (Nat.le_of_ble_eq_true rfl) dX6_wobble_20 ⟨(Nat.le_of_ble_eq_true rfl), (Nat.le_of_ble_eq_true rfl)⟩ (fun v9 u9 H locs hp hW => ?_)
    obtain ⟨rfl, hu⟩ := hp
    rw [hu] at hW
    have hW : gx_W G A s ([(ad 0, .inr (11, [.int cd, .int (nI pn), .ref (ad 1), .ref (ad 2), .ref (ad 3), .ref (ad 4), .ref (ad 5), .int (nI fn), .ref (ad 6), .ref (ad 7), .int (nI dn), .ref (ad 8), .long ex, .long ey, .long eg, .int (nI cn), .ref (ad 9), .ref (ad 10), .int (nI sn), .int at0, .int fl, .int (nI tn), .ref (ad 11), .ref (ad 12)])), (ad 1, .inl (G.2.1 2, 16, .inr (.inl px))), (ad 2, .inl (G.2.1 2, 16, .inr (.inl py))), (ad 3, .inl (G.2.1 2, 16, .inr (.inl pz))), (ad 4, .inl (G.2.1 2, 16, .inr (.inl gr))), (ad 5, .inl (G.2.1 2, 16, .inr (.inl ou))), (ad 6, .inl (G.2.1 2, 12, .inr (.inl fx))), (ad 7, .inl (G.2.1 2, 12, .inr (.inl fy))), (ad 8, .inl (G.2.1 1, 8, .inl od)), (ad 9, .inl (G.2.1 1, 12, .inl cr)), (ad 10, .inl (G.2.1 1, 200, .inl ty)), (ad 11, .inl (G.2.1 1, 48, .inl to_)), (ad 12, .inl (G.2.1 1, 48, .inl dr))]) H locs := hW
    refine W.eq (g2 := F0 m 23 ls [.int (gx_b (hg_ok z2))]) rfl ?_
    refine W.widen (k := 0) (n := 0) (Nat.le_of_ble_eq_true rfl) (Nat.le_of_ble_eq_true rfl) ?_
    refine lv_if_eq (tgt := 58) gX gB dX6_wobble_23 (by decide) (fun c23 => ?_) (fun c23 => ?_)
    · refine lv_iconst (v := 0) gX gB dX6_wobble_58 (by decide) ?_
      refine lv_istore (lv' := [(9, .int 0), (0, .ref (ad 0)), (1, .long z1), (3, .long z2), (5, .long z3), (7, .long z4)]) gX gB dX6_wobble_59 hl (by decide) rfl (fun ls hl => ?_)
      refine lv_aload_n gX gB dX6_wobble_61 rfl (lv_at hl 1 rfl) ?_
      refine lv_aload_n gX gB dX6_wobble_62 rfl (lv_at hl 1 rfl) ?_
      refine gx_get C hW fX6_68 ⟨0, rfl⟩ rfl dX6_wobble_63 ?_
      refine lv_iconst (v := 4) gX gB dX6_wobble_66 (by decide) ?_
      refine lv_icmp_lt (tgt := 81) gX gB dX6_wobble_67 (by decide) (fun c67 => ?_) (fun c67 => ?_)
      · refine lv_iconst (v := 1) gX gB dX6_wobble_81 (by decide) ?_
        refine lv_goto (tgt := 95) gX gB dX6_wobble_82 (by decide) ?_
        refine gx_putE C hW clX6 fX6_47 0 rfl (Or.inl rfl) rfl rfl (Nat.le_of_ble_eq_true rfl) dX6_wobble_95 (fun H locs hW => ?_)
        have hW : gx_W G A s ([(ad 0, .inr (11, [.int 1, .int (nI pn), .ref (ad 1), .ref (ad 2), .ref (ad 3), .ref (ad 4), .ref (ad 5), .int (nI fn), .ref (ad 6), .ref (ad 7), .int (nI dn), .ref (ad 8), .long ex, .long ey, .long eg, .int (nI cn), .ref (ad 9), .ref (ad 10), .int (nI sn), .int at0, .int fl, .int (nI tn), .ref (ad 11), .ref (ad 12)])), (ad 1, .inl (G.2.1 2, 16, .inr (.inl px))), (ad 2, .inl (G.2.1 2, 16, .inr (.inl py))), (ad 3, .inl (G.2.1 2, 16, .inr (.inl pz))), (ad 4, .inl (G.2.1 2, 16, .inr (.inl gr))), (ad 5, .inl (G.2.1 2, 16, .inr (.inl ou))), (ad 6, .inl (G.2.1 2, 12, .inr (.inl fx))), (ad 7, .inl (G.2.1 2, 12, .inr (.inl fy))), (ad 8, .inl (G.2.1 1, 8, .inl od)), (ad 9, .inl (G.2.1 1, 12, .inl cr)), (ad 10, .inl (G.2.1 1, 200, .inl ty)), (ad 11, .inl (G.2.1 1, 48, .inl to_)), (ad 12, .inl (G.2.1 1, 48, .inl dr))]) H locs := hW
        refine lv_aload_n gX gB dX6_wobble_98 rfl (lv_at hl 1 rfl) ?_
        refine gx_get C hW fX6_47 ⟨0, rfl⟩ rfl dX6_wobble_99 ?_
        refine lv_if_le (tgt := 107) gX gB dX6_wobble_102 (by decide) (fun h9 => absurd (show 1 ≤ (0 : Int32) from h9) (by decide)) (fun _ => ?_)
        refine lv_dconst0 gX gB dX6_wobble_105 ?_
        exact gx_dret C hr hW (Or.inr ⟨by rw [wb_1 (n := fn) (cr := cr_s fx fy 1 2) (z1 := z1) (z2 := z2) (z3 := z3) (z4 := z4) (Or.inl (c67))]; decide, rfl, by rw [wb_1 (n := fn) (cr := cr_s fx fy 1 2) (z1 := z1) (z2 := z2) (z3 := z3) (z4 := z4) (Or.inl (c67))]⟩) (Nat.le_of_ble_eq_true rfl) (Nat.le_of_ble_eq_true rfl) dX6_wobble_106
      · refine lv_aload_n gX gB dX6_wobble_70 rfl (lv_at hl 1 rfl) ?_
        refine lv_iconst (v := 1) gX gB dX6_wobble_71 (by decide) ?_
        refine gx_topi (show (1 : Int32) = nI 1 from rfl) ?_
        refine lv_iconst (v := 2) gX gB dX6_wobble_72 (by decide) ?_
        refine gx_topi (show (2 : Int32) = nI 2 from rfl) ?_
        refine gx_callV (wr := []) (rest := [.ref (ad 0)]) C hW sX6_158 (kX6_cross l G ad cd pn fn dn cn sn tn ex ey eg at0 fl px py pz gr ou fx fy od cr ty to_ dr 1 2 (by decide) (by decide)) ⟨0, rfl⟩ rfl rfl ⟨(Nat.le_of_ble_eq_true rfl), (Nat.le_of_ble_eq_true rfl)⟩ hl.1 rfl (Nat.le_of_ble_eq_true rfl) dX6_wobble_73 ⟨(Nat.le_of_ble_eq_true rfl), (Nat.le_of_ble_eq_true rfl)⟩ (fun v9 u9 H locs hp hW => ?_)
        obtain ⟨rfl, hu⟩ := hp
        rw [hu] at hW
        have hW : gx_W G A s ([(ad 0, .inr (11, [.int cd, .int (nI pn), .ref (ad 1), .ref (ad 2), .ref (ad 3), .ref (ad 4), .ref (ad 5), .int (nI fn), .ref (ad 6), .ref (ad 7), .int (nI dn), .ref (ad 8), .long ex, .long ey, .long eg, .int (nI cn), .ref (ad 9), .ref (ad 10), .int (nI sn), .int at0, .int fl, .int (nI tn), .ref (ad 11), .ref (ad 12)])), (ad 1, .inl (G.2.1 2, 16, .inr (.inl px))), (ad 2, .inl (G.2.1 2, 16, .inr (.inl py))), (ad 3, .inl (G.2.1 2, 16, .inr (.inl pz))), (ad 4, .inl (G.2.1 2, 16, .inr (.inl gr))), (ad 5, .inl (G.2.1 2, 16, .inr (.inl ou))), (ad 6, .inl (G.2.1 2, 12, .inr (.inl fx))), (ad 7, .inl (G.2.1 2, 12, .inr (.inl fy))), (ad 8, .inl (G.2.1 1, 8, .inl od)), (ad 9, .inl (G.2.1 1, 12, .inl cr)), (ad 10, .inl (G.2.1 1, 200, .inl ty)), (ad 11, .inl (G.2.1 1, 48, .inl to_)), (ad 12, .inl (G.2.1 1, 48, .inl dr))]) H locs := hW
        refine W.eq (g2 := F0 m 76 ls [.long (cr_s fx fy 1 2), .ref (ad 0)]) rfl ?_
        refine W.widen (k := 0) (n := 0) (Nat.le_of_ble_eq_true rfl) (Nat.le_of_ble_eq_true rfl) ?_
        refine lv_lconst (v := 0) gX gB dX6_wobble_76 (by decide) ?_
        refine gx_lc_ne (tgt := 85) C dX6_wobble_77 dX6_wobble_78 (by decide) (fun c77 => ?_) (fun c77 => ?_)
        · refine lv_iload gX gB dX6_wobble_85 (lv_at hl 0 rfl) ?_
          refine lv_if_eq (tgt := 94) gX gB dX6_wobble_87 (by decide) (fun _ => ?_) (fun h9 => absurd (show 0 = (0 : Int32) from by decide) h9)
          refine lv_iconst (v := 2) gX gB dX6_wobble_94 (by decide) ?_
          refine gx_putE C hW clX6 fX6_47 0 rfl (Or.inl rfl) rfl rfl (Nat.le_of_ble_eq_true rfl) dX6_wobble_95 (fun H locs hW => ?_)
          have hW : gx_W G A s ([(ad 0, .inr (11, [.int 2, .int (nI pn), .ref (ad 1), .ref (ad 2), .ref (ad 3), .ref (ad 4), .ref (ad 5), .int (nI fn), .ref (ad 6), .ref (ad 7), .int (nI dn), .ref (ad 8), .long ex, .long ey, .long eg, .int (nI cn), .ref (ad 9), .ref (ad 10), .int (nI sn), .int at0, .int fl, .int (nI tn), .ref (ad 11), .ref (ad 12)])), (ad 1, .inl (G.2.1 2, 16, .inr (.inl px))), (ad 2, .inl (G.2.1 2, 16, .inr (.inl py))), (ad 3, .inl (G.2.1 2, 16, .inr (.inl pz))), (ad 4, .inl (G.2.1 2, 16, .inr (.inl gr))), (ad 5, .inl (G.2.1 2, 16, .inr (.inl ou))), (ad 6, .inl (G.2.1 2, 12, .inr (.inl fx))), (ad 7, .inl (G.2.1 2, 12, .inr (.inl fy))), (ad 8, .inl (G.2.1 1, 8, .inl od)), (ad 9, .inl (G.2.1 1, 12, .inl cr)), (ad 10, .inl (G.2.1 1, 200, .inl ty)), (ad 11, .inl (G.2.1 1, 48, .inl to_)), (ad 12, .inl (G.2.1 1, 48, .inl dr))]) H locs := hW
          refine lv_aload_n gX gB dX6_wobble_98 rfl (lv_at hl 1 rfl) ?_
          refine gx_get C hW fX6_47 ⟨0, rfl⟩ rfl dX6_wobble_99 ?_
          refine lv_if_le (tgt := 107) gX gB dX6_wobble_102 (by decide) (fun h9 => absurd (show 2 ≤ (0 : Int32) from h9) (by decide)) (fun _ => ?_)
          refine lv_dconst0 gX gB dX6_wobble_105 ?_
          exact gx_dret C hr hW (Or.inr ⟨by rw [wb_2 (n := fn) (cr := cr_s fx fy 1 2) (z1 := z1) (z2 := z2) (z3 := z3) (z4 := z4) (c67) (c77) (fun zz => gx_b0.mp (c23) zz.2.1)]; decide, rfl, by rw [wb_2 (n := fn) (cr := cr_s fx fy 1 2) (z1 := z1) (z2 := z2) (z3 := z3) (z4 := z4) (c67) (c77) (fun zz => gx_b0.mp (c23) zz.2.1)]⟩) (Nat.le_of_ble_eq_true rfl) (Nat.le_of_ble_eq_true rfl) dX6_wobble_106
        · refine lv_iconst (v := 1) gX gB dX6_wobble_81 (by decide) ?_
          refine lv_goto (tgt := 95) gX gB dX6_wobble_82 (by decide) ?_
          refine gx_putE C hW clX6 fX6_47 0 rfl (Or.inl rfl) rfl rfl (Nat.le_of_ble_eq_true rfl) dX6_wobble_95 (fun H locs hW => ?_)
          have hW : gx_W G A s ([(ad 0, .inr (11, [.int 1, .int (nI pn), .ref (ad 1), .ref (ad 2), .ref (ad 3), .ref (ad 4), .ref (ad 5), .int (nI fn), .ref (ad 6), .ref (ad 7), .int (nI dn), .ref (ad 8), .long ex, .long ey, .long eg, .int (nI cn), .ref (ad 9), .ref (ad 10), .int (nI sn), .int at0, .int fl, .int (nI tn), .ref (ad 11), .ref (ad 12)])), (ad 1, .inl (G.2.1 2, 16, .inr (.inl px))), (ad 2, .inl (G.2.1 2, 16, .inr (.inl py))), (ad 3, .inl (G.2.1 2, 16, .inr (.inl pz))), (ad 4, .inl (G.2.1 2, 16, .inr (.inl gr))), (ad 5, .inl (G.2.1 2, 16, .inr (.inl ou))), (ad 6, .inl (G.2.1 2, 12, .inr (.inl fx))), (ad 7, .inl (G.2.1 2, 12, .inr (.inl fy))), (ad 8, .inl (G.2.1 1, 8, .inl od)), (ad 9, .inl (G.2.1 1, 12, .inl cr)), (ad 10, .inl (G.2.1 1, 200, .inl ty)), (ad 11, .inl (G.2.1 1, 48, .inl to_)), (ad 12, .inl (G.2.1 1, 48, .inl dr))]) H locs := hW
          refine lv_aload_n gX gB dX6_wobble_98 rfl (lv_at hl 1 rfl) ?_
          refine gx_get C hW fX6_47 ⟨0, rfl⟩ rfl dX6_wobble_99 ?_
          refine lv_if_le (tgt := 107) gX gB dX6_wobble_102 (by decide) (fun h9 => absurd (show 1 ≤ (0 : Int32) from h9) (by decide)) (fun _ => ?_)
          refine lv_dconst0 gX gB dX6_wobble_105 ?_
          exact gx_dret C hr hW (Or.inr ⟨by rw [wb_1 (n := fn) (cr := cr_s fx fy 1 2) (z1 := z1) (z2 := z2) (z3 := z3) (z4 := z4) (Or.inr (c77))]; decide, rfl, by rw [wb_1 (n := fn) (cr := cr_s fx fy 1 2) (z1 := z1) (z2 := z2) (z3 := z3) (z4 := z4) (Or.inr (c77))]⟩) (Nat.le_of_ble_eq_true rfl) (Nat.le_of_ble_eq_true rfl) dX6_wobble_106
    · refine lv_lload gX gB dX6_wobble_26 (lv_at hl 3 rfl) ?_
      refine gx_ldc2 (v := (-1000)) C (tq_5 212 (by decide +kernel) rfl) dX6_wobble_28 ?_
      refine gx_ldc2 (v := 1000) C (tq_5 213 (by decide +kernel) rfl) dX6_wobble_31 ?_
      refine gx_callS (wr := []) (rest := []) C hW sX6_61 (kX6_isIn l G ([(ad 0, .inr (11, [.int cd, .int (nI pn), .ref (ad 1), .ref (ad 2), .ref (ad 3), .ref (ad 4), .ref (ad 5), .int (nI fn), .ref (ad 6), .ref (ad 7), .int (nI dn), .ref (ad 8), .long ex, .long ey, .long eg, .int (nI cn), .ref (ad 9), .ref (ad 10), .int (nI sn), .int at0, .int fl, .int (nI tn), .ref (ad 11), .ref (ad 12)])), (ad 1, .inl (G.2.1 2, 16, .inr (.inl px))), (ad 2, .inl (G.2.1 2, 16, .inr (.inl py))), (ad 3, .inl (G.2.1 2, 16, .inr (.inl pz))), (ad 4, .inl (G.2.1 2, 16, .inr (.inl gr))), (ad 5, .inl (G.2.1 2, 16, .inr (.inl ou))), (ad 6, .inl (G.2.1 2, 12, .inr (.inl fx))), (ad 7, .inl (G.2.1 2, 12, .inr (.inl fy))), (ad 8, .inl (G.2.1 1, 8, .inl od)), (ad 9, .inl (G.2.1 1, 12, .inl cr)), (ad 10, .inl (G.2.1 1, 200, .inl ty)), (ad 11, .inl (G.2.1 1, 48, .inl to_)), (ad 12, .inl (G.2.1 1, 48, .inl dr))]) z3 (-1000) 1000) rfl ⟨(Nat.le_of_ble_eq_true rfl), (Nat.le_of_ble_eq_true rfl)⟩ hl.1 rfl (Nat.le_of_ble_eq_true rfl) dX6_wobble_34 ⟨(Nat.le_of_ble_eq_true rfl), (Nat.le_of_ble_eq_true rfl)⟩ (fun v9 u9 H locs hp hW => ?_)
      obtain ⟨rfl, hu⟩ := hp
      rw [hu] at hW
      have hW : gx_W G A s ([(ad 0, .inr (11, [.int cd, .int (nI pn), .ref (ad 1), .ref (ad 2), .ref (ad 3), .ref (ad 4), .ref (ad 5), .int (nI fn), .ref (ad 6), .ref (ad 7), .int (nI dn), .ref (ad 8), .long ex, .long ey, .long eg, .int (nI cn), .ref (ad 9), .ref (ad 10), .int (nI sn), .int at0, .int fl, .int (nI tn), .ref (ad 11), .ref (ad 12)])), (ad 1, .inl (G.2.1 2, 16, .inr (.inl px))), (ad 2, .inl (G.2.1 2, 16, .inr (.inl py))), (ad 3, .inl (G.2.1 2, 16, .inr (.inl pz))), (ad 4, .inl (G.2.1 2, 16, .inr (.inl gr))), (ad 5, .inl (G.2.1 2, 16, .inr (.inl ou))), (ad 6, .inl (G.2.1 2, 12, .inr (.inl fx))), (ad 7, .inl (G.2.1 2, 12, .inr (.inl fy))), (ad 8, .inl (G.2.1 1, 8, .inl od)), (ad 9, .inl (G.2.1 1, 12, .inl cr)), (ad 10, .inl (G.2.1 1, 200, .inl ty)), (ad 11, .inl (G.2.1 1, 48, .inl to_)), (ad 12, .inl (G.2.1 1, 48, .inl dr))]) H locs := hW
      refine W.eq (g2 := F0 m 37 ls [.int (gx_b (hg_ok z3))]) rfl ?_
      refine W.widen (k := 0) (n := 0) (Nat.le_of_ble_eq_true rfl) (Nat.le_of_ble_eq_true rfl) ?_
      refine lv_if_eq (tgt := 58) gX gB dX6_wobble_37 (by decide) (fun c37 => ?_) (fun c37 => ?_)
      · refine lv_iconst (v := 0) gX gB dX6_wobble_58 (by decide) ?_
        refine lv_istore (lv' := [(9, .int 0), (0, .ref (ad 0)), (1, .long z1), (3, .long z2), (5, .long z3), (7, .long z4)]) gX gB dX6_wobble_59 hl (by decide) rfl (fun ls hl => ?_)
        refine lv_aload_n gX gB dX6_wobble_61 rfl (lv_at hl 1 rfl) ?_
        refine lv_aload_n gX gB dX6_wobble_62 rfl (lv_at hl 1 rfl) ?_
        refine gx_get C hW fX6_68 ⟨0, rfl⟩ rfl dX6_wobble_63 ?_
        refine lv_iconst (v := 4) gX gB dX6_wobble_66 (by decide) ?_
        refine lv_icmp_lt (tgt := 81) gX gB dX6_wobble_67 (by decide) (fun c67 => ?_) (fun c67 => ?_)
        · refine lv_iconst (v := 1) gX gB dX6_wobble_81 (by decide) ?_
          refine lv_goto (tgt := 95) gX gB dX6_wobble_82 (by decide) ?_
          refine gx_putE C hW clX6 fX6_47 0 rfl (Or.inl rfl) rfl rfl (Nat.le_of_ble_eq_true rfl) dX6_wobble_95 (fun H locs hW => ?_)
          have hW : gx_W G A s ([(ad 0, .inr (11, [.int 1, .int (nI pn), .ref (ad 1), .ref (ad 2), .ref (ad 3), .ref (ad 4), .ref (ad 5), .int (nI fn), .ref (ad 6), .ref (ad 7), .int (nI dn), .ref (ad 8), .long ex, .long ey, .long eg, .int (nI cn), .ref (ad 9), .ref (ad 10), .int (nI sn), .int at0, .int fl, .int (nI tn), .ref (ad 11), .ref (ad 12)])), (ad 1, .inl (G.2.1 2, 16, .inr (.inl px))), (ad 2, .inl (G.2.1 2, 16, .inr (.inl py))), (ad 3, .inl (G.2.1 2, 16, .inr (.inl pz))), (ad 4, .inl (G.2.1 2, 16, .inr (.inl gr))), (ad 5, .inl (G.2.1 2, 16, .inr (.inl ou))), (ad 6, .inl (G.2.1 2, 12, .inr (.inl fx))), (ad 7, .inl (G.2.1 2, 12, .inr (.inl fy))), (ad 8, .inl (G.2.1 1, 8, .inl od)), (ad 9, .inl (G.2.1 1, 12, .inl cr)), (ad 10, .inl (G.2.1 1, 200, .inl ty)), (ad 11, .inl (G.2.1 1, 48, .inl to_)), (ad 12, .inl (G.2.1 1, 48, .inl dr))]) H locs := hW
          refine lv_aload_n gX gB dX6_wobble_98 rfl (lv_at hl 1 rfl) ?_
          refine gx_get C hW fX6_47 ⟨0, rfl⟩ rfl dX6_wobble_99 ?_
          refine lv_if_le (tgt := 107) gX gB dX6_wobble_102 (by decide) (fun h9 => absurd (show 1 ≤ (0 : Int32) from h9) (by decide)) (fun _ => ?_)
          refine lv_dconst0 gX gB dX6_wobble_105 ?_
          exact gx_dret C hr hW (Or.inr ⟨by rw [wb_1 (n := fn) (cr := cr_s fx fy 1 2) (z1 := z1) (z2 := z2) (z3 := z3) (z4 := z4) (Or.inl (c67))]; decide, rfl, by rw [wb_1 (n := fn) (cr := cr_s fx fy 1 2) (z1 := z1) (z2 := z2) (z3 := z3) (z4 := z4) (Or.inl (c67))]⟩) (Nat.le_of_ble_eq_true rfl) (Nat.le_of_ble_eq_true rfl) dX6_wobble_106
        · refine lv_aload_n gX gB dX6_wobble_70 rfl (lv_at hl 1 rfl) ?_
          refine lv_iconst (v := 1) gX gB dX6_wobble_71 (by decide) ?_
          refine gx_topi (show (1 : Int32) = nI 1 from rfl) ?_
          refine lv_iconst (v := 2) gX gB dX6_wobble_72 (by decide) ?_
          refine gx_topi (show (2 : Int32) = nI 2 from rfl) ?_
          refine gx_callV (wr := []) (rest := [.ref (ad 0)]) C hW sX6_158 (kX6_cross l G ad cd pn fn dn cn sn tn ex ey eg at0 fl px py pz gr ou fx fy od cr ty to_ dr 1 2 (by decide) (by decide)) ⟨0, rfl⟩ rfl rfl ⟨(Nat.le_of_ble_eq_true rfl), (Nat.le_of_ble_eq_true rfl)⟩ hl.1 rfl (Nat.le_of_ble_eq_true rfl) dX6_wobble_73 ⟨(Nat.le_of_ble_eq_true rfl), (Nat.le_of_ble_eq_true rfl)⟩ (fun v9 u9 H locs hp hW => ?_)
          obtain ⟨rfl, hu⟩ := hp
          rw [hu] at hW
          have hW : gx_W G A s ([(ad 0, .inr (11, [.int cd, .int (nI pn), .ref (ad 1), .ref (ad 2), .ref (ad 3), .ref (ad 4), .ref (ad 5), .int (nI fn), .ref (ad 6), .ref (ad 7), .int (nI dn), .ref (ad 8), .long ex, .long ey, .long eg, .int (nI cn), .ref (ad 9), .ref (ad 10), .int (nI sn), .int at0, .int fl, .int (nI tn), .ref (ad 11), .ref (ad 12)])), (ad 1, .inl (G.2.1 2, 16, .inr (.inl px))), (ad 2, .inl (G.2.1 2, 16, .inr (.inl py))), (ad 3, .inl (G.2.1 2, 16, .inr (.inl pz))), (ad 4, .inl (G.2.1 2, 16, .inr (.inl gr))), (ad 5, .inl (G.2.1 2, 16, .inr (.inl ou))), (ad 6, .inl (G.2.1 2, 12, .inr (.inl fx))), (ad 7, .inl (G.2.1 2, 12, .inr (.inl fy))), (ad 8, .inl (G.2.1 1, 8, .inl od)), (ad 9, .inl (G.2.1 1, 12, .inl cr)), (ad 10, .inl (G.2.1 1, 200, .inl ty)), (ad 11, .inl (G.2.1 1, 48, .inl to_)), (ad 12, .inl (G.2.1 1, 48, .inl dr))]) H locs := hW
          refine W.eq (g2 := F0 m 76 ls [.long (cr_s fx fy 1 2), .ref (ad 0)]) rfl ?_
          refine W.widen (k := 0) (n := 0) (Nat.le_of_ble_eq_true rfl) (Nat.le_of_ble_eq_true rfl) ?_
          refine lv_lconst (v := 0) gX gB dX6_wobble_76 (by decide) ?_
          refine gx_lc_ne (tgt := 85) C dX6_wobble_77 dX6_wobble_78 (by decide) (fun c77 => ?_) (fun c77 => ?_)
          · refine lv_iload gX gB dX6_wobble_85 (lv_at hl 0 rfl) ?_
            refine lv_if_eq (tgt := 94) gX gB dX6_wobble_87 (by decide) (fun _ => ?_) (fun h9 => absurd (show 0 = (0 : Int32) from by decide) h9)
            refine lv_iconst (v := 2) gX gB dX6_wobble_94 (by decide) ?_
            refine gx_putE C hW clX6 fX6_47 0 rfl (Or.inl rfl) rfl rfl (Nat.le_of_ble_eq_true rfl) dX6_wobble_95 (fun H locs hW => ?_)
            have hW : gx_W G A s ([(ad 0, .inr (11, [.int 2, .int (nI pn), .ref (ad 1), .ref (ad 2), .ref (ad 3), .ref (ad 4), .ref (ad 5), .int (nI fn), .ref (ad 6), .ref (ad 7), .int (nI dn), .ref (ad 8), .long ex, .long ey, .long eg, .int (nI cn), .ref (ad 9), .ref (ad 10), .int (nI sn), .int at0, .int fl, .int (nI tn), .ref (ad 11), .ref (ad 12)])), (ad 1, .inl (G.2.1 2, 16, .inr (.inl px))), (ad 2, .inl (G.2.1 2, 16, .inr (.inl py))), (ad 3, .inl (G.2.1 2, 16, .inr (.inl pz))), (ad 4, .inl (G.2.1 2, 16, .inr (.inl gr))), (ad 5, .inl (G.2.1 2, 16, .inr (.inl ou))), (ad 6, .inl (G.2.1 2, 12, .inr (.inl fx))), (ad 7, .inl (G.2.1 2, 12, .inr (.inl fy))), (ad 8, .inl (G.2.1 1, 8, .inl od)), (ad 9, .inl (G.2.1 1, 12, .inl cr)), (ad 10, .inl (G.2.1 1, 200, .inl ty)), (ad 11, .inl (G.2.1 1, 48, .inl to_)), (ad 12, .inl (G.2.1 1, 48, .inl dr))]) H locs := hW
            refine lv_aload_n gX gB dX6_wobble_98 rfl (lv_at hl 1 rfl) ?_
            refine gx_get C hW fX6_47 ⟨0, rfl⟩ rfl dX6_wobble_99 ?_
            refine lv_if_le (tgt := 107) gX gB dX6_wobble_102 (by decide) (fun h9 => absurd (show 2 ≤ (0 : Int32) from h9) (by decide)) (fun _ => ?_)
            refine lv_dconst0 gX gB dX6_wobble_105 ?_
            exact gx_dret C hr hW (Or.inr ⟨by rw [wb_2 (n := fn) (cr := cr_s fx fy 1 2) (z1 := z1) (z2 := z2) (z3 := z3) (z4 := z4) (c67) (c77) (fun zz => gx_b0.mp (c37) zz.2.2.1)]; decide, rfl, by rw [wb_2 (n := fn) (cr := cr_s fx fy 1 2) (z1 := z1) (z2 := z2) (z3 := z3) (z4 := z4) (c67) (c77) (fun zz => gx_b0.mp (c37) zz.2.2.1)]⟩) (Nat.le_of_ble_eq_true rfl) (Nat.le_of_ble_eq_true rfl) dX6_wobble_106
          · refine lv_iconst (v := 1) gX gB dX6_wobble_81 (by decide) ?_
            refine lv_goto (tgt := 95) gX gB dX6_wobble_82 (by decide) ?_
            refine gx_putE C hW clX6 fX6_47 0 rfl (Or.inl rfl) rfl rfl (Nat.le_of_ble_eq_true rfl) dX6_wobble_95 (fun H locs hW => ?_)
            have hW : gx_W G A s ([(ad 0, .inr (11, [.int 1, .int (nI pn), .ref (ad 1), .ref (ad 2), .ref (ad 3), .ref (ad 4), .ref (ad 5), .int (nI fn), .ref (ad 6), .ref (ad 7), .int (nI dn), .ref (ad 8), .long ex, .long ey, .long eg, .int (nI cn), .ref (ad 9), .ref (ad 10), .int (nI sn), .int at0, .int fl, .int (nI tn), .ref (ad 11), .ref (ad 12)])), (ad 1, .inl (G.2.1 2, 16, .inr (.inl px))), (ad 2, .inl (G.2.1 2, 16, .inr (.inl py))), (ad 3, .inl (G.2.1 2, 16, .inr (.inl pz))), (ad 4, .inl (G.2.1 2, 16, .inr (.inl gr))), (ad 5, .inl (G.2.1 2, 16, .inr (.inl ou))), (ad 6, .inl (G.2.1 2, 12, .inr (.inl fx))), (ad 7, .inl (G.2.1 2, 12, .inr (.inl fy))), (ad 8, .inl (G.2.1 1, 8, .inl od)), (ad 9, .inl (G.2.1 1, 12, .inl cr)), (ad 10, .inl (G.2.1 1, 200, .inl ty)), (ad 11, .inl (G.2.1 1, 48, .inl to_)), (ad 12, .inl (G.2.1 1, 48, .inl dr))]) H locs := hW
            refine lv_aload_n gX gB dX6_wobble_98 rfl (lv_at hl 1 rfl) ?_
            refine gx_get C hW fX6_47 ⟨0, rfl⟩ rfl dX6_wobble_99 ?_
            refine lv_if_le (tgt := 107) gX gB dX6_wobble_102 (by decide) (fun h9 => absurd (show 1 ≤ (0 : Int32) from h9) (by decide)) (fun _ => ?_)
            refine lv_dconst0 gX gB dX6_wobble_105 ?_
            exact gx_dret C hr hW (Or.inr ⟨by rw [wb_1 (n := fn) (cr := cr_s fx fy 1 2) (z1 := z1) (z2 := z2) (z3 := z3) (z4 := z4) (Or.inr (c77))]; decide, rfl, by rw [wb_1 (n := fn) (cr := cr_s fx fy 1 2) (z1 := z1) (z2 := z2) (z3 := z3) (z4 := z4) (Or.inr (c77))]⟩) (Nat.le_of_ble_eq_true rfl) (Nat.le_of_ble_eq_true rfl) dX6_wobble_106
      · refine lv_lload gX gB dX6_wobble_40 (lv_at hl 4 rfl) ?_
        refine gx_ldc2 (v := (-1000)) C (tq_5 212 (by decide +kernel) rfl) dX6_wobble_42 ?_
        refine gx_ldc2 (v := 1000) C (tq_5 213 (by decide +kernel) rfl) dX6_wobble_45 ?_
        refine gx_callS (wr := []) (rest := []) C hW sX6_61 (kX6_isIn l G ([(ad 0, .inr (11, [.int cd, .int (nI pn), .ref (ad 1), .ref (ad 2), .ref (ad 3), .ref (ad 4), .ref (ad 5), .int (nI fn), .ref (ad 6), .ref (ad 7), .int (nI dn), .ref (ad 8), .long ex, .long ey, .long eg, .int (nI cn), .ref (ad 9), .ref (ad 10), .int (nI sn), .int at0, .int fl, .int (nI tn), .ref (ad 11), .ref (ad 12)])), (ad 1, .inl (G.2.1 2, 16, .inr (.inl px))), (ad 2, .inl (G.2.1 2, 16, .inr (.inl py))), (ad 3, .inl (G.2.1 2, 16, .inr (.inl pz))), (ad 4, .inl (G.2.1 2, 16, .inr (.inl gr))), (ad 5, .inl (G.2.1 2, 16, .inr (.inl ou))), (ad 6, .inl (G.2.1 2, 12, .inr (.inl fx))), (ad 7, .inl (G.2.1 2, 12, .inr (.inl fy))), (ad 8, .inl (G.2.1 1, 8, .inl od)), (ad 9, .inl (G.2.1 1, 12, .inl cr)), (ad 10, .inl (G.2.1 1, 200, .inl ty)), (ad 11, .inl (G.2.1 1, 48, .inl to_)), (ad 12, .inl (G.2.1 1, 48, .inl dr))]) z4 (-1000) 1000) rfl ⟨(Nat.le_of_ble_eq_true rfl), (Nat.le_of_ble_eq_true rfl)⟩ hl.1 rfl (Nat.le_of_ble_eq_true rfl) dX6_wobble_48 ⟨(Nat.le_of_ble_eq_true rfl), (Nat.le_of_ble_eq_true rfl)⟩ (fun v9 u9 H locs hp hW => ?_)
        obtain ⟨rfl, hu⟩ := hp
        rw [hu] at hW
        have hW : gx_W G A s ([(ad 0, .inr (11, [.int cd, .int (nI pn), .ref (ad 1), .ref (ad 2), .ref (ad 3), .ref (ad 4), .ref (ad 5), .int (nI fn), .ref (ad 6), .ref (ad 7), .int (nI dn), .ref (ad 8), .long ex, .long ey, .long eg, .int (nI cn), .ref (ad 9), .ref (ad 10), .int (nI sn), .int at0, .int fl, .int (nI tn), .ref (ad 11), .ref (ad 12)])), (ad 1, .inl (G.2.1 2, 16, .inr (.inl px))), (ad 2, .inl (G.2.1 2, 16, .inr (.inl py))), (ad 3, .inl (G.2.1 2, 16, .inr (.inl pz))), (ad 4, .inl (G.2.1 2, 16, .inr (.inl gr))), (ad 5, .inl (G.2.1 2, 16, .inr (.inl ou))), (ad 6, .inl (G.2.1 2, 12, .inr (.inl fx))), (ad 7, .inl (G.2.1 2, 12, .inr (.inl fy))), (ad 8, .inl (G.2.1 1, 8, .inl od)), (ad 9, .inl (G.2.1 1, 12, .inl cr)), (ad 10, .inl (G.2.1 1, 200, .inl ty)), (ad 11, .inl (G.2.1 1, 48, .inl to_)), (ad 12, .inl (G.2.1 1, 48, .inl dr))]) H locs := hW
        refine W.eq (g2 := F0 m 51 ls [.int (gx_b (hg_ok z4))]) rfl ?_
        refine W.widen (k := 0) (n := 0) (Nat.le_of_ble_eq_true rfl) (Nat.le_of_ble_eq_true rfl) ?_
        refine lv_if_eq (tgt := 58) gX gB dX6_wobble_51 (by decide) (fun c51 => ?_) (fun c51 => ?_)
        · refine lv_iconst (v := 0) gX gB dX6_wobble_58 (by decide) ?_
          refine lv_istore (lv' := [(9, .int 0), (0, .ref (ad 0)), (1, .long z1), (3, .long z2), (5, .long z3), (7, .long z4)]) gX gB dX6_wobble_59 hl (by decide) rfl (fun ls hl => ?_)
          refine lv_aload_n gX gB dX6_wobble_61 rfl (lv_at hl 1 rfl) ?_
          refine lv_aload_n gX gB dX6_wobble_62 rfl (lv_at hl 1 rfl) ?_
          refine gx_get C hW fX6_68 ⟨0, rfl⟩ rfl dX6_wobble_63 ?_
          refine lv_iconst (v := 4) gX gB dX6_wobble_66 (by decide) ?_
          refine lv_icmp_lt (tgt := 81) gX gB dX6_wobble_67 (by decide) (fun c67 => ?_) (fun c67 => ?_)
          · refine lv_iconst (v := 1) gX gB dX6_wobble_81 (by decide) ?_
            refine lv_goto (tgt := 95) gX gB dX6_wobble_82 (by decide) ?_
            refine gx_putE C hW clX6 fX6_47 0 rfl (Or.inl rfl) rfl rfl (Nat.le_of_ble_eq_true rfl) dX6_wobble_95 (fun H locs hW => ?_)
            have hW : gx_W G A s ([(ad 0, .inr (11, [.int 1, .int (nI pn), .ref (ad 1), .ref (ad 2), .ref (ad 3), .ref (ad 4), .ref (ad 5), .int (nI fn), .ref (ad 6), .ref (ad 7), .int (nI dn), .ref (ad 8), .long ex, .long ey, .long eg, .int (nI cn), .ref (ad 9), .ref (ad 10), .int (nI sn), .int at0, .int fl, .int (nI tn), .ref (ad 11), .ref (ad 12)])), (ad 1, .inl (G.2.1 2, 16, .inr (.inl px))), (ad 2, .inl (G.2.1 2, 16, .inr (.inl py))), (ad 3, .inl (G.2.1 2, 16, .inr (.inl pz))), (ad 4, .inl (G.2.1 2, 16, .inr (.inl gr))), (ad 5, .inl (G.2.1 2, 16, .inr (.inl ou))), (ad 6, .inl (G.2.1 2, 12, .inr (.inl fx))), (ad 7, .inl (G.2.1 2, 12, .inr (.inl fy))), (ad 8, .inl (G.2.1 1, 8, .inl od)), (ad 9, .inl (G.2.1 1, 12, .inl cr)), (ad 10, .inl (G.2.1 1, 200, .inl ty)), (ad 11, .inl (G.2.1 1, 48, .inl to_)), (ad 12, .inl (G.2.1 1, 48, .inl dr))]) H locs := hW
            refine lv_aload_n gX gB dX6_wobble_98 rfl (lv_at hl 1 rfl) ?_
            refine gx_get C hW fX6_47 ⟨0, rfl⟩ rfl dX6_wobble_99 ?_
            refine lv_if_le (tgt := 107) gX gB dX6_wobble_102 (by decide) (fun h9 => absurd (show 1 ≤ (0 : Int32) from h9) (by decide)) (fun _ => ?_)
            refine lv_dconst0 gX gB dX6_wobble_105 ?_
            exact gx_dret C hr hW (Or.inr ⟨by rw [wb_1 (n := fn) (cr := cr_s fx fy 1 2) (z1 := z1) (z2 := z2) (z3 := z3) (z4 := z4) (Or.inl (c67))]; decide, rfl, by rw [wb_1 (n := fn) (cr := cr_s fx fy 1 2) (z1 := z1) (z2 := z2) (z3 := z3) (z4 := z4) (Or.inl (c67))]⟩) (Nat.le_of_ble_eq_true rfl) (Nat.le_of_ble_eq_true rfl) dX6_wobble_106
          · refine lv_aload_n gX gB dX6_wobble_70 rfl (lv_at hl 1 rfl) ?_
            refine lv_iconst (v := 1) gX gB dX6_wobble_71 (by decide) ?_
            refine gx_topi (show (1 : Int32) = nI 1 from rfl) ?_
            refine lv_iconst (v := 2) gX gB dX6_wobble_72 (by decide) ?_
            refine gx_topi (show (2 : Int32) = nI 2 from rfl) ?_
            refine gx_callV (wr := []) (rest := [.ref (ad 0)]) C hW sX6_158 (kX6_cross l G ad cd pn fn dn cn sn tn ex ey eg at0 fl px py pz gr ou fx fy od cr ty to_ dr 1 2 (by decide) (by decide)) ⟨0, rfl⟩ rfl rfl ⟨(Nat.le_of_ble_eq_true rfl), (Nat.le_of_ble_eq_true rfl)⟩ hl.1 rfl (Nat.le_of_ble_eq_true rfl) dX6_wobble_73 ⟨(Nat.le_of_ble_eq_true rfl), (Nat.le_of_ble_eq_true rfl)⟩ (fun v9 u9 H locs hp hW => ?_)
            obtain ⟨rfl, hu⟩ := hp
            rw [hu] at hW
            have hW : gx_W G A s ([(ad 0, .inr (11, [.int cd, .int (nI pn), .ref (ad 1), .ref (ad 2), .ref (ad 3), .ref (ad 4), .ref (ad 5), .int (nI fn), .ref (ad 6), .ref (ad 7), .int (nI dn), .ref (ad 8), .long ex, .long ey, .long eg, .int (nI cn), .ref (ad 9), .ref (ad 10), .int (nI sn), .int at0, .int fl, .int (nI tn), .ref (ad 11), .ref (ad 12)])), (ad 1, .inl (G.2.1 2, 16, .inr (.inl px))), (ad 2, .inl (G.2.1 2, 16, .inr (.inl py))), (ad 3, .inl (G.2.1 2, 16, .inr (.inl pz))), (ad 4, .inl (G.2.1 2, 16, .inr (.inl gr))), (ad 5, .inl (G.2.1 2, 16, .inr (.inl ou))), (ad 6, .inl (G.2.1 2, 12, .inr (.inl fx))), (ad 7, .inl (G.2.1 2, 12, .inr (.inl fy))), (ad 8, .inl (G.2.1 1, 8, .inl od)), (ad 9, .inl (G.2.1 1, 12, .inl cr)), (ad 10, .inl (G.2.1 1, 200, .inl ty)), (ad 11, .inl (G.2.1 1, 48, .inl to_)), (ad 12, .inl (G.2.1 1, 48, .inl dr))]) H locs := hW
            refine W.eq (g2 := F0 m 76 ls [.long (cr_s fx fy 1 2), .ref (ad 0)]) rfl ?_
            refine W.widen (k := 0) (n := 0) (Nat.le_of_ble_eq_true rfl) (Nat.le_of_ble_eq_true rfl) ?_
            refine lv_lconst (v := 0) gX gB dX6_wobble_76 (by decide) ?_
            refine gx_lc_ne (tgt := 85) C dX6_wobble_77 dX6_wobble_78 (by decide) (fun c77 => ?_) (fun c77 => ?_)
            · refine lv_iload gX gB dX6_wobble_85 (lv_at hl 0 rfl) ?_
              refine lv_if_eq (tgt := 94) gX gB dX6_wobble_87 (by decide) (fun _ => ?_) (fun h9 => absurd (show 0 = (0 : Int32) from by decide) h9)
              refine lv_iconst (v := 2) gX gB dX6_wobble_94 (by decide) ?_
              refine gx_putE C hW clX6 fX6_47 0 rfl (Or.inl rfl) rfl rfl (Nat.le_of_ble_eq_true rfl) dX6_wobble_95 (fun H locs hW => ?_)
              have hW : gx_W G A s ([(ad 0, .inr (11, [.int 2, .int (nI pn), .ref (ad 1), .ref (ad 2), .ref (ad 3), .ref (ad 4), .ref (ad 5), .int (nI fn), .ref (ad 6), .ref (ad 7), .int (nI dn), .ref (ad 8), .long ex, .long ey, .long eg, .int (nI cn), .ref (ad 9), .ref (ad 10), .int (nI sn), .int at0, .int fl, .int (nI tn), .ref (ad 11), .ref (ad 12)])), (ad 1, .inl (G.2.1 2, 16, .inr (.inl px))), (ad 2, .inl (G.2.1 2, 16, .inr (.inl py))), (ad 3, .inl (G.2.1 2, 16, .inr (.inl pz))), (ad 4, .inl (G.2.1 2, 16, .inr (.inl gr))), (ad 5, .inl (G.2.1 2, 16, .inr (.inl ou))), (ad 6, .inl (G.2.1 2, 12, .inr (.inl fx))), (ad 7, .inl (G.2.1 2, 12, .inr (.inl fy))), (ad 8, .inl (G.2.1 1, 8, .inl od)), (ad 9, .inl (G.2.1 1, 12, .inl cr)), (ad 10, .inl (G.2.1 1, 200, .inl ty)), (ad 11, .inl (G.2.1 1, 48, .inl to_)), (ad 12, .inl (G.2.1 1, 48, .inl dr))]) H locs := hW
              refine lv_aload_n gX gB dX6_wobble_98 rfl (lv_at hl 1 rfl) ?_
              refine gx_get C hW fX6_47 ⟨0, rfl⟩ rfl dX6_wobble_99 ?_
              refine lv_if_le (tgt := 107) gX gB dX6_wobble_102 (by decide) (fun h9 => absurd (show 2 ≤ (0 : Int32) from h9) (by decide)) (fun _ => ?_)
              refine lv_dconst0 gX gB dX6_wobble_105 ?_
              exact gx_dret C hr hW (Or.inr ⟨by rw [wb_2 (n := fn) (cr := cr_s fx fy 1 2) (z1 := z1) (z2 := z2) (z3 := z3) (z4 := z4) (c67) (c77) (fun zz => gx_b0.mp (c51) zz.2.2.2)]; decide, rfl, by rw [wb_2 (n := fn) (cr := cr_s fx fy 1 2) (z1 := z1) (z2 := z2) (z3 := z3) (z4 := z4) (c67) (c77) (fun zz => gx_b0.mp (c51) zz.2.2.2)]⟩) (Nat.le_of_ble_eq_true rfl) (Nat.le_of_ble_eq_true rfl) dX6_wobble_106
            · refine lv_iconst (v := 1) gX gB dX6_wobble_81 (by decide) ?_
              refine lv_goto (tgt := 95) gX gB dX6_wobble_82 (by decide) ?_
              refine gx_putE C hW clX6 fX6_47 0 rfl (Or.inl rfl) rfl rfl (Nat.le_of_ble_eq_true rfl) dX6_wobble_95 (fun H locs hW => ?_)
              have hW : gx_W G A s ([(ad 0, .inr (11, [.int 1, .int (nI pn), .ref (ad 1), .ref (ad 2), .ref (ad 3), .ref (ad 4), .ref (ad 5), .int (nI fn), .ref (ad 6), .ref (ad 7), .int (nI dn), .ref (ad 8), .long ex, .long ey, .long eg, .int (nI cn), .ref (ad 9), .ref (ad 10), .int (nI sn), .int at0, .int fl, .int (nI tn), .ref (ad 11), .ref (ad 12)])), (ad 1, .inl (G.2.1 2, 16, .inr (.inl px))), (ad 2, .inl (G.2.1 2, 16, .inr (.inl py))), (ad 3, .inl (G.2.1 2, 16, .inr (.inl pz))), (ad 4, .inl (G.2.1 2, 16, .inr (.inl gr))), (ad 5, .inl (G.2.1 2, 16, .inr (.inl ou))), (ad 6, .inl (G.2.1 2, 12, .inr (.inl fx))), (ad 7, .inl (G.2.1 2, 12, .inr (.inl fy))), (ad 8, .inl (G.2.1 1, 8, .inl od)), (ad 9, .inl (G.2.1 1, 12, .inl cr)), (ad 10, .inl (G.2.1 1, 200, .inl ty)), (ad 11, .inl (G.2.1 1, 48, .inl to_)), (ad 12, .inl (G.2.1 1, 48, .inl dr))]) H locs := hW
              refine lv_aload_n gX gB dX6_wobble_98 rfl (lv_at hl 1 rfl) ?_
              refine gx_get C hW fX6_47 ⟨0, rfl⟩ rfl dX6_wobble_99 ?_
              refine lv_if_le (tgt := 107) gX gB dX6_wobble_102 (by decide) (fun h9 => absurd (show 1 ≤ (0 : Int32) from h9) (by decide)) (fun _ => ?_)
              refine lv_dconst0 gX gB dX6_wobble_105 ?_
              exact gx_dret C hr hW (Or.inr ⟨by rw [wb_1 (n := fn) (cr := cr_s fx fy 1 2) (z1 := z1) (z2 := z2) (z3 := z3) (z4 := z4) (Or.inr (c77))]; decide, rfl, by rw [wb_1 (n := fn) (cr := cr_s fx fy 1 2) (z1 := z1) (z2 := z2) (z3 := z3) (z4 := z4) (Or.inr (c77))]⟩) (Nat.le_of_ble_eq_true rfl) (Nat.le_of_ble_eq_true rfl) dX6_wobble_106
        · refine lv_iconst (v := 1) gX gB dX6_wobble_54 (by decide) ?_
          refine lv_goto (tgt := 59) gX gB dX6_wobble_55 (by decide) ?_
          refine lv_istore (lv' := [(9, .int 1), (0, .ref (ad 0)), (1, .long z1), (3, .long z2), (5, .long z3), (7, .long z4)]) gX gB dX6_wobble_59 hl (by decide) rfl (fun ls hl => ?_)
          refine lv_aload_n gX gB dX6_wobble_61 rfl (lv_at hl 1 rfl) ?_
          refine lv_aload_n gX gB dX6_wobble_62 rfl (lv_at hl 1 rfl) ?_
          refine gx_get C hW fX6_68 ⟨0, rfl⟩ rfl dX6_wobble_63 ?_
          refine lv_iconst (v := 4) gX gB dX6_wobble_66 (by decide) ?_
          refine lv_icmp_lt (tgt := 81) gX gB dX6_wobble_67 (by decide) (fun c67 => ?_) (fun c67 => ?_)
          · refine lv_iconst (v := 1) gX gB dX6_wobble_81 (by decide) ?_
            refine lv_goto (tgt := 95) gX gB dX6_wobble_82 (by decide) ?_
            refine gx_putE C hW clX6 fX6_47 0 rfl (Or.inl rfl) rfl rfl (Nat.le_of_ble_eq_true rfl) dX6_wobble_95 (fun H locs hW => ?_)
            have hW : gx_W G A s ([(ad 0, .inr (11, [.int 1, .int (nI pn), .ref (ad 1), .ref (ad 2), .ref (ad 3), .ref (ad 4), .ref (ad 5), .int (nI fn), .ref (ad 6), .ref (ad 7), .int (nI dn), .ref (ad 8), .long ex, .long ey, .long eg, .int (nI cn), .ref (ad 9), .ref (ad 10), .int (nI sn), .int at0, .int fl, .int (nI tn), .ref (ad 11), .ref (ad 12)])), (ad 1, .inl (G.2.1 2, 16, .inr (.inl px))), (ad 2, .inl (G.2.1 2, 16, .inr (.inl py))), (ad 3, .inl (G.2.1 2, 16, .inr (.inl pz))), (ad 4, .inl (G.2.1 2, 16, .inr (.inl gr))), (ad 5, .inl (G.2.1 2, 16, .inr (.inl ou))), (ad 6, .inl (G.2.1 2, 12, .inr (.inl fx))), (ad 7, .inl (G.2.1 2, 12, .inr (.inl fy))), (ad 8, .inl (G.2.1 1, 8, .inl od)), (ad 9, .inl (G.2.1 1, 12, .inl cr)), (ad 10, .inl (G.2.1 1, 200, .inl ty)), (ad 11, .inl (G.2.1 1, 48, .inl to_)), (ad 12, .inl (G.2.1 1, 48, .inl dr))]) H locs := hW
            refine lv_aload_n gX gB dX6_wobble_98 rfl (lv_at hl 1 rfl) ?_
            refine gx_get C hW fX6_47 ⟨0, rfl⟩ rfl dX6_wobble_99 ?_
            refine lv_if_le (tgt := 107) gX gB dX6_wobble_102 (by decide) (fun h9 => absurd (show 1 ≤ (0 : Int32) from h9) (by decide)) (fun _ => ?_)
            refine lv_dconst0 gX gB dX6_wobble_105 ?_
            exact gx_dret C hr hW (Or.inr ⟨by rw [wb_1 (n := fn) (cr := cr_s fx fy 1 2) (z1 := z1) (z2 := z2) (z3 := z3) (z4 := z4) (Or.inl (c67))]; decide, rfl, by rw [wb_1 (n := fn) (cr := cr_s fx fy 1 2) (z1 := z1) (z2 := z2) (z3 := z3) (z4 := z4) (Or.inl (c67))]⟩) (Nat.le_of_ble_eq_true rfl) (Nat.le_of_ble_eq_true rfl) dX6_wobble_106
          · refine lv_aload_n gX gB dX6_wobble_70 rfl (lv_at hl 1 rfl) ?_
            refine lv_iconst (v := 1) gX gB dX6_wobble_71 (by decide) ?_
            refine gx_topi (show (1 : Int32) = nI 1 from rfl) ?_
            refine lv_iconst (v := 2) gX gB dX6_wobble_72 (by decide) ?_
            refine gx_topi (show (2 : Int32) = nI 2 from rfl) ?_
            refine gx_callV (wr := []) (rest := [.ref (ad 0)]) C hW sX6_158 (kX6_cross l G ad cd pn fn dn cn sn tn ex ey eg at0 fl px py pz gr ou fx fy od cr ty to_ dr 1 2 (by decide) (by decide)) ⟨0, rfl⟩ rfl rfl ⟨(Nat.le_of_ble_eq_true rfl), (Nat.le_of_ble_eq_true rfl)⟩ hl.1 rfl (Nat.le_of_ble_eq_true rfl) dX6_wobble_73 ⟨(Nat.le_of_ble_eq_true rfl), (Nat.le_of_ble_eq_true rfl)⟩ (fun v9 u9 H locs hp hW => ?_)
            obtain ⟨rfl, hu⟩ := hp
            rw [hu] at hW
            have hW : gx_W G A s ([(ad 0, .inr (11, [.int cd, .int (nI pn), .ref (ad 1), .ref (ad 2), .ref (ad 3), .ref (ad 4), .ref (ad 5), .int (nI fn), .ref (ad 6), .ref (ad 7), .int (nI dn), .ref (ad 8), .long ex, .long ey, .long eg, .int (nI cn), .ref (ad 9), .ref (ad 10), .int (nI sn), .int at0, .int fl, .int (nI tn), .ref (ad 11), .ref (ad 12)])), (ad 1, .inl (G.2.1 2, 16, .inr (.inl px))), (ad 2, .inl (G.2.1 2, 16, .inr (.inl py))), (ad 3, .inl (G.2.1 2, 16, .inr (.inl pz))), (ad 4, .inl (G.2.1 2, 16, .inr (.inl gr))), (ad 5, .inl (G.2.1 2, 16, .inr (.inl ou))), (ad 6, .inl (G.2.1 2, 12, .inr (.inl fx))), (ad 7, .inl (G.2.1 2, 12, .inr (.inl fy))), (ad 8, .inl (G.2.1 1, 8, .inl od)), (ad 9, .inl (G.2.1 1, 12, .inl cr)), (ad 10, .inl (G.2.1 1, 200, .inl ty)), (ad 11, .inl (G.2.1 1, 48, .inl to_)), (ad 12, .inl (G.2.1 1, 48, .inl dr))]) H locs := hW
            refine W.eq (g2 := F0 m 76 ls [.long (cr_s fx fy 1 2), .ref (ad 0)]) rfl ?_
            refine W.widen (k := 0) (n := 0) (Nat.le_of_ble_eq_true rfl) (Nat.le_of_ble_eq_true rfl) ?_
            refine lv_lconst (v := 0) gX gB dX6_wobble_76 (by decide) ?_
            refine gx_lc_ne (tgt := 85) C dX6_wobble_77 dX6_wobble_78 (by decide) (fun c77 => ?_) (fun c77 => ?_)
            · refine lv_iload gX gB dX6_wobble_85 (lv_at hl 0 rfl) ?_
              refine lv_if_eq (tgt := 94) gX gB dX6_wobble_87 (by decide) (fun h9 => absurd (show 1 = (0 : Int32) from h9) (by decide)) (fun _ => ?_)
              refine lv_iconst (v := 0) gX gB dX6_wobble_90 (by decide) ?_
              refine lv_goto (tgt := 95) gX gB dX6_wobble_91 (by decide) ?_
              refine gx_putE C hW clX6 fX6_47 0 rfl (Or.inl rfl) rfl rfl (Nat.le_of_ble_eq_true rfl) dX6_wobble_95 (fun H locs hW => ?_)
              have hW : gx_W G A s ([(ad 0, .inr (11, [.int 0, .int (nI pn), .ref (ad 1), .ref (ad 2), .ref (ad 3), .ref (ad 4), .ref (ad 5), .int (nI fn), .ref (ad 6), .ref (ad 7), .int (nI dn), .ref (ad 8), .long ex, .long ey, .long eg, .int (nI cn), .ref (ad 9), .ref (ad 10), .int (nI sn), .int at0, .int fl, .int (nI tn), .ref (ad 11), .ref (ad 12)])), (ad 1, .inl (G.2.1 2, 16, .inr (.inl px))), (ad 2, .inl (G.2.1 2, 16, .inr (.inl py))), (ad 3, .inl (G.2.1 2, 16, .inr (.inl pz))), (ad 4, .inl (G.2.1 2, 16, .inr (.inl gr))), (ad 5, .inl (G.2.1 2, 16, .inr (.inl ou))), (ad 6, .inl (G.2.1 2, 12, .inr (.inl fx))), (ad 7, .inl (G.2.1 2, 12, .inr (.inl fy))), (ad 8, .inl (G.2.1 1, 8, .inl od)), (ad 9, .inl (G.2.1 1, 12, .inl cr)), (ad 10, .inl (G.2.1 1, 200, .inl ty)), (ad 11, .inl (G.2.1 1, 48, .inl to_)), (ad 12, .inl (G.2.1 1, 48, .inl dr))]) H locs := hW
              refine lv_aload_n gX gB dX6_wobble_98 rfl (lv_at hl 1 rfl) ?_
              refine gx_get C hW fX6_47 ⟨0, rfl⟩ rfl dX6_wobble_99 ?_
              refine lv_if_le (tgt := 107) gX gB dX6_wobble_102 (by decide) (fun _ => ?_) (fun h9 => absurd (show 0 ≤ (0 : Int32) from by decide) h9)
              refine lv_lload_n gX gB dX6_wobble_107 rfl (lv_at hl 3 rfl) ?_
              refine lv_lload_n gX gB dX6_wobble_108 rfl (lv_at hl 2 rfl) ?_
              refine lv_lsub gX gB dX6_wobble_109 ?_
              refine lv_aload_n gX gB dX6_wobble_110 rfl (lv_at hl 1 rfl) ?_
              refine lv_iconst (v := 3) gX gB dX6_wobble_111 (by decide) ?_
              refine gx_topi (show (3 : Int32) = nI 3 from rfl) ?_
              refine lv_iconst (v := 2) gX gB dX6_wobble_112 (by decide) ?_
              refine gx_topi (show (2 : Int32) = nI 2 from rfl) ?_
              refine gx_callV (wr := []) (rest := [.long (z2 - z1)]) C hW sX6_158 (kX6_cross l G ad 0 pn fn dn cn sn tn ex ey eg at0 fl px py pz gr ou fx fy od cr ty to_ dr 3 2 (by decide) (by decide)) ⟨0, rfl⟩ rfl rfl ⟨(Nat.le_of_ble_eq_true rfl), (Nat.le_of_ble_eq_true rfl)⟩ hl.1 rfl (Nat.le_of_ble_eq_true rfl) dX6_wobble_113 ⟨(Nat.le_of_ble_eq_true rfl), (Nat.le_of_ble_eq_true rfl)⟩ (fun v9 u9 H locs hp hW => ?_)
              obtain ⟨rfl, hu⟩ := hp
              rw [hu] at hW
              have hW : gx_W G A s ([(ad 0, .inr (11, [.int 0, .int (nI pn), .ref (ad 1), .ref (ad 2), .ref (ad 3), .ref (ad 4), .ref (ad 5), .int (nI fn), .ref (ad 6), .ref (ad 7), .int (nI dn), .ref (ad 8), .long ex, .long ey, .long eg, .int (nI cn), .ref (ad 9), .ref (ad 10), .int (nI sn), .int at0, .int fl, .int (nI tn), .ref (ad 11), .ref (ad 12)])), (ad 1, .inl (G.2.1 2, 16, .inr (.inl px))), (ad 2, .inl (G.2.1 2, 16, .inr (.inl py))), (ad 3, .inl (G.2.1 2, 16, .inr (.inl pz))), (ad 4, .inl (G.2.1 2, 16, .inr (.inl gr))), (ad 5, .inl (G.2.1 2, 16, .inr (.inl ou))), (ad 6, .inl (G.2.1 2, 12, .inr (.inl fx))), (ad 7, .inl (G.2.1 2, 12, .inr (.inl fy))), (ad 8, .inl (G.2.1 1, 8, .inl od)), (ad 9, .inl (G.2.1 1, 12, .inl cr)), (ad 10, .inl (G.2.1 1, 200, .inl ty)), (ad 11, .inl (G.2.1 1, 48, .inl to_)), (ad 12, .inl (G.2.1 1, 48, .inl dr))]) H locs := hW
              refine W.eq (g2 := F0 m 116 ls [.long (cr_s fx fy 3 2), .long (z2 - z1)]) rfl ?_
              refine W.widen (k := 0) (n := 0) (Nat.le_of_ble_eq_true rfl) (Nat.le_of_ble_eq_true rfl) ?_
              refine lv_lmul gX gB dX6_wobble_116 ?_
              refine lv_lload gX gB dX6_wobble_117 (lv_at hl 4 rfl) ?_
              refine lv_lload_n gX gB dX6_wobble_119 rfl (lv_at hl 2 rfl) ?_
              refine lv_lsub gX gB dX6_wobble_120 ?_
              refine lv_aload_n gX gB dX6_wobble_121 rfl (lv_at hl 1 rfl) ?_
              refine lv_iconst (v := 1) gX gB dX6_wobble_122 (by decide) ?_
              refine gx_topi (show (1 : Int32) = nI 1 from rfl) ?_
              refine lv_iconst (v := 3) gX gB dX6_wobble_123 (by decide) ?_
              refine gx_topi (show (3 : Int32) = nI 3 from rfl) ?_
              refine gx_callV (wr := []) (rest := [.long (z3 - z1), .long ((z2 - z1) * (cr_s fx fy 3 2))]) C hW sX6_158 (kX6_cross l G ad 0 pn fn dn cn sn tn ex ey eg at0 fl px py pz gr ou fx fy od cr ty to_ dr 1 3 (by decide) (by decide)) ⟨0, rfl⟩ rfl rfl ⟨(Nat.le_of_ble_eq_true rfl), (Nat.le_of_ble_eq_true rfl)⟩ hl.1 rfl (Nat.le_of_ble_eq_true rfl) dX6_wobble_124 ⟨(Nat.le_of_ble_eq_true rfl), (Nat.le_of_ble_eq_true rfl)⟩ (fun v9 u9 H locs hp hW => ?_)
              obtain ⟨rfl, hu⟩ := hp
              rw [hu] at hW
              have hW : gx_W G A s ([(ad 0, .inr (11, [.int 0, .int (nI pn), .ref (ad 1), .ref (ad 2), .ref (ad 3), .ref (ad 4), .ref (ad 5), .int (nI fn), .ref (ad 6), .ref (ad 7), .int (nI dn), .ref (ad 8), .long ex, .long ey, .long eg, .int (nI cn), .ref (ad 9), .ref (ad 10), .int (nI sn), .int at0, .int fl, .int (nI tn), .ref (ad 11), .ref (ad 12)])), (ad 1, .inl (G.2.1 2, 16, .inr (.inl px))), (ad 2, .inl (G.2.1 2, 16, .inr (.inl py))), (ad 3, .inl (G.2.1 2, 16, .inr (.inl pz))), (ad 4, .inl (G.2.1 2, 16, .inr (.inl gr))), (ad 5, .inl (G.2.1 2, 16, .inr (.inl ou))), (ad 6, .inl (G.2.1 2, 12, .inr (.inl fx))), (ad 7, .inl (G.2.1 2, 12, .inr (.inl fy))), (ad 8, .inl (G.2.1 1, 8, .inl od)), (ad 9, .inl (G.2.1 1, 12, .inl cr)), (ad 10, .inl (G.2.1 1, 200, .inl ty)), (ad 11, .inl (G.2.1 1, 48, .inl to_)), (ad 12, .inl (G.2.1 1, 48, .inl dr))]) H locs := hW
              refine W.eq (g2 := F0 m 127 ls [.long (cr_s fx fy 1 3), .long (z3 - z1), .long ((z2 - z1) * (cr_s fx fy 3 2))]) rfl ?_
              refine W.widen (k := 0) (n := 0) (Nat.le_of_ble_eq_true rfl) (Nat.le_of_ble_eq_true rfl) ?_
              refine lv_lmul gX gB dX6_wobble_127 ?_
              refine lv_ladd gX gB dX6_wobble_128 ?_
              refine lv_lstore (lv' := [(10, .long (((z2 - z1) * (cr_s fx fy 3 2)) + ((z3 - z1) * (cr_s fx fy 1 3)))), (9, .int 1), (0, .ref (ad 0)), (1, .long z1), (3, .long z2), (5, .long z3), (7, .long z4)]) gX gB dX6_wobble_129 hl (by decide) rfl (fun ls hl => ?_)
              refine lv_lload gX gB dX6_wobble_131 (lv_at hl 6 rfl) ?_
              refine lv_lload_n gX gB dX6_wobble_133 rfl (lv_at hl 3 rfl) ?_
              refine lv_lsub gX gB dX6_wobble_134 ?_
              refine lv_l2d gX gB dX6_wobble_135 ?_
              refine lv_lload gX gB dX6_wobble_136 (lv_at hl 0 rfl) ?_
              refine lv_l2d gX gB dX6_wobble_138 ?_
              refine lv_aload_n gX gB dX6_wobble_139 rfl (lv_at hl 2 rfl) ?_
              refine lv_iconst (v := 1) gX gB dX6_wobble_140 (by decide) ?_
              refine gx_topi (show (1 : Int32) = nI 1 from rfl) ?_
              refine lv_iconst (v := 2) gX gB dX6_wobble_141 (by decide) ?_
              refine gx_topi (show (2 : Int32) = nI 2 from rfl) ?_
              refine gx_callV (wr := []) (rest := [.double (FP.l2d (((z2 - z1) * (cr_s fx fy 3 2)) + ((z3 - z1) * (cr_s fx fy 1 3)))), .double (FP.l2d (z4 - z1))]) C hW sX6_158 (kX6_cross l G ad 0 pn fn dn cn sn tn ex ey eg at0 fl px py pz gr ou fx fy od cr ty to_ dr 1 2 (by decide) (by decide)) ⟨0, rfl⟩ rfl rfl ⟨(Nat.le_of_ble_eq_true rfl), (Nat.le_of_ble_eq_true rfl)⟩ hl.1 rfl (Nat.le_of_ble_eq_true rfl) dX6_wobble_142 ⟨(Nat.le_of_ble_eq_true rfl), (Nat.le_of_ble_eq_true rfl)⟩ (fun v9 u9 H locs hp hW => ?_)
              obtain ⟨rfl, hu⟩ := hp
              rw [hu] at hW
              have hW : gx_W G A s ([(ad 0, .inr (11, [.int 0, .int (nI pn), .ref (ad 1), .ref (ad 2), .ref (ad 3), .ref (ad 4), .ref (ad 5), .int (nI fn), .ref (ad 6), .ref (ad 7), .int (nI dn), .ref (ad 8), .long ex, .long ey, .long eg, .int (nI cn), .ref (ad 9), .ref (ad 10), .int (nI sn), .int at0, .int fl, .int (nI tn), .ref (ad 11), .ref (ad 12)])), (ad 1, .inl (G.2.1 2, 16, .inr (.inl px))), (ad 2, .inl (G.2.1 2, 16, .inr (.inl py))), (ad 3, .inl (G.2.1 2, 16, .inr (.inl pz))), (ad 4, .inl (G.2.1 2, 16, .inr (.inl gr))), (ad 5, .inl (G.2.1 2, 16, .inr (.inl ou))), (ad 6, .inl (G.2.1 2, 12, .inr (.inl fx))), (ad 7, .inl (G.2.1 2, 12, .inr (.inl fy))), (ad 8, .inl (G.2.1 1, 8, .inl od)), (ad 9, .inl (G.2.1 1, 12, .inl cr)), (ad 10, .inl (G.2.1 1, 200, .inl ty)), (ad 11, .inl (G.2.1 1, 48, .inl to_)), (ad 12, .inl (G.2.1 1, 48, .inl dr))]) H locs := hW
              refine W.eq (g2 := F0 m 145 ls [.long (cr_s fx fy 1 2), .double (FP.l2d (((z2 - z1) * (cr_s fx fy 3 2)) + ((z3 - z1) * (cr_s fx fy 1 3)))), .double (FP.l2d (z4 - z1))]) rfl ?_
              refine W.widen (k := 0) (n := 0) (Nat.le_of_ble_eq_true rfl) (Nat.le_of_ble_eq_true rfl) ?_
              refine lv_l2d gX gB dX6_wobble_145 ?_
              refine lv_ddiv gX gB dX6_wobble_146 ((fp_div (fp_fin_n (fp_l2d _).1) ((fp_l2d _).2 (c77))).1) ?_
              refine lv_dsub gX gB dX6_wobble_147 ((fp_sub (fp_l2d _).1 (fp_div (fp_fin_n (fp_l2d _).1) ((fp_l2d _).2 (c77))).2)) ?_
              refine lv_topd (fun off eoff => ?_)
              refine lv_dstore (lv' := [(12, .double off), (10, .long (((z2 - z1) * (cr_s fx fy 3 2)) + ((z3 - z1) * (cr_s fx fy 1 3)))), (9, .int 1), (0, .ref (ad 0)), (1, .long z1), (3, .long z2), (5, .long z3), (7, .long z4)]) gX gB dX6_wobble_148 hl (by decide) rfl (fun ls hl => ?_)
              refine lv_dload gX gB dX6_wobble_150 (lv_at hl 0 rfl) ?_
              refine lv_dconst0 gX gB dX6_wobble_152 ?_
              refine lv_dcmp gX gB dX6_wobble_153 ?_
              refine lv_if_ge (tgt := 163) gX gB dX6_wobble_154 (by decide) (fun c154 => ?_) (fun c154 => ?_)
              · refine lv_dload gX gB dX6_wobble_163 (lv_at hl 0 rfl) ?_
                exact gx_dret C hr hW (Or.inl ⟨wb_0 (c67) (c77) ⟨gx_b1.mp (c10), gx_b1.mp (c23), gx_b1.mp (c37), gx_b1.mp (c51)⟩, wb_p eoff (Int32.not_lt.mpr c154), rfl⟩) (Nat.le_of_ble_eq_true rfl) (Nat.le_of_ble_eq_true rfl) dX6_wobble_165
              · refine lv_dload gX gB dX6_wobble_157 (lv_at hl 0 rfl) ?_
                refine lv_dneg gX gB dX6_wobble_159 ?_
                refine lv_goto (tgt := 165) gX gB dX6_wobble_160 (by decide) ?_
                exact gx_dret C hr hW (Or.inl ⟨wb_0 (c67) (c77) ⟨gx_b1.mp (c10), gx_b1.mp (c23), gx_b1.mp (c37), gx_b1.mp (c51)⟩, wb_n eoff (Int32.not_le.mp c154), rfl⟩) (Nat.le_of_ble_eq_true rfl) (Nat.le_of_ble_eq_true rfl) dX6_wobble_165
            · refine lv_iconst (v := 1) gX gB dX6_wobble_81 (by decide) ?_
              refine lv_goto (tgt := 95) gX gB dX6_wobble_82 (by decide) ?_
              refine gx_putE C hW clX6 fX6_47 0 rfl (Or.inl rfl) rfl rfl (Nat.le_of_ble_eq_true rfl) dX6_wobble_95 (fun H locs hW => ?_)
              have hW : gx_W G A s ([(ad 0, .inr (11, [.int 1, .int (nI pn), .ref (ad 1), .ref (ad 2), .ref (ad 3), .ref (ad 4), .ref (ad 5), .int (nI fn), .ref (ad 6), .ref (ad 7), .int (nI dn), .ref (ad 8), .long ex, .long ey, .long eg, .int (nI cn), .ref (ad 9), .ref (ad 10), .int (nI sn), .int at0, .int fl, .int (nI tn), .ref (ad 11), .ref (ad 12)])), (ad 1, .inl (G.2.1 2, 16, .inr (.inl px))), (ad 2, .inl (G.2.1 2, 16, .inr (.inl py))), (ad 3, .inl (G.2.1 2, 16, .inr (.inl pz))), (ad 4, .inl (G.2.1 2, 16, .inr (.inl gr))), (ad 5, .inl (G.2.1 2, 16, .inr (.inl ou))), (ad 6, .inl (G.2.1 2, 12, .inr (.inl fx))), (ad 7, .inl (G.2.1 2, 12, .inr (.inl fy))), (ad 8, .inl (G.2.1 1, 8, .inl od)), (ad 9, .inl (G.2.1 1, 12, .inl cr)), (ad 10, .inl (G.2.1 1, 200, .inl ty)), (ad 11, .inl (G.2.1 1, 48, .inl to_)), (ad 12, .inl (G.2.1 1, 48, .inl dr))]) H locs := hW
              refine lv_aload_n gX gB dX6_wobble_98 rfl (lv_at hl 1 rfl) ?_
              refine gx_get C hW fX6_47 ⟨0, rfl⟩ rfl dX6_wobble_99 ?_
              refine lv_if_le (tgt := 107) gX gB dX6_wobble_102 (by decide) (fun h9 => absurd (show 1 ≤ (0 : Int32) from h9) (by decide)) (fun _ => ?_)
              refine lv_dconst0 gX gB dX6_wobble_105 ?_
              exact gx_dret C hr hW (Or.inr ⟨by rw [wb_1 (n := fn) (cr := cr_s fx fy 1 2) (z1 := z1) (z2 := z2) (z3 := z3) (z4 := z4) (Or.inr (c77))]; decide, rfl, by rw [wb_1 (n := fn) (cr := cr_s fx fy 1 2) (z1 := z1) (z2 := z2) (z3 := z3) (z4 := z4) (Or.inr (c77))]⟩) (Nat.le_of_ble_eq_true rfl) (Nat.le_of_ble_eq_true rfl) dX6_wobble_106
set_option maxHeartbeats 4000000 in
set_option maxRecDepth 100000 in
theorem kX6_bend (l : Launch) (G : gx_T) (ad : Nat → Nat) (cd : Int32) (pn fn dn cn sn tn : Nat) (ex ey eg : Int64) (at0 fl : Int32) (px py pz gr ou fx fy : Nat → Int64) (od cr ty to_ dr : Nat → Int32) (sp wi th lo : UInt64) : gx_M l G yX6_bend cX6_bend 11 (some .double) ({ frames := 1, cells := 0, slots := 0, locals := 25 } : Room) [.ref (ad 0), .double sp, .double wi, .double th, .double lo] ([(ad 0, .inr (11, [.int cd, .int (nI pn), .ref (ad 1), .ref (ad 2), .ref (ad 3), .ref (ad 4), .ref (ad 5), .int (nI fn), .ref (ad 6), .ref (ad 7), .int (nI dn), .ref (ad 8), .long ex, .long ey, .long eg, .int (nI cn), .ref (ad 9), .ref (ad 10), .int (nI sn), .int at0, .int fl, .int (nI tn), .ref (ad 11), .ref (ad 12)])), (ad 1, .inl (G.2.1 2, 16, .inr (.inl px))), (ad 2, .inl (G.2.1 2, 16, .inr (.inl py))), (ad 3, .inl (G.2.1 2, 16, .inr (.inl pz))), (ad 4, .inl (G.2.1 2, 16, .inr (.inl gr))), (ad 5, .inl (G.2.1 2, 16, .inr (.inl ou))), (ad 6, .inl (G.2.1 2, 12, .inr (.inl fx))), (ad 7, .inl (G.2.1 2, 12, .inr (.inl fy))), (ad 8, .inl (G.2.1 1, 8, .inl od)), (ad 9, .inl (G.2.1 1, 12, .inl cr)), (ad 10, .inl (G.2.1 1, 200, .inl ty)), (ad 11, .inl (G.2.1 1, 48, .inl to_)), (ad 12, .inl (G.2.1 1, 48, .inl dr))]) (fun v u => (be_code sp wi th lo = 0 ∧ v = some (.double (be_val sp wi th lo)) ∧ u = [(ad 0, .inr (11, [.int 0, .int (nI pn), .ref (ad 1), .ref (ad 2), .ref (ad 3), .ref (ad 4), .ref (ad 5), .int (nI fn), .ref (ad 6), .ref (ad 7), .int (nI dn), .ref (ad 8), .long ex, .long ey, .long eg, .int (nI cn), .ref (ad 9), .ref (ad 10), .int (nI sn), .int at0, .int fl, .int (nI tn), .ref (ad 11), .ref (ad 12)])), (ad 1, .inl (G.2.1 2, 16, .inr (.inl px))), (ad 2, .inl (G.2.1 2, 16, .inr (.inl py))), (ad 3, .inl (G.2.1 2, 16, .inr (.inl pz))), (ad 4, .inl (G.2.1 2, 16, .inr (.inl gr))), (ad 5, .inl (G.2.1 2, 16, .inr (.inl ou))), (ad 6, .inl (G.2.1 2, 12, .inr (.inl fx))), (ad 7, .inl (G.2.1 2, 12, .inr (.inl fy))), (ad 8, .inl (G.2.1 1, 8, .inl od)), (ad 9, .inl (G.2.1 1, 12, .inl cr)), (ad 10, .inl (G.2.1 1, 200, .inl ty)), (ad 11, .inl (G.2.1 1, 48, .inl to_)), (ad 12, .inl (G.2.1 1, 48, .inl dr))]) ∨ (¬ be_code sp wi th lo = 0 ∧ v = some (.double FP.dconst0) ∧ u = [(ad 0, .inr (11, [.int (be_code sp wi th lo), .int (nI pn), .ref (ad 1), .ref (ad 2), .ref (ad 3), .ref (ad 4), .ref (ad 5), .int (nI fn), .ref (ad 6), .ref (ad 7), .int (nI dn), .ref (ad 8), .long ex, .long ey, .long eg, .int (nI cn), .ref (ad 9), .ref (ad 10), .int (nI sn), .int at0, .int fl, .int (nI tn), .ref (ad 11), .ref (ad 12)])), (ad 1, .inl (G.2.1 2, 16, .inr (.inl px))), (ad 2, .inl (G.2.1 2, 16, .inr (.inl py))), (ad 3, .inl (G.2.1 2, 16, .inr (.inl pz))), (ad 4, .inl (G.2.1 2, 16, .inr (.inl gr))), (ad 5, .inl (G.2.1 2, 16, .inr (.inl ou))), (ad 6, .inl (G.2.1 2, 12, .inr (.inl fx))), (ad 7, .inl (G.2.1 2, 12, .inr (.inl fy))), (ad 8, .inl (G.2.1 1, 8, .inl od)), (ad 9, .inl (G.2.1 1, 12, .inl cr)), (ad 10, .inl (G.2.1 1, 200, .inl ty)), (ad 11, .inl (G.2.1 1, 48, .inl to_)), (ad 12, .inl (G.2.1 1, 48, .inl dr))])) := by
  refine gx_start (by decide +kernel) (Nat.le_of_ble_eq_true rfl) ?_
  intro p e s m args below meth c A ls C hr hnm hW hl
  have gX := C.x
  have gB := C.b
  have hl : lv_has ls 11 [(0, .ref (ad 0)), (1, .double sp), (3, .double wi), (5, .double th), (7, .double lo)] := hl
  refine lv_aload_n gX gB dX6_bend_0 rfl (lv_at hl 0 rfl) ?_
  refine lv_dload gX gB dX6_bend_1 (lv_at hl 4 rfl) ?_
  refine lv_dconst0 gX gB dX6_bend_3 ?_
  refine lv_ldc2d (v := 4666723172467343360) gX gB C.hown (C.ts _ (tq_5 222 (by decide +kernel) rfl)) dX6_bend_4 ?_
  refine gx_callS (wr := []) (rest := [.ref (ad 0)]) C hW sX6_164 (kX6_isNumber l G ([(ad 0, .inr (11, [.int cd, .int (nI pn), .ref (ad 1), .ref (ad 2), .ref (ad 3), .ref (ad 4), .ref (ad 5), .int (nI fn), .ref (ad 6), .ref (ad 7), .int (nI dn), .ref (ad 8), .long ex, .long ey, .long eg, .int (nI cn), .ref (ad 9), .ref (ad 10), .int (nI sn), .int at0, .int fl, .int (nI tn), .ref (ad 11), .ref (ad 12)])), (ad 1, .inl (G.2.1 2, 16, .inr (.inl px))), (ad 2, .inl (G.2.1 2, 16, .inr (.inl py))), (ad 3, .inl (G.2.1 2, 16, .inr (.inl pz))), (ad 4, .inl (G.2.1 2, 16, .inr (.inl gr))), (ad 5, .inl (G.2.1 2, 16, .inr (.inl ou))), (ad 6, .inl (G.2.1 2, 12, .inr (.inl fx))), (ad 7, .inl (G.2.1 2, 12, .inr (.inl fy))), (ad 8, .inl (G.2.1 1, 8, .inl od)), (ad 9, .inl (G.2.1 1, 12, .inl cr)), (ad 10, .inl (G.2.1 1, 200, .inl ty)), (ad 11, .inl (G.2.1 1, 48, .inl to_)), (ad 12, .inl (G.2.1 1, 48, .inl dr))]) lo FP.dconst0 4666723172467343360) rfl ⟨(Nat.le_of_ble_eq_true rfl), (Nat.le_of_ble_eq_true rfl)⟩ hl.1 rfl (Nat.le_of_ble_eq_true rfl) dX6_bend_7 ⟨(Nat.le_of_ble_eq_true rfl), (Nat.le_of_ble_eq_true rfl)⟩ (fun v9 u9 H locs hp hW => ?_)
  obtain ⟨rfl, hu⟩ := hp
  rw [hu] at hW
  have hW : gx_W G A s ([(ad 0, .inr (11, [.int cd, .int (nI pn), .ref (ad 1), .ref (ad 2), .ref (ad 3), .ref (ad 4), .ref (ad 5), .int (nI fn), .ref (ad 6), .ref (ad 7), .int (nI dn), .ref (ad 8), .long ex, .long ey, .long eg, .int (nI cn), .ref (ad 9), .ref (ad 10), .int (nI sn), .int at0, .int fl, .int (nI tn), .ref (ad 11), .ref (ad 12)])), (ad 1, .inl (G.2.1 2, 16, .inr (.inl px))), (ad 2, .inl (G.2.1 2, 16, .inr (.inl py))), (ad 3, .inl (G.2.1 2, 16, .inr (.inl pz))), (ad 4, .inl (G.2.1 2, 16, .inr (.inl gr))), (ad 5, .inl (G.2.1 2, 16, .inr (.inl ou))), (ad 6, .inl (G.2.1 2, 12, .inr (.inl fx))), (ad 7, .inl (G.2.1 2, 12, .inr (.inl fy))), (ad 8, .inl (G.2.1 1, 8, .inl od)), (ad 9, .inl (G.2.1 1, 12, .inl cr)), (ad 10, .inl (G.2.1 1, 200, .inl ty)), (ad 11, .inl (G.2.1 1, 48, .inl to_)), (ad 12, .inl (G.2.1 1, 48, .inl dr))]) H locs := hW
  refine W.eq (g2 := F0 m 10 ls [.int (gx_b (be_l lo)), .ref (ad 0)]) rfl ?_
  refine W.widen (k := 0) (n := 0) (Nat.le_of_ble_eq_true rfl) (Nat.le_of_ble_eq_true rfl) ?_
  refine lv_if_eq (tgt := 55) gX gB dX6_bend_10 (by decide) (fun c10 => ?_) (fun c10 => ?_)
  · refine lv_iconst (v := 1) gX gB dX6_bend_55 (by decide) ?_
    refine gx_putE C hW clX6 fX6_47 0 rfl (Or.inl rfl) rfl rfl (Nat.le_of_ble_eq_true rfl) dX6_bend_56 (fun H locs hW => ?_)
    have hW : gx_W G A s ([(ad 0, .inr (11, [.int 1, .int (nI pn), .ref (ad 1), .ref (ad 2), .ref (ad 3), .ref (ad 4), .ref (ad 5), .int (nI fn), .ref (ad 6), .ref (ad 7), .int (nI dn), .ref (ad 8), .long ex, .long ey, .long eg, .int (nI cn), .ref (ad 9), .ref (ad 10), .int (nI sn), .int at0, .int fl, .int (nI tn), .ref (ad 11), .ref (ad 12)])), (ad 1, .inl (G.2.1 2, 16, .inr (.inl px))), (ad 2, .inl (G.2.1 2, 16, .inr (.inl py))), (ad 3, .inl (G.2.1 2, 16, .inr (.inl pz))), (ad 4, .inl (G.2.1 2, 16, .inr (.inl gr))), (ad 5, .inl (G.2.1 2, 16, .inr (.inl ou))), (ad 6, .inl (G.2.1 2, 12, .inr (.inl fx))), (ad 7, .inl (G.2.1 2, 12, .inr (.inl fy))), (ad 8, .inl (G.2.1 1, 8, .inl od)), (ad 9, .inl (G.2.1 1, 12, .inl cr)), (ad 10, .inl (G.2.1 1, 200, .inl ty)), (ad 11, .inl (G.2.1 1, 48, .inl to_)), (ad 12, .inl (G.2.1 1, 48, .inl dr))]) H locs := hW
    refine lv_aload_n gX gB dX6_bend_59 rfl (lv_at hl 0 rfl) ?_
    refine gx_get C hW fX6_47 ⟨0, rfl⟩ rfl dX6_bend_60 ?_
    refine lv_if_le (tgt := 68) gX gB dX6_bend_63 (by decide) (fun h9 => absurd (show 1 ≤ (0 : Int32) from h9) (by decide)) (fun _ => ?_)
    refine lv_dconst0 gX gB dX6_bend_66 ?_
    exact gx_dret C hr hW (Or.inr ⟨by rw [be_1 (sp := sp) (wi := wi) (th := th) (lo := lo) (fun zz => gx_b0.mp (c10) zz.1)]; decide, rfl, by rw [be_1 (sp := sp) (wi := wi) (th := th) (lo := lo) (fun zz => gx_b0.mp (c10) zz.1)]⟩) (Nat.le_of_ble_eq_true rfl) (Nat.le_of_ble_eq_true rfl) dX6_bend_67
  · refine lv_dload_n gX gB dX6_bend_13 rfl (lv_at hl 1 rfl) ?_
    refine lv_dconst0 gX gB dX6_bend_14 ?_
    refine lv_ldc2d (v := 4666723172467343360) gX gB C.hown (C.ts _ (tq_5 222 (by decide +kernel) rfl)) dX6_bend_15 ?_
    refine gx_callS (wr := []) (rest := [.ref (ad 0)]) C hW sX6_164 (kX6_isNumber l G ([(ad 0, .inr (11, [.int cd, .int (nI pn), .ref (ad 1), .ref (ad 2), .ref (ad 3), .ref (ad 4), .ref (ad 5), .int (nI fn), .ref (ad 6), .ref (ad 7), .int (nI dn), .ref (ad 8), .long ex, .long ey, .long eg, .int (nI cn), .ref (ad 9), .ref (ad 10), .int (nI sn), .int at0, .int fl, .int (nI tn), .ref (ad 11), .ref (ad 12)])), (ad 1, .inl (G.2.1 2, 16, .inr (.inl px))), (ad 2, .inl (G.2.1 2, 16, .inr (.inl py))), (ad 3, .inl (G.2.1 2, 16, .inr (.inl pz))), (ad 4, .inl (G.2.1 2, 16, .inr (.inl gr))), (ad 5, .inl (G.2.1 2, 16, .inr (.inl ou))), (ad 6, .inl (G.2.1 2, 12, .inr (.inl fx))), (ad 7, .inl (G.2.1 2, 12, .inr (.inl fy))), (ad 8, .inl (G.2.1 1, 8, .inl od)), (ad 9, .inl (G.2.1 1, 12, .inl cr)), (ad 10, .inl (G.2.1 1, 200, .inl ty)), (ad 11, .inl (G.2.1 1, 48, .inl to_)), (ad 12, .inl (G.2.1 1, 48, .inl dr))]) sp FP.dconst0 4666723172467343360) rfl ⟨(Nat.le_of_ble_eq_true rfl), (Nat.le_of_ble_eq_true rfl)⟩ hl.1 rfl (Nat.le_of_ble_eq_true rfl) dX6_bend_18 ⟨(Nat.le_of_ble_eq_true rfl), (Nat.le_of_ble_eq_true rfl)⟩ (fun v9 u9 H locs hp hW => ?_)
    obtain ⟨rfl, hu⟩ := hp
    rw [hu] at hW
    have hW : gx_W G A s ([(ad 0, .inr (11, [.int cd, .int (nI pn), .ref (ad 1), .ref (ad 2), .ref (ad 3), .ref (ad 4), .ref (ad 5), .int (nI fn), .ref (ad 6), .ref (ad 7), .int (nI dn), .ref (ad 8), .long ex, .long ey, .long eg, .int (nI cn), .ref (ad 9), .ref (ad 10), .int (nI sn), .int at0, .int fl, .int (nI tn), .ref (ad 11), .ref (ad 12)])), (ad 1, .inl (G.2.1 2, 16, .inr (.inl px))), (ad 2, .inl (G.2.1 2, 16, .inr (.inl py))), (ad 3, .inl (G.2.1 2, 16, .inr (.inl pz))), (ad 4, .inl (G.2.1 2, 16, .inr (.inl gr))), (ad 5, .inl (G.2.1 2, 16, .inr (.inl ou))), (ad 6, .inl (G.2.1 2, 12, .inr (.inl fx))), (ad 7, .inl (G.2.1 2, 12, .inr (.inl fy))), (ad 8, .inl (G.2.1 1, 8, .inl od)), (ad 9, .inl (G.2.1 1, 12, .inl cr)), (ad 10, .inl (G.2.1 1, 200, .inl ty)), (ad 11, .inl (G.2.1 1, 48, .inl to_)), (ad 12, .inl (G.2.1 1, 48, .inl dr))]) H locs := hW
    refine W.eq (g2 := F0 m 21 ls [.int (gx_b (be_l sp)), .ref (ad 0)]) rfl ?_
    refine W.widen (k := 0) (n := 0) (Nat.le_of_ble_eq_true rfl) (Nat.le_of_ble_eq_true rfl) ?_
    refine lv_if_eq (tgt := 55) gX gB dX6_bend_21 (by decide) (fun c21 => ?_) (fun c21 => ?_)
    · refine lv_iconst (v := 1) gX gB dX6_bend_55 (by decide) ?_
      refine gx_putE C hW clX6 fX6_47 0 rfl (Or.inl rfl) rfl rfl (Nat.le_of_ble_eq_true rfl) dX6_bend_56 (fun H locs hW => ?_)
      have hW : gx_W G A s ([(ad 0, .inr (11, [.int 1, .int (nI pn), .ref (ad 1), .ref (ad 2), .ref (ad 3), .ref (ad 4), .ref (ad 5), .int (nI fn), .ref (ad 6), .ref (ad 7), .int (nI dn), .ref (ad 8), .long ex, .long ey, .long eg, .int (nI cn), .ref (ad 9), .ref (ad 10), .int (nI sn), .int at0, .int fl, .int (nI tn), .ref (ad 11), .ref (ad 12)])), (ad 1, .inl (G.2.1 2, 16, .inr (.inl px))), (ad 2, .inl (G.2.1 2, 16, .inr (.inl py))), (ad 3, .inl (G.2.1 2, 16, .inr (.inl pz))), (ad 4, .inl (G.2.1 2, 16, .inr (.inl gr))), (ad 5, .inl (G.2.1 2, 16, .inr (.inl ou))), (ad 6, .inl (G.2.1 2, 12, .inr (.inl fx))), (ad 7, .inl (G.2.1 2, 12, .inr (.inl fy))), (ad 8, .inl (G.2.1 1, 8, .inl od)), (ad 9, .inl (G.2.1 1, 12, .inl cr)), (ad 10, .inl (G.2.1 1, 200, .inl ty)), (ad 11, .inl (G.2.1 1, 48, .inl to_)), (ad 12, .inl (G.2.1 1, 48, .inl dr))]) H locs := hW
      refine lv_aload_n gX gB dX6_bend_59 rfl (lv_at hl 0 rfl) ?_
      refine gx_get C hW fX6_47 ⟨0, rfl⟩ rfl dX6_bend_60 ?_
      refine lv_if_le (tgt := 68) gX gB dX6_bend_63 (by decide) (fun h9 => absurd (show 1 ≤ (0 : Int32) from h9) (by decide)) (fun _ => ?_)
      refine lv_dconst0 gX gB dX6_bend_66 ?_
      exact gx_dret C hr hW (Or.inr ⟨by rw [be_1 (sp := sp) (wi := wi) (th := th) (lo := lo) (fun zz => gx_b0.mp (c21) zz.2.1)]; decide, rfl, by rw [be_1 (sp := sp) (wi := wi) (th := th) (lo := lo) (fun zz => gx_b0.mp (c21) zz.2.1)]⟩) (Nat.le_of_ble_eq_true rfl) (Nat.le_of_ble_eq_true rfl) dX6_bend_67
    · refine lv_dload_n gX gB dX6_bend_24 rfl (lv_at hl 2 rfl) ?_
      refine lv_ldc2d (v := 4593671619917905920) gX gB C.hown (C.ts _ (tq_5 226 (by decide +kernel) rfl)) dX6_bend_25 ?_
      refine lv_ldc2d (v := 4652007308841189376) gX gB C.hown (C.ts _ (tq_5 227 (by decide +kernel) rfl)) dX6_bend_28 ?_
      refine gx_callS (wr := []) (rest := [.ref (ad 0)]) C hW sX6_164 (kX6_isNumber l G ([(ad 0, .inr (11, [.int cd, .int (nI pn), .ref (ad 1), .ref (ad 2), .ref (ad 3), .ref (ad 4), .ref (ad 5), .int (nI fn), .ref (ad 6), .ref (ad 7), .int (nI dn), .ref (ad 8), .long ex, .long ey, .long eg, .int (nI cn), .ref (ad 9), .ref (ad 10), .int (nI sn), .int at0, .int fl, .int (nI tn), .ref (ad 11), .ref (ad 12)])), (ad 1, .inl (G.2.1 2, 16, .inr (.inl px))), (ad 2, .inl (G.2.1 2, 16, .inr (.inl py))), (ad 3, .inl (G.2.1 2, 16, .inr (.inl pz))), (ad 4, .inl (G.2.1 2, 16, .inr (.inl gr))), (ad 5, .inl (G.2.1 2, 16, .inr (.inl ou))), (ad 6, .inl (G.2.1 2, 12, .inr (.inl fx))), (ad 7, .inl (G.2.1 2, 12, .inr (.inl fy))), (ad 8, .inl (G.2.1 1, 8, .inl od)), (ad 9, .inl (G.2.1 1, 12, .inl cr)), (ad 10, .inl (G.2.1 1, 200, .inl ty)), (ad 11, .inl (G.2.1 1, 48, .inl to_)), (ad 12, .inl (G.2.1 1, 48, .inl dr))]) wi 4593671619917905920 4652007308841189376) rfl ⟨(Nat.le_of_ble_eq_true rfl), (Nat.le_of_ble_eq_true rfl)⟩ hl.1 rfl (Nat.le_of_ble_eq_true rfl) dX6_bend_31 ⟨(Nat.le_of_ble_eq_true rfl), (Nat.le_of_ble_eq_true rfl)⟩ (fun v9 u9 H locs hp hW => ?_)
      obtain ⟨rfl, hu⟩ := hp
      rw [hu] at hW
      have hW : gx_W G A s ([(ad 0, .inr (11, [.int cd, .int (nI pn), .ref (ad 1), .ref (ad 2), .ref (ad 3), .ref (ad 4), .ref (ad 5), .int (nI fn), .ref (ad 6), .ref (ad 7), .int (nI dn), .ref (ad 8), .long ex, .long ey, .long eg, .int (nI cn), .ref (ad 9), .ref (ad 10), .int (nI sn), .int at0, .int fl, .int (nI tn), .ref (ad 11), .ref (ad 12)])), (ad 1, .inl (G.2.1 2, 16, .inr (.inl px))), (ad 2, .inl (G.2.1 2, 16, .inr (.inl py))), (ad 3, .inl (G.2.1 2, 16, .inr (.inl pz))), (ad 4, .inl (G.2.1 2, 16, .inr (.inl gr))), (ad 5, .inl (G.2.1 2, 16, .inr (.inl ou))), (ad 6, .inl (G.2.1 2, 12, .inr (.inl fx))), (ad 7, .inl (G.2.1 2, 12, .inr (.inl fy))), (ad 8, .inl (G.2.1 1, 8, .inl od)), (ad 9, .inl (G.2.1 1, 12, .inl cr)), (ad 10, .inl (G.2.1 1, 200, .inl ty)), (ad 11, .inl (G.2.1 1, 48, .inl to_)), (ad 12, .inl (G.2.1 1, 48, .inl dr))]) H locs := hW
      refine W.eq (g2 := F0 m 34 ls [.int (gx_b (be_w wi)), .ref (ad 0)]) rfl ?_
      refine W.widen (k := 0) (n := 0) (Nat.le_of_ble_eq_true rfl) (Nat.le_of_ble_eq_true rfl) ?_
      refine lv_if_eq (tgt := 55) gX gB dX6_bend_34 (by decide) (fun c34 => ?_) (fun c34 => ?_)
      · refine lv_iconst (v := 1) gX gB dX6_bend_55 (by decide) ?_
        refine gx_putE C hW clX6 fX6_47 0 rfl (Or.inl rfl) rfl rfl (Nat.le_of_ble_eq_true rfl) dX6_bend_56 (fun H locs hW => ?_)
        have hW : gx_W G A s ([(ad 0, .inr (11, [.int 1, .int (nI pn), .ref (ad 1), .ref (ad 2), .ref (ad 3), .ref (ad 4), .ref (ad 5), .int (nI fn), .ref (ad 6), .ref (ad 7), .int (nI dn), .ref (ad 8), .long ex, .long ey, .long eg, .int (nI cn), .ref (ad 9), .ref (ad 10), .int (nI sn), .int at0, .int fl, .int (nI tn), .ref (ad 11), .ref (ad 12)])), (ad 1, .inl (G.2.1 2, 16, .inr (.inl px))), (ad 2, .inl (G.2.1 2, 16, .inr (.inl py))), (ad 3, .inl (G.2.1 2, 16, .inr (.inl pz))), (ad 4, .inl (G.2.1 2, 16, .inr (.inl gr))), (ad 5, .inl (G.2.1 2, 16, .inr (.inl ou))), (ad 6, .inl (G.2.1 2, 12, .inr (.inl fx))), (ad 7, .inl (G.2.1 2, 12, .inr (.inl fy))), (ad 8, .inl (G.2.1 1, 8, .inl od)), (ad 9, .inl (G.2.1 1, 12, .inl cr)), (ad 10, .inl (G.2.1 1, 200, .inl ty)), (ad 11, .inl (G.2.1 1, 48, .inl to_)), (ad 12, .inl (G.2.1 1, 48, .inl dr))]) H locs := hW
        refine lv_aload_n gX gB dX6_bend_59 rfl (lv_at hl 0 rfl) ?_
        refine gx_get C hW fX6_47 ⟨0, rfl⟩ rfl dX6_bend_60 ?_
        refine lv_if_le (tgt := 68) gX gB dX6_bend_63 (by decide) (fun h9 => absurd (show 1 ≤ (0 : Int32) from h9) (by decide)) (fun _ => ?_)
        refine lv_dconst0 gX gB dX6_bend_66 ?_
        exact gx_dret C hr hW (Or.inr ⟨by rw [be_1 (sp := sp) (wi := wi) (th := th) (lo := lo) (fun zz => gx_b0.mp (c34) zz.2.2.1)]; decide, rfl, by rw [be_1 (sp := sp) (wi := wi) (th := th) (lo := lo) (fun zz => gx_b0.mp (c34) zz.2.2.1)]⟩) (Nat.le_of_ble_eq_true rfl) (Nat.le_of_ble_eq_true rfl) dX6_bend_67
      · refine lv_dload gX gB dX6_bend_37 (lv_at hl 3 rfl) ?_
        refine lv_ldc2d (v := 4593671619917905920) gX gB C.hown (C.ts _ (tq_5 226 (by decide +kernel) rfl)) dX6_bend_39 ?_
        refine lv_ldc2d (v := 4652007308841189376) gX gB C.hown (C.ts _ (tq_5 227 (by decide +kernel) rfl)) dX6_bend_42 ?_
        refine gx_callS (wr := []) (rest := [.ref (ad 0)]) C hW sX6_164 (kX6_isNumber l G ([(ad 0, .inr (11, [.int cd, .int (nI pn), .ref (ad 1), .ref (ad 2), .ref (ad 3), .ref (ad 4), .ref (ad 5), .int (nI fn), .ref (ad 6), .ref (ad 7), .int (nI dn), .ref (ad 8), .long ex, .long ey, .long eg, .int (nI cn), .ref (ad 9), .ref (ad 10), .int (nI sn), .int at0, .int fl, .int (nI tn), .ref (ad 11), .ref (ad 12)])), (ad 1, .inl (G.2.1 2, 16, .inr (.inl px))), (ad 2, .inl (G.2.1 2, 16, .inr (.inl py))), (ad 3, .inl (G.2.1 2, 16, .inr (.inl pz))), (ad 4, .inl (G.2.1 2, 16, .inr (.inl gr))), (ad 5, .inl (G.2.1 2, 16, .inr (.inl ou))), (ad 6, .inl (G.2.1 2, 12, .inr (.inl fx))), (ad 7, .inl (G.2.1 2, 12, .inr (.inl fy))), (ad 8, .inl (G.2.1 1, 8, .inl od)), (ad 9, .inl (G.2.1 1, 12, .inl cr)), (ad 10, .inl (G.2.1 1, 200, .inl ty)), (ad 11, .inl (G.2.1 1, 48, .inl to_)), (ad 12, .inl (G.2.1 1, 48, .inl dr))]) th 4593671619917905920 4652007308841189376) rfl ⟨(Nat.le_of_ble_eq_true rfl), (Nat.le_of_ble_eq_true rfl)⟩ hl.1 rfl (Nat.le_of_ble_eq_true rfl) dX6_bend_45 ⟨(Nat.le_of_ble_eq_true rfl), (Nat.le_of_ble_eq_true rfl)⟩ (fun v9 u9 H locs hp hW => ?_)
        obtain ⟨rfl, hu⟩ := hp
        rw [hu] at hW
        have hW : gx_W G A s ([(ad 0, .inr (11, [.int cd, .int (nI pn), .ref (ad 1), .ref (ad 2), .ref (ad 3), .ref (ad 4), .ref (ad 5), .int (nI fn), .ref (ad 6), .ref (ad 7), .int (nI dn), .ref (ad 8), .long ex, .long ey, .long eg, .int (nI cn), .ref (ad 9), .ref (ad 10), .int (nI sn), .int at0, .int fl, .int (nI tn), .ref (ad 11), .ref (ad 12)])), (ad 1, .inl (G.2.1 2, 16, .inr (.inl px))), (ad 2, .inl (G.2.1 2, 16, .inr (.inl py))), (ad 3, .inl (G.2.1 2, 16, .inr (.inl pz))), (ad 4, .inl (G.2.1 2, 16, .inr (.inl gr))), (ad 5, .inl (G.2.1 2, 16, .inr (.inl ou))), (ad 6, .inl (G.2.1 2, 12, .inr (.inl fx))), (ad 7, .inl (G.2.1 2, 12, .inr (.inl fy))), (ad 8, .inl (G.2.1 1, 8, .inl od)), (ad 9, .inl (G.2.1 1, 12, .inl cr)), (ad 10, .inl (G.2.1 1, 200, .inl ty)), (ad 11, .inl (G.2.1 1, 48, .inl to_)), (ad 12, .inl (G.2.1 1, 48, .inl dr))]) H locs := hW
        refine W.eq (g2 := F0 m 48 ls [.int (gx_b (be_w th)), .ref (ad 0)]) rfl ?_
        refine W.widen (k := 0) (n := 0) (Nat.le_of_ble_eq_true rfl) (Nat.le_of_ble_eq_true rfl) ?_
        refine lv_if_eq (tgt := 55) gX gB dX6_bend_48 (by decide) (fun c48 => ?_) (fun c48 => ?_)
        · refine lv_iconst (v := 1) gX gB dX6_bend_55 (by decide) ?_
          refine gx_putE C hW clX6 fX6_47 0 rfl (Or.inl rfl) rfl rfl (Nat.le_of_ble_eq_true rfl) dX6_bend_56 (fun H locs hW => ?_)
          have hW : gx_W G A s ([(ad 0, .inr (11, [.int 1, .int (nI pn), .ref (ad 1), .ref (ad 2), .ref (ad 3), .ref (ad 4), .ref (ad 5), .int (nI fn), .ref (ad 6), .ref (ad 7), .int (nI dn), .ref (ad 8), .long ex, .long ey, .long eg, .int (nI cn), .ref (ad 9), .ref (ad 10), .int (nI sn), .int at0, .int fl, .int (nI tn), .ref (ad 11), .ref (ad 12)])), (ad 1, .inl (G.2.1 2, 16, .inr (.inl px))), (ad 2, .inl (G.2.1 2, 16, .inr (.inl py))), (ad 3, .inl (G.2.1 2, 16, .inr (.inl pz))), (ad 4, .inl (G.2.1 2, 16, .inr (.inl gr))), (ad 5, .inl (G.2.1 2, 16, .inr (.inl ou))), (ad 6, .inl (G.2.1 2, 12, .inr (.inl fx))), (ad 7, .inl (G.2.1 2, 12, .inr (.inl fy))), (ad 8, .inl (G.2.1 1, 8, .inl od)), (ad 9, .inl (G.2.1 1, 12, .inl cr)), (ad 10, .inl (G.2.1 1, 200, .inl ty)), (ad 11, .inl (G.2.1 1, 48, .inl to_)), (ad 12, .inl (G.2.1 1, 48, .inl dr))]) H locs := hW
          refine lv_aload_n gX gB dX6_bend_59 rfl (lv_at hl 0 rfl) ?_
          refine gx_get C hW fX6_47 ⟨0, rfl⟩ rfl dX6_bend_60 ?_
          refine lv_if_le (tgt := 68) gX gB dX6_bend_63 (by decide) (fun h9 => absurd (show 1 ≤ (0 : Int32) from h9) (by decide)) (fun _ => ?_)
          refine lv_dconst0 gX gB dX6_bend_66 ?_
          exact gx_dret C hr hW (Or.inr ⟨by rw [be_1 (sp := sp) (wi := wi) (th := th) (lo := lo) (fun zz => gx_b0.mp (c48) zz.2.2.2)]; decide, rfl, by rw [be_1 (sp := sp) (wi := wi) (th := th) (lo := lo) (fun zz => gx_b0.mp (c48) zz.2.2.2)]⟩) (Nat.le_of_ble_eq_true rfl) (Nat.le_of_ble_eq_true rfl) dX6_bend_67
        · refine lv_iconst (v := 0) gX gB dX6_bend_51 (by decide) ?_
          refine lv_goto (tgt := 56) gX gB dX6_bend_52 (by decide) ?_
          refine gx_putE C hW clX6 fX6_47 0 rfl (Or.inl rfl) rfl rfl (Nat.le_of_ble_eq_true rfl) dX6_bend_56 (fun H locs hW => ?_)
          have hW : gx_W G A s ([(ad 0, .inr (11, [.int 0, .int (nI pn), .ref (ad 1), .ref (ad 2), .ref (ad 3), .ref (ad 4), .ref (ad 5), .int (nI fn), .ref (ad 6), .ref (ad 7), .int (nI dn), .ref (ad 8), .long ex, .long ey, .long eg, .int (nI cn), .ref (ad 9), .ref (ad 10), .int (nI sn), .int at0, .int fl, .int (nI tn), .ref (ad 11), .ref (ad 12)])), (ad 1, .inl (G.2.1 2, 16, .inr (.inl px))), (ad 2, .inl (G.2.1 2, 16, .inr (.inl py))), (ad 3, .inl (G.2.1 2, 16, .inr (.inl pz))), (ad 4, .inl (G.2.1 2, 16, .inr (.inl gr))), (ad 5, .inl (G.2.1 2, 16, .inr (.inl ou))), (ad 6, .inl (G.2.1 2, 12, .inr (.inl fx))), (ad 7, .inl (G.2.1 2, 12, .inr (.inl fy))), (ad 8, .inl (G.2.1 1, 8, .inl od)), (ad 9, .inl (G.2.1 1, 12, .inl cr)), (ad 10, .inl (G.2.1 1, 200, .inl ty)), (ad 11, .inl (G.2.1 1, 48, .inl to_)), (ad 12, .inl (G.2.1 1, 48, .inl dr))]) H locs := hW
          refine lv_aload_n gX gB dX6_bend_59 rfl (lv_at hl 0 rfl) ?_
          refine gx_get C hW fX6_47 ⟨0, rfl⟩ rfl dX6_bend_60 ?_
          refine lv_if_le (tgt := 68) gX gB dX6_bend_63 (by decide) (fun _ => ?_) (fun h9 => absurd (show 0 ≤ (0 : Int32) from by decide) h9)
          refine lv_dload_n gX gB dX6_bend_68 rfl (lv_at hl 2 rfl) ?_
          refine lv_dload gX gB dX6_bend_69 (lv_at hl 3 rfl) ?_
          refine lv_dmul gX gB dX6_bend_71 ((be_s1 (gx_b1.mp (c34)) (gx_b1.mp (c48))).1.2) ?_
          refine lv_dload gX gB dX6_bend_72 (lv_at hl 3 rfl) ?_
          refine lv_dmul gX gB dX6_bend_74 ((be_s2 (gx_b1.mp (c34)) (gx_b1.mp (c48))).1.2) ?_
          refine lv_dload gX gB dX6_bend_75 (lv_at hl 3 rfl) ?_
          refine lv_dmul gX gB dX6_bend_77 ((be_s3 (gx_b1.mp (c34)) (gx_b1.mp (c48))).1.2) ?_
          refine lv_dstore (lv' := [(9, .double (FP.dmul (FP.dmul (FP.dmul wi th) th) th)), (0, .ref (ad 0)), (1, .double sp), (3, .double wi), (5, .double th), (7, .double lo)]) gX gB dX6_bend_78 hl (by decide) rfl (fun ls hl => ?_)
          refine lv_ldc2d (v := 4594797519824748544) gX gB C.hown (C.ts _ (tq_5 228 (by decide +kernel) rfl)) dX6_bend_80 ?_
          refine lv_dload gX gB dX6_bend_83 (lv_at hl 5 rfl) ?_
          refine lv_dmul gX gB dX6_bend_85 ((be_t1 (gx_b1.mp (c10))).2) ?_
          refine lv_dload_n gX gB dX6_bend_86 rfl (lv_at hl 2 rfl) ?_
          refine lv_dmul gX gB dX6_bend_87 ((be_t2 (gx_b1.mp (c10)) (gx_b1.mp (c21))).2) ?_
          refine lv_dload_n gX gB dX6_bend_88 rfl (lv_at hl 2 rfl) ?_
          refine lv_dmul gX gB dX6_bend_89 ((be_t3 (gx_b1.mp (c10)) (gx_b1.mp (c21))).2) ?_
          refine lv_dload_n gX gB dX6_bend_90 rfl (lv_at hl 2 rfl) ?_
          refine lv_dmul gX gB dX6_bend_91 ((be_t4 (gx_b1.mp (c10)) (gx_b1.mp (c21))).2) ?_
          refine lv_dload gX gB dX6_bend_92 (lv_at hl 0 rfl) ?_
          refine lv_ddiv gX gB dX6_bend_94 (be_q (gx_b1.mp (c10)) (gx_b1.mp (c21)) (gx_b1.mp (c34)) (gx_b1.mp (c48))) ?_
          exact gx_dret C hr hW (Or.inl ⟨be_0 ⟨(gx_b1.mp (c10)), (gx_b1.mp (c21)), (gx_b1.mp (c34)), (gx_b1.mp (c48))⟩, rfl, rfl⟩) (Nat.le_of_ble_eq_true rfl) (Nat.le_of_ble_eq_true rfl) dX6_bend_95
set_option maxHeartbeats 4000000 in
set_option maxRecDepth 100000 in
theorem kX6_creep (l : Launch) (G : gx_T) (ad : Nat → Nat) (cd : Int32) (pn fn dn cn sn tn : Nat) (ex ey eg : Int64) (at0 fl : Int32) (px py pz gr ou fx fy : Nat → Int64) (od cr ty to_ dr : Nat → Int32) (y : Int32) : gx_M l G yX6_creep cX6_creep 2 (some .double) ({ frames := 0, cells := 0, slots := 0, locals := 0 } : Room) [.ref (ad 0), .int y] ([(ad 0, .inr (11, [.int cd, .int (nI pn), .ref (ad 1), .ref (ad 2), .ref (ad 3), .ref (ad 4), .ref (ad 5), .int (nI fn), .ref (ad 6), .ref (ad 7), .int (nI dn), .ref (ad 8), .long ex, .long ey, .long eg, .int (nI cn), .ref (ad 9), .ref (ad 10), .int (nI sn), .int at0, .int fl, .int (nI tn), .ref (ad 11), .ref (ad 12)])), (ad 1, .inl (G.2.1 2, 16, .inr (.inl px))), (ad 2, .inl (G.2.1 2, 16, .inr (.inl py))), (ad 3, .inl (G.2.1 2, 16, .inr (.inl pz))), (ad 4, .inl (G.2.1 2, 16, .inr (.inl gr))), (ad 5, .inl (G.2.1 2, 16, .inr (.inl ou))), (ad 6, .inl (G.2.1 2, 12, .inr (.inl fx))), (ad 7, .inl (G.2.1 2, 12, .inr (.inl fy))), (ad 8, .inl (G.2.1 1, 8, .inl od)), (ad 9, .inl (G.2.1 1, 12, .inl cr)), (ad 10, .inl (G.2.1 1, 200, .inl ty)), (ad 11, .inl (G.2.1 1, 48, .inl to_)), (ad 12, .inl (G.2.1 1, 48, .inl dr))]) (fun v u => (yc_code y = 0 ∧ v = some (.double (yc_val y)) ∧ u = [(ad 0, .inr (11, [.int 0, .int (nI pn), .ref (ad 1), .ref (ad 2), .ref (ad 3), .ref (ad 4), .ref (ad 5), .int (nI fn), .ref (ad 6), .ref (ad 7), .int (nI dn), .ref (ad 8), .long ex, .long ey, .long eg, .int (nI cn), .ref (ad 9), .ref (ad 10), .int (nI sn), .int at0, .int fl, .int (nI tn), .ref (ad 11), .ref (ad 12)])), (ad 1, .inl (G.2.1 2, 16, .inr (.inl px))), (ad 2, .inl (G.2.1 2, 16, .inr (.inl py))), (ad 3, .inl (G.2.1 2, 16, .inr (.inl pz))), (ad 4, .inl (G.2.1 2, 16, .inr (.inl gr))), (ad 5, .inl (G.2.1 2, 16, .inr (.inl ou))), (ad 6, .inl (G.2.1 2, 12, .inr (.inl fx))), (ad 7, .inl (G.2.1 2, 12, .inr (.inl fy))), (ad 8, .inl (G.2.1 1, 8, .inl od)), (ad 9, .inl (G.2.1 1, 12, .inl cr)), (ad 10, .inl (G.2.1 1, 200, .inl ty)), (ad 11, .inl (G.2.1 1, 48, .inl to_)), (ad 12, .inl (G.2.1 1, 48, .inl dr))]) ∨ (¬ yc_code y = 0 ∧ v = some (.double FP.dconst0) ∧ u = [(ad 0, .inr (11, [.int (yc_code y), .int (nI pn), .ref (ad 1), .ref (ad 2), .ref (ad 3), .ref (ad 4), .ref (ad 5), .int (nI fn), .ref (ad 6), .ref (ad 7), .int (nI dn), .ref (ad 8), .long ex, .long ey, .long eg, .int (nI cn), .ref (ad 9), .ref (ad 10), .int (nI sn), .int at0, .int fl, .int (nI tn), .ref (ad 11), .ref (ad 12)])), (ad 1, .inl (G.2.1 2, 16, .inr (.inl px))), (ad 2, .inl (G.2.1 2, 16, .inr (.inl py))), (ad 3, .inl (G.2.1 2, 16, .inr (.inl pz))), (ad 4, .inl (G.2.1 2, 16, .inr (.inl gr))), (ad 5, .inl (G.2.1 2, 16, .inr (.inl ou))), (ad 6, .inl (G.2.1 2, 12, .inr (.inl fx))), (ad 7, .inl (G.2.1 2, 12, .inr (.inl fy))), (ad 8, .inl (G.2.1 1, 8, .inl od)), (ad 9, .inl (G.2.1 1, 12, .inl cr)), (ad 10, .inl (G.2.1 1, 200, .inl ty)), (ad 11, .inl (G.2.1 1, 48, .inl to_)), (ad 12, .inl (G.2.1 1, 48, .inl dr))])) := by
  refine gx_start (by decide +kernel) (Nat.le_of_ble_eq_true rfl) ?_
  intro p e s m args below meth c A ls C hr hnm hW hl
  have gX := C.x
  have gB := C.b
  have hl : lv_has ls 2 [(0, .ref (ad 0)), (1, .int y)] := hl
  refine lv_aload_n gX gB dX6_creep_0 rfl (lv_at hl 0 rfl) ?_
  refine lv_iload_n gX gB dX6_creep_1 rfl (lv_at hl 1 rfl) ?_
  refine lv_if_lt (tgt := 12) gX gB dX6_creep_2 (by decide) (fun c2 => ?_) (fun c2 => ?_)
  · refine lv_iconst (v := 1) gX gB dX6_creep_12 (by decide) ?_
    refine lv_goto (tgt := 17) gX gB dX6_creep_13 (by decide) ?_
    refine gx_putE C hW clX6 fX6_47 0 rfl (Or.inl rfl) rfl rfl (Nat.le_of_ble_eq_true rfl) dX6_creep_17 (fun H locs hW => ?_)
    have hW : gx_W G A s ([(ad 0, .inr (11, [.int 1, .int (nI pn), .ref (ad 1), .ref (ad 2), .ref (ad 3), .ref (ad 4), .ref (ad 5), .int (nI fn), .ref (ad 6), .ref (ad 7), .int (nI dn), .ref (ad 8), .long ex, .long ey, .long eg, .int (nI cn), .ref (ad 9), .ref (ad 10), .int (nI sn), .int at0, .int fl, .int (nI tn), .ref (ad 11), .ref (ad 12)])), (ad 1, .inl (G.2.1 2, 16, .inr (.inl px))), (ad 2, .inl (G.2.1 2, 16, .inr (.inl py))), (ad 3, .inl (G.2.1 2, 16, .inr (.inl pz))), (ad 4, .inl (G.2.1 2, 16, .inr (.inl gr))), (ad 5, .inl (G.2.1 2, 16, .inr (.inl ou))), (ad 6, .inl (G.2.1 2, 12, .inr (.inl fx))), (ad 7, .inl (G.2.1 2, 12, .inr (.inl fy))), (ad 8, .inl (G.2.1 1, 8, .inl od)), (ad 9, .inl (G.2.1 1, 12, .inl cr)), (ad 10, .inl (G.2.1 1, 200, .inl ty)), (ad 11, .inl (G.2.1 1, 48, .inl to_)), (ad 12, .inl (G.2.1 1, 48, .inl dr))]) H locs := hW
    refine lv_aload_n gX gB dX6_creep_20 rfl (lv_at hl 0 rfl) ?_
    refine gx_get C hW fX6_47 ⟨0, rfl⟩ rfl dX6_creep_21 ?_
    refine lv_if_le (tgt := 31) gX gB dX6_creep_24 (by decide) (fun h9 => absurd (show 1 ≤ (0 : Int32) from h9) (by decide)) (fun _ => ?_)
    refine lv_dconst0 gX gB dX6_creep_27 ?_
    refine lv_goto (tgt := 44) gX gB dX6_creep_28 (by decide) ?_
    exact gx_dret C hr hW (Or.inr ⟨by rw [yc_1 (Or.inl (c2))]; decide, rfl, by rw [yc_1 (Or.inl (c2))]⟩) (Nat.le_of_ble_eq_true rfl) (Nat.le_of_ble_eq_true rfl) dX6_creep_44
  · refine lv_iload_n gX gB dX6_creep_5 rfl (lv_at hl 1 rfl) ?_
    refine lv_sipush (v := 1000) gX gB dX6_creep_6 (by decide) ?_
    refine lv_icmp_le (tgt := 16) gX gB dX6_creep_9 (by decide) (fun c9 => ?_) (fun c9 => ?_)
    · refine lv_iconst (v := 0) gX gB dX6_creep_16 (by decide) ?_
      refine gx_putE C hW clX6 fX6_47 0 rfl (Or.inl rfl) rfl rfl (Nat.le_of_ble_eq_true rfl) dX6_creep_17 (fun H locs hW => ?_)
      have hW : gx_W G A s ([(ad 0, .inr (11, [.int 0, .int (nI pn), .ref (ad 1), .ref (ad 2), .ref (ad 3), .ref (ad 4), .ref (ad 5), .int (nI fn), .ref (ad 6), .ref (ad 7), .int (nI dn), .ref (ad 8), .long ex, .long ey, .long eg, .int (nI cn), .ref (ad 9), .ref (ad 10), .int (nI sn), .int at0, .int fl, .int (nI tn), .ref (ad 11), .ref (ad 12)])), (ad 1, .inl (G.2.1 2, 16, .inr (.inl px))), (ad 2, .inl (G.2.1 2, 16, .inr (.inl py))), (ad 3, .inl (G.2.1 2, 16, .inr (.inl pz))), (ad 4, .inl (G.2.1 2, 16, .inr (.inl gr))), (ad 5, .inl (G.2.1 2, 16, .inr (.inl ou))), (ad 6, .inl (G.2.1 2, 12, .inr (.inl fx))), (ad 7, .inl (G.2.1 2, 12, .inr (.inl fy))), (ad 8, .inl (G.2.1 1, 8, .inl od)), (ad 9, .inl (G.2.1 1, 12, .inl cr)), (ad 10, .inl (G.2.1 1, 200, .inl ty)), (ad 11, .inl (G.2.1 1, 48, .inl to_)), (ad 12, .inl (G.2.1 1, 48, .inl dr))]) H locs := hW
      refine lv_aload_n gX gB dX6_creep_20 rfl (lv_at hl 0 rfl) ?_
      refine gx_get C hW fX6_47 ⟨0, rfl⟩ rfl dX6_creep_21 ?_
      refine lv_if_le (tgt := 31) gX gB dX6_creep_24 (by decide) (fun _ => ?_) (fun h9 => absurd (show 0 ≤ (0 : Int32) from by decide) h9)
      refine lv_dconst1 gX gB dX6_creep_31 ?_
      refine lv_ldc2d (v := 4602678819172646912) gX gB C.hown (C.ts _ (tq_5 233 (by decide +kernel) rfl)) dX6_creep_32 ?_
      refine lv_iload_n gX gB dX6_creep_35 rfl (lv_at hl 1 rfl) ?_
      refine lv_i2d gX gB dX6_creep_36 ?_
      refine lv_dmul gX gB dX6_creep_37 ((yc_m y).1) ?_
      refine lv_iload_n gX gB dX6_creep_38 rfl (lv_at hl 1 rfl) ?_
      refine lv_iconst (v := 2) gX gB dX6_creep_39 (by decide) ?_
      refine lv_iadd gX gB dX6_creep_40 ?_
      refine lv_i2d gX gB dX6_creep_41 ?_
      refine lv_ddiv gX gB dX6_creep_42 ((yc_d (c2) (Int32.not_lt.mpr c9)).1) ?_
      refine lv_dadd gX gB dX6_creep_43 (yc_a (c2) (Int32.not_lt.mpr c9)) ?_
      exact gx_dret C hr hW (Or.inl ⟨yc_0 (c2) (Int32.not_lt.mpr c9), rfl, rfl⟩) (Nat.le_of_ble_eq_true rfl) (Nat.le_of_ble_eq_true rfl) dX6_creep_44
    · refine lv_iconst (v := 1) gX gB dX6_creep_12 (by decide) ?_
      refine lv_goto (tgt := 17) gX gB dX6_creep_13 (by decide) ?_
      refine gx_putE C hW clX6 fX6_47 0 rfl (Or.inl rfl) rfl rfl (Nat.le_of_ble_eq_true rfl) dX6_creep_17 (fun H locs hW => ?_)
      have hW : gx_W G A s ([(ad 0, .inr (11, [.int 1, .int (nI pn), .ref (ad 1), .ref (ad 2), .ref (ad 3), .ref (ad 4), .ref (ad 5), .int (nI fn), .ref (ad 6), .ref (ad 7), .int (nI dn), .ref (ad 8), .long ex, .long ey, .long eg, .int (nI cn), .ref (ad 9), .ref (ad 10), .int (nI sn), .int at0, .int fl, .int (nI tn), .ref (ad 11), .ref (ad 12)])), (ad 1, .inl (G.2.1 2, 16, .inr (.inl px))), (ad 2, .inl (G.2.1 2, 16, .inr (.inl py))), (ad 3, .inl (G.2.1 2, 16, .inr (.inl pz))), (ad 4, .inl (G.2.1 2, 16, .inr (.inl gr))), (ad 5, .inl (G.2.1 2, 16, .inr (.inl ou))), (ad 6, .inl (G.2.1 2, 12, .inr (.inl fx))), (ad 7, .inl (G.2.1 2, 12, .inr (.inl fy))), (ad 8, .inl (G.2.1 1, 8, .inl od)), (ad 9, .inl (G.2.1 1, 12, .inl cr)), (ad 10, .inl (G.2.1 1, 200, .inl ty)), (ad 11, .inl (G.2.1 1, 48, .inl to_)), (ad 12, .inl (G.2.1 1, 48, .inl dr))]) H locs := hW
      refine lv_aload_n gX gB dX6_creep_20 rfl (lv_at hl 0 rfl) ?_
      refine gx_get C hW fX6_47 ⟨0, rfl⟩ rfl dX6_creep_21 ?_
      refine lv_if_le (tgt := 31) gX gB dX6_creep_24 (by decide) (fun h9 => absurd (show 1 ≤ (0 : Int32) from h9) (by decide)) (fun _ => ?_)
      refine lv_dconst0 gX gB dX6_creep_27 ?_
      refine lv_goto (tgt := 44) gX gB dX6_creep_28 (by decide) ?_
      exact gx_dret C hr hW (Or.inr ⟨by rw [yc_1 (Or.inr (Int32.not_le.mp c9))]; decide, rfl, by rw [yc_1 (Or.inr (Int32.not_le.mp c9))]⟩) (Nat.le_of_ble_eq_true rfl) (Nat.le_of_ble_eq_true rfl) dX6_creep_44
