/-! STANDTESTS: state and its reads. -/
abbrev ld_T : Type := Int64 × Int64 × Int64 × Int64 × Int32 × Int64
abbrev ft_T : Type := Int64 × Int64
abbrev sd_T : Type := Int32 × ft_T × ft_T
/-- a load's cell: x, y, z, grams, its drawer, how far out -/
def ld_is (L : List Nat) (f : Nat → va_E) (a : Nat) (d : ld_T) : Prop := a ∈ L ∧ f a = .inr (6, [.long d.1, .long d.2.1, .long d.2.2.1, .long d.2.2.2.1, .int d.2.2.2.2.1, .long d.2.2.2.2.2])
def ft_is (L : List Nat) (f : Nat → va_E) (a : Nat) (n : Int32) (p : ft_T) : Prop := a ∈ L ∧ f a = .inr (5, [.int n, .long p.1, .long p.2])
def sd_is (L : List Nat) (f : Nat → va_E) (a : Nat) (d : sd_T) : Prop := ∃ (u v : Nat) (n2 : Int32), a ∈ L ∧ f a = .inr (7, [.ref u, .ref v]) ∧ ft_is L f u d.1 d.2.1 ∧ ft_is L f v n2 d.2.2
abbrev ld_m (p q : ft_T) (d : ld_T) (k : Int32) : Int64 := ld_moment p.1 p.2 q.1 q.2 d.1 d.2.1 d.2.2.2.1 d.2.2.2.2.2 d.2.2.2.2.1 k
/-- a sum, term by term -/
def mo_sum (m0 : Int64) (mm : Nat → Int64) : Nat → Int64
  | 0 => m0
  | n + 1 => mo_sum m0 mm n + mm n
/-- the moment of all about the line from p to q, so many drawers open, with who -/
def mo_of (p q : ft_T) (k : Int32) (dw : ld_T) (ps : Nat → ld_T) (n : Nat) : Int64 := mo_sum (ld_m p q dw 0) (fun i => ld_m p q (ps i) k) n
/-- 0, or 1 and the first place below n whose moment is below 0 -/
def vd_at (mom : Nat → Int64) : Nat → Nat
  | 0 => 0
  | n + 1 => if vd_at mom n = 0 then (if mom n < 0 then n + 1 else 0) else vd_at mom n
theorem vd_stay {mom : Nat → Int64} {k : Nat} (h : vd_at mom k = 0) (h0 : mom k < 0) : ∀ n, k < n → vd_at mom n = k + 1 := by
  intro n
  induction n with
  | zero => intro hn; omega
  | succ n ih =>
    intro hn
    show (if vd_at mom n = 0 then (if mom n < 0 then n + 1 else 0) else vd_at mom n) = k + 1
    rcases Nat.lt_or_ge k n with h1 | h1
    · rw [ih h1, if_neg (by omega)]
    · have e : n = k := by omega
      rw [e, if_pos h, if_pos h0]
theorem vd_succ {mom : Nat → Int64} {k : Nat} (h : vd_at mom k = 0) (h0 : ¬ mom k < 0) : vd_at mom (k + 1) = 0 := by
  show (if vd_at mom k = 0 then (if mom k < 0 then k + 1 else 0) else vd_at mom k) = 0
  rw [if_pos h, if_neg h0]
theorem vd_le (mom : Nat → Int64) : ∀ n, vd_at mom n ≤ n := by
  intro n
  induction n with
  | zero => exact Nat.le_refl _
  | succ n ih =>
    show (if vd_at mom n = 0 then (if mom n < 0 then n + 1 else 0) else vd_at mom n) ≤ n + 1
    split
    · split <;> omega
    · omega
set_option maxHeartbeats 4000000 in
set_option maxRecDepth 100000 in
theorem kX5_openDrawers (l : Launch) (G : gx_T) (L : List Nat) (f : Nat → va_E) (x P F S X N T E : Nat) (dc : Int32) (hx : x ∈ L) (fx : f x = .inr (10, [.ref P, .ref F, .ref S, .ref X, .ref N, .ref T, .ref E, .int dc])) (t w : Nat) (k : Int32) (ht : t ∈ L) (ft : f t = .inr (8, [.ref w, .int k])) : gx_M l G yX5_openDrawers cX5_openDrawers 2 (some .int) ({ frames := 0, cells := 0, slots := 0, locals := 0 } : Room) [.ref x, .ref t] (va_pl L f) (fun v u => v = some (.int (if k < dc then k else dc)) ∧ u = va_pl L f) := by
  refine gx_start (by decide +kernel) (Nat.le_of_ble_eq_true rfl) ?_
  intro p e s m args below meth c A ls C hr hnm hW hl
  have gX := C.x
  have gB := C.b
  have hl : lv_has ls 2 [(0, .ref x), (1, .ref t)] := hl
  refine lv_aload_n gX gB dX5_openDrawers_0 rfl (lv_at hl 1 rfl) ?_
  refine gx_getN C hW fX5_256n (gx_pl ht ft) rfl dX5_openDrawers_1 ?_
  refine lv_aload_n gX gB dX5_openDrawers_4 rfl (lv_at hl 0 rfl) ?_
  refine gx_get C hW fX5_44 (gx_pl hx fx) rfl dX5_openDrawers_5 ?_
  refine lv_icmp_ge (tgt := 18) gX gB dX5_openDrawers_8 (by decide) (fun c8 => ?_) (fun c8 => ?_)
  · refine lv_aload_n gX gB dX5_openDrawers_18 rfl (lv_at hl 0 rfl) ?_
    refine gx_get C hW fX5_44 (gx_pl hx fx) rfl dX5_openDrawers_19 ?_
    exact gx_iret C hr hW (⟨by simp [gx_b, Int32.not_lt.mpr c8], rfl⟩) (Nat.le_of_ble_eq_true rfl) (Nat.le_of_ble_eq_true rfl) dX5_openDrawers_22
  · refine lv_aload_n gX gB dX5_openDrawers_11 rfl (lv_at hl 1 rfl) ?_
    refine gx_getN C hW fX5_256n (gx_pl ht ft) rfl dX5_openDrawers_12 ?_
    refine lv_goto (tgt := 22) gX gB dX5_openDrawers_15 (by decide) ?_
    exact gx_iret C hr hW (⟨by simp [gx_b, Int32.not_le.mp c8], rfl⟩) (Nat.le_of_ble_eq_true rfl) (Nat.le_of_ble_eq_true rfl) dX5_openDrawers_22
set_option maxHeartbeats 4000000 in
set_option maxRecDepth 100000 in
theorem kX5_needPolygon (l : Launch) (hfl : l.flags = flags0) (G : gx_T) (L : List Nat) (f : Nat → va_E) (x P F S X N T E : Nat) (dc : Int32) (hx : x ∈ L) (fx : f x = .inr (10, [.ref P, .ref F, .ref S, .ref X, .ref N, .ref T, .ref E, .int dc])) (bS : Option Nat) (sa : List Nat) (hlS : ls_at G L f S bS sa) : gx_MX l G yX5_needPolygon cX5_needPolygon 1 none ({ frames := 6, cells := 1, slots := 6, locals := 90 } : Room) [.ref x] (va_pl L f) (fun v u => v = none ∧ u = va_pl L f ∧ ¬ sa.length = 0) (fun Ex u => Ex = gx_E1 ∧ u = va_pl L f ∧ sa.length = 0) := by
  refine gx_startX (by decide +kernel) (Nat.le_of_ble_eq_true rfl) ?_
  intro p e s m args below meth c A ls C hr hno hW hl
  have gX := C.x
  have gB := C.b
  have hl : lv_has ls 1 [(0, .ref x)] := hl
  refine lv_aload_n gX gB dX5_needPolygon_0 rfl (lv_at hl 0 rfl) ?_
  refine gx_get C hW fX5_19 (gx_pl hx fx) rfl dX5_needPolygon_1 ?_
  refine gx_callV (wr := []) (rest := []) C hW sX5_251 (kL_empty l G L f S bS sa hlS) (gx_pl hlS.1 (ls_at.head hlS).choose_spec.choose_spec) rfl rfl ⟨(Nat.le_of_ble_eq_true rfl), (Nat.le_of_ble_eq_true rfl)⟩ hl.1 rfl (Nat.le_of_ble_eq_true rfl) dX5_needPolygon_4 ⟨(Nat.le_of_ble_eq_true rfl), (Nat.le_of_ble_eq_true rfl)⟩ (fun v9 u9 H locs hp hW => ?_)
  obtain ⟨rfl, hu⟩ := hp
  rw [hu] at hW
  have hW : gx_W G A s (va_pl L f) H locs := hW
  refine W.eq (g2 := F0 m 7 ls [.int (if sa.length = 0 then 1 else 0)]) rfl ?_
  refine W.widen (k := 0) (n := 0) (Nat.le_of_ble_eq_true rfl) (Nat.le_of_ble_eq_true rfl) ?_
  refine lv_if_eq (tgt := 20) gX gB dX5_needPolygon_7 (by decide) (fun c7 => ?_) (fun c7 => ?_)
  · refine vx_ret ?_
    exact gx_vret C hr hW (⟨rfl, rfl, fun z => absurd c7 (by rw [if_pos z]; decide)⟩) (Nat.le_of_ble_eq_true rfl) (Nat.le_of_ble_eq_true rfl) dX5_needPolygon_20
  · exact gx_throw (text := "no polygon") hfl C hno hW gx_thr1 (by decide +kernel) (tq_3 191 (by decide +kernel) rfl) (tq_1 14 (by decide +kernel) rfl) (tr_4 140 (by decide +kernel)) hl.1 dX5_needPolygon_10 dX5_needPolygon_13 dX5_needPolygon_14 dX5_needPolygon_16 dX5_needPolygon_19 (Nat.le_of_ble_eq_true rfl) (Nat.le_of_ble_eq_true rfl) (Nat.le_of_ble_eq_true rfl) (Nat.le_of_ble_eq_true rfl) (⟨rfl, rfl, Classical.byContradiction fun z => c7 (by rw [if_neg z])⟩) (Nat.le_of_ble_eq_true rfl) (Nat.le_of_ble_eq_true rfl)
set_option maxHeartbeats 4000000 in
set_option maxRecDepth 100000 in
theorem kX5_momentOver (l : Launch) (G : gx_T) (L : List Nat) (f : Nat → va_E) (x P F S X N T E : Nat) (dc : Int32) (hx : x ∈ L) (fx : f x = .inr (10, [.ref P, .ref F, .ref S, .ref X, .ref N, .ref T, .ref E, .int dc])) (bP : Option Nat) (pa : List Nat) (ps : Nat → ld_T) (hlp : ls_at G L f P bP pa) (hld : ∀ i (h : i < pa.length), ld_is L f pa[i] (ps i)) (d : Nat) (dsd : sd_T) (hsd1 : sd_is L f d dsd) (w : Nat) (dw : ld_T) (hw : ld_is L f w dw) (k : Int32) : gx_M l G yX5_momentOver cX5_momentOver 7 (some .long) ({ frames := 3, cells := 0, slots := 0, locals := 64 } : Room) [.ref x, .ref d, .int k, .ref w] (va_pl L f) (fun v u => v = some (.long (mo_of dsd.2.1 dsd.2.2 k dw ps pa.length)) ∧ u = va_pl L f) := by
  obtain ⟨a, b, nb, hd, fd, ⟨ha, fa⟩, hb, fb⟩ := hsd1
  refine gx_start (by decide +kernel) (Nat.le_of_ble_eq_true rfl) ?_
  intro p e s m args below meth c A ls C hr hnm hW hl
  have gX := C.x
  have gB := C.b
  have hl : lv_has ls 7 [(0, .ref x), (1, .ref d), (2, .int k), (3, .ref w)] := hl
  refine lv_aload_n gX gB dX5_momentOver_0 rfl (lv_at hl 3 rfl) ?_
  refine lv_aload_n gX gB dX5_momentOver_1 rfl (lv_at hl 1 rfl) ?_
  refine lv_iconst (v := 0) gX gB dX5_momentOver_2 (by decide) ?_
  refine gx_callVN (wr := []) (rest := []) C hW sX5_259n (kX1_momentAbout l G L f w d a b dsd.1 nb dw.2.2.2.2.1 0 dsd.2.1.1 dsd.2.1.2 dsd.2.2.1 dsd.2.2.2 dw.1 dw.2.1 dw.2.2.1 dw.2.2.2.1 dw.2.2.2.2.2 hw.1 hw.2 hd fd ha fa hb fb) (gx_pl hw.1 hw.2) rfl rfl ⟨(Nat.le_of_ble_eq_true rfl), (Nat.le_of_ble_eq_true rfl)⟩ hl.1 rfl (Nat.le_of_ble_eq_true rfl) dX5_momentOver_3 ⟨(Nat.le_of_ble_eq_true rfl), (Nat.le_of_ble_eq_true rfl)⟩ (fun v9 u9 H locs hp hW => ?_)
  obtain ⟨rfl, hu⟩ := hp
  rw [hu] at hW
  have hW : gx_W G A s (va_pl L f) H locs := hW
  refine W.eq (g2 := F0 m 6 ls [.long (ld_m dsd.2.1 dsd.2.2 dw 0)]) rfl ?_
  refine W.widen (k := 0) (n := 0) (Nat.le_of_ble_eq_true rfl) (Nat.le_of_ble_eq_true rfl) ?_
  refine lv_lstore (lv' := [(4, .long (ld_m dsd.2.1 dsd.2.2 dw 0)), (0, .ref x), (1, .ref d), (2, .int k), (3, .ref w)]) gX gB dX5_momentOver_6 hl (by decide) rfl (fun ls hl => ?_)
  refine lv_iconst (v := 0) gX gB dX5_momentOver_8 (by decide) ?_
  refine lv_istore (lv' := [(6, .int 0), (4, .long (ld_m dsd.2.1 dsd.2.2 dw 0)), (0, .ref x), (1, .ref d), (2, .int k), (3, .ref w)]) gX gB dX5_momentOver_9 hl (by decide) rfl (fun ls hl => ?_)
  have hl : lv_has ls 7 [(6, .int (nI 0)), (4, .long (mo_sum (ld_m dsd.2.1 dsd.2.2 dw 0) (fun i => ld_m dsd.2.1 dsd.2.2 (ps i) k) 0)), (0, .ref x), (1, .ref d), (2, .int k), (3, .ref w)] := hl
  have loop : ∀ (r : Nat) (i : Nat), (pa.length - i < r) → (i ≤ pa.length) → ∀ (H : Heap) (locs : List Loc), gx_W G A s (va_pl L f) H locs → ∀ ls : Array Slot, lv_has ls 7 [(6, .int (nI i)), (4, .long (mo_sum (ld_m dsd.2.1 dsd.2.2 dw 0) (fun i => ld_m dsd.2.1 dsd.2.2 (ps i) k) i)), (0, .ref x), (1, .ref d), (2, .int k), (3, .ref w)] → W p l e ({ frames := 3, cells := 0, slots := 0, locals := 64 } : Room) s m args below meth c H locs 0 0 (MQ below (gx_Q G A (fun v u => v = some (.long (mo_of dsd.2.1 dsd.2.2 k dw ps pa.length)) ∧ u = va_pl L f)) args s (({ frames := 3, cells := 0, slots := 0, locals := 64 } : Room)).cells (({ frames := 3, cells := 0, slots := 0, locals := 64 } : Room)).slots A) (F0 m 11 ls []) := by
    intro r
    induction r with
    | zero => intro i hfu hi H locs hW ls hl; exact absurd hfu (Nat.not_lt_zero _)
    | succ r ih =>
      intro i hfu hi H locs hW ls hl
      rcases Nat.lt_or_ge i pa.length with hik | hik
      · refine lv_iload gX gB dX5_momentOver_11 (lv_at hl 0 rfl) ?_
        refine lv_aload_n gX gB dX5_momentOver_13 rfl (lv_at hl 2 rfl) ?_
        refine gx_get C hW fX5_10 (gx_pl hx fx) rfl dX5_momentOver_14 ?_
        refine gx_callV (wr := []) (rest := [.int (nI i)]) C hW sX5_48 (kL_size l G L f P bP pa hlp) (gx_pl hlp.1 (ls_at.head hlp).choose_spec.choose_spec) rfl rfl ⟨(Nat.le_of_ble_eq_true rfl), (Nat.le_of_ble_eq_true rfl)⟩ hl.1 rfl (Nat.le_of_ble_eq_true rfl) dX5_momentOver_17 ⟨(Nat.le_of_ble_eq_true rfl), (Nat.le_of_ble_eq_true rfl)⟩ (fun v9 u9 H locs hp hW => ?_)
        obtain ⟨rfl, hu⟩ := hp
        rw [hu] at hW
        have hW : gx_W G A s (va_pl L f) H locs := hW
        refine W.eq (g2 := F0 m 20 ls [.int (nI pa.length), .int (nI i)]) rfl ?_
        refine W.widen (k := 0) (n := 0) (Nat.le_of_ble_eq_true rfl) (Nat.le_of_ble_eq_true rfl) ?_
        refine lv_icmp_ge (tgt := 51) gX gB dX5_momentOver_20 (by decide) (fun h9 => absurd (show (nI pa.length) ≤ (nI i) from h9) (nI_ge hik (by have := hlp.lt; omega))) (fun _ => ?_)
        refine lv_lload gX gB dX5_momentOver_23 (lv_at hl 1 rfl) ?_
        refine lv_aload_n gX gB dX5_momentOver_25 rfl (lv_at hl 2 rfl) ?_
        refine gx_get C hW fX5_10 (gx_pl hx fx) rfl dX5_momentOver_26 ?_
        refine lv_iload gX gB dX5_momentOver_29 (lv_at hl 0 rfl) ?_
        refine gx_callV (wr := []) (rest := [.long (mo_sum (ld_m dsd.2.1 dsd.2.2 dw 0) (fun i => ld_m dsd.2.1 dsd.2.2 (ps i) k) i)]) C hW sX5_95 (kL_get l G L f P bP pa hlp i hik) (gx_pl hlp.1 (ls_at.head hlp).choose_spec.choose_spec) rfl rfl ⟨(Nat.le_of_ble_eq_true rfl), (Nat.le_of_ble_eq_true rfl)⟩ hl.1 rfl (Nat.le_of_ble_eq_true rfl) dX5_momentOver_31 ⟨(Nat.le_of_ble_eq_true rfl), (Nat.le_of_ble_eq_true rfl)⟩ (fun v9 u9 H locs hp hW => ?_)
        obtain ⟨rfl, hu⟩ := hp
        rw [hu] at hW
        have hW : gx_W G A s (va_pl L f) H locs := hW
        refine W.eq (g2 := F0 m 34 ls [.ref (pa[i]), .long (mo_sum (ld_m dsd.2.1 dsd.2.2 dw 0) (fun i => ld_m dsd.2.1 dsd.2.2 (ps i) k) i)]) rfl ?_
        refine W.widen (k := 0) (n := 0) (Nat.le_of_ble_eq_true rfl) (Nat.le_of_ble_eq_true rfl) ?_
        refine gx_cast C hW (gx_pl ((hld i hik).1) ((hld i hik).2)) rfl (tq_1 99 (by decide +kernel) rfl) dX5_momentOver_34 ?_
        refine lv_aload_n gX gB dX5_momentOver_37 rfl (lv_at hl 3 rfl) ?_
        refine lv_iload_n gX gB dX5_momentOver_38 rfl (lv_at hl 4 rfl) ?_
        refine gx_callVN (wr := []) (rest := [.long (mo_sum (ld_m dsd.2.1 dsd.2.2 dw 0) (fun i => ld_m dsd.2.1 dsd.2.2 (ps i) k) i)]) C hW sX5_259n (kX1_momentAbout l G L f pa[i] d a b dsd.1 nb (ps i).2.2.2.2.1 k dsd.2.1.1 dsd.2.1.2 dsd.2.2.1 dsd.2.2.2 (ps i).1 (ps i).2.1 (ps i).2.2.1 (ps i).2.2.2.1 (ps i).2.2.2.2.2 ((hld i hik).1) ((hld i hik).2) hd fd ha fa hb fb) (gx_pl ((hld i hik).1) ((hld i hik).2)) rfl rfl ⟨(Nat.le_of_ble_eq_true rfl), (Nat.le_of_ble_eq_true rfl)⟩ hl.1 rfl (Nat.le_of_ble_eq_true rfl) dX5_momentOver_39 ⟨(Nat.le_of_ble_eq_true rfl), (Nat.le_of_ble_eq_true rfl)⟩ (fun v9 u9 H locs hp hW => ?_)
        obtain ⟨rfl, hu⟩ := hp
        rw [hu] at hW
        have hW : gx_W G A s (va_pl L f) H locs := hW
        refine W.eq (g2 := F0 m 42 ls [.long (ld_m dsd.2.1 dsd.2.2 (ps i) k), .long (mo_sum (ld_m dsd.2.1 dsd.2.2 dw 0) (fun i => ld_m dsd.2.1 dsd.2.2 (ps i) k) i)]) rfl ?_
        refine W.widen (k := 0) (n := 0) (Nat.le_of_ble_eq_true rfl) (Nat.le_of_ble_eq_true rfl) ?_
        refine lv_ladd gX gB dX5_momentOver_42 ?_
        refine gx_topl (show ((mo_sum (ld_m dsd.2.1 dsd.2.2 dw 0) (fun i => ld_m dsd.2.1 dsd.2.2 (ps i) k) i) + (ld_m dsd.2.1 dsd.2.2 (ps i) k)) = mo_sum (ld_m dsd.2.1 dsd.2.2 dw 0) (fun i => ld_m dsd.2.1 dsd.2.2 (ps i) k) (i + 1) from rfl) ?_
        refine lv_lstore (lv' := [(4, .long (mo_sum (ld_m dsd.2.1 dsd.2.2 dw 0) (fun i => ld_m dsd.2.1 dsd.2.2 (ps i) k) (i + 1))), (6, .int (nI i)), (0, .ref x), (1, .ref d), (2, .int k), (3, .ref w)]) gX gB dX5_momentOver_43 hl (by decide) rfl (fun ls hl => ?_)
        refine lv_iinc (v := nI (i + 1)) (lv' := [(6, .int (nI (i + 1))), (4, .long (mo_sum (ld_m dsd.2.1 dsd.2.2 dw 0) (fun i => ld_m dsd.2.1 dsd.2.2 (ps i) k) (i + 1))), (0, .ref x), (1, .ref d), (2, .int k), (3, .ref w)]) gX gB dX5_momentOver_45 hl (k := 1) rfl (by exact nI_1 i) (by decide) rfl (fun ls hl => ?_)
        refine lv_goto (tgt := 11) gX gB dX5_momentOver_48 (by decide) ?_
        exact ih (i + 1) (by omega) (by omega) _ _ hW ls (lv_sub hl [0, 1, 2, 3, 4, 5] rfl)
      · refine lv_iload gX gB dX5_momentOver_11 (lv_at hl 0 rfl) ?_
        refine lv_aload_n gX gB dX5_momentOver_13 rfl (lv_at hl 2 rfl) ?_
        refine gx_get C hW fX5_10 (gx_pl hx fx) rfl dX5_momentOver_14 ?_
        refine gx_callV (wr := []) (rest := [.int (nI i)]) C hW sX5_48 (kL_size l G L f P bP pa hlp) (gx_pl hlp.1 (ls_at.head hlp).choose_spec.choose_spec) rfl rfl ⟨(Nat.le_of_ble_eq_true rfl), (Nat.le_of_ble_eq_true rfl)⟩ hl.1 rfl (Nat.le_of_ble_eq_true rfl) dX5_momentOver_17 ⟨(Nat.le_of_ble_eq_true rfl), (Nat.le_of_ble_eq_true rfl)⟩ (fun v9 u9 H locs hp hW => ?_)
        obtain ⟨rfl, hu⟩ := hp
        rw [hu] at hW
        have hW : gx_W G A s (va_pl L f) H locs := hW
        refine W.eq (g2 := F0 m 20 ls [.int (nI pa.length), .int (nI i)]) rfl ?_
        refine W.widen (k := 0) (n := 0) (Nat.le_of_ble_eq_true rfl) (Nat.le_of_ble_eq_true rfl) ?_
        refine lv_icmp_ge (tgt := 51) gX gB dX5_momentOver_20 (by decide) (fun _ => ?_) (fun h9 => absurd (show (nI pa.length) ≤ (nI i) from nI_le hik (by have := hlp.lt; omega)) h9)
        refine lv_lload gX gB dX5_momentOver_51 (lv_at hl 1 rfl) ?_
        exact gx_lret C hr hW (⟨by rw [show i = pa.length by omega]; rfl, rfl⟩) (Nat.le_of_ble_eq_true rfl) (Nat.le_of_ble_eq_true rfl) dX5_momentOver_53
  exact loop (pa.length + 1) 0 (by omega) (Nat.zero_le _) _ _ hW ls (lv_sub hl [0, 1, 2, 3, 4, 5] rfl)
set_option maxHeartbeats 4000000 in
set_option maxRecDepth 100000 in
theorem kX5_verdict (l : Launch) (G : gx_T) (L : List Nat) (f : Nat → va_E) (x P F S X N T E : Nat) (dc : Int32) (hx : x ∈ L) (fx : f x = .inr (10, [.ref P, .ref F, .ref S, .ref X, .ref N, .ref T, .ref E, .int dc])) (bP : Option Nat) (pa : List Nat) (ps : Nat → ld_T) (hlp : ls_at G L f P bP pa) (hld : ∀ i (h : i < pa.length), ld_is L f pa[i] (ps i)) (bS : Option Nat) (sa : List Nat) (sd : Nat → sd_T) (hlS : ls_at G L f S bS sa) (hsd : ∀ j (h : j < sa.length), sd_is L f sa[j] (sd j)) (w : Nat) (dw : ld_T) (hw : ld_is L f w dw) (k : Int32) : gx_M l G yX5_verdict cX5_verdict 4 (some .int) ({ frames := 4, cells := 0, slots := 0, locals := 90 } : Room) [.ref x, .int k, .ref w] (va_pl L f) (fun v u => v = some (.int (nI (vd_at (fun j => mo_of (sd j).2.1 (sd j).2.2 k dw ps pa.length) sa.length))) ∧ u = va_pl L f) := by
  refine gx_start (by decide +kernel) (Nat.le_of_ble_eq_true rfl) ?_
  intro p e s m args below meth c A ls C hr hnm hW hl
  have gX := C.x
  have gB := C.b
  have hl : lv_has ls 4 [(0, .ref x), (1, .int k), (2, .ref w)] := hl
  refine lv_iconst (v := 0) gX gB dX5_verdict_0 (by decide) ?_
  refine lv_istore_n (lv' := [(3, .int 0), (0, .ref x), (1, .int k), (2, .ref w)]) gX gB dX5_verdict_1 rfl hl (by decide) rfl (fun ls hl => ?_)
  have hl : lv_has ls 4 [(3, .int (nI 0)), (0, .ref x), (1, .int k), (2, .ref w)] := hl
  have loop : ∀ (r : Nat) (j : Nat), (sa.length - j < r) → (j ≤ sa.length) → (vd_at (fun j => mo_of (sd j).2.1 (sd j).2.2 k dw ps pa.length) j = 0) → ∀ (H : Heap) (locs : List Loc), gx_W G A s (va_pl L f) H locs → ∀ ls : Array Slot, lv_has ls 4 [(3, .int (nI j)), (0, .ref x), (1, .int k), (2, .ref w)] → W p l e ({ frames := 4, cells := 0, slots := 0, locals := 90 } : Room) s m args below meth c H locs 0 0 (MQ below (gx_Q G A (fun v u => v = some (.int (nI (vd_at (fun j => mo_of (sd j).2.1 (sd j).2.2 k dw ps pa.length) sa.length))) ∧ u = va_pl L f)) args s (({ frames := 4, cells := 0, slots := 0, locals := 90 } : Room)).cells (({ frames := 4, cells := 0, slots := 0, locals := 90 } : Room)).slots A) (F0 m 2 ls []) := by
    intro r
    induction r with
    | zero => intro j hfu hj hv0 H locs hW ls hl; exact absurd hfu (Nat.not_lt_zero _)
    | succ r ih =>
      intro j hfu hj hv0 H locs hW ls hl
      rcases Nat.lt_or_ge j sa.length with hjk | hjk
      · refine lv_iload_n gX gB dX5_verdict_2 rfl (lv_at hl 0 rfl) ?_
        refine lv_aload_n gX gB dX5_verdict_3 rfl (lv_at hl 1 rfl) ?_
        refine gx_get C hW fX5_19 (gx_pl hx fx) rfl dX5_verdict_4 ?_
        refine gx_callV (wr := []) (rest := [.int (nI j)]) C hW sX5_48 (kL_size l G L f S bS sa hlS) (gx_pl hlS.1 (ls_at.head hlS).choose_spec.choose_spec) rfl rfl ⟨(Nat.le_of_ble_eq_true rfl), (Nat.le_of_ble_eq_true rfl)⟩ hl.1 rfl (Nat.le_of_ble_eq_true rfl) dX5_verdict_7 ⟨(Nat.le_of_ble_eq_true rfl), (Nat.le_of_ble_eq_true rfl)⟩ (fun v9 u9 H locs hp hW => ?_)
        obtain ⟨rfl, hu⟩ := hp
        rw [hu] at hW
        have hW : gx_W G A s (va_pl L f) H locs := hW
        refine W.eq (g2 := F0 m 10 ls [.int (nI sa.length), .int (nI j)]) rfl ?_
        refine W.widen (k := 0) (n := 0) (Nat.le_of_ble_eq_true rfl) (Nat.le_of_ble_eq_true rfl) ?_
        refine lv_icmp_ge (tgt := 45) gX gB dX5_verdict_10 (by decide) (fun h9 => absurd (show (nI sa.length) ≤ (nI j) from h9) (nI_ge hjk (by have := hlS.lt; omega))) (fun _ => ?_)
        refine lv_aload_n gX gB dX5_verdict_13 rfl (lv_at hl 1 rfl) ?_
        refine lv_aload_n gX gB dX5_verdict_14 rfl (lv_at hl 1 rfl) ?_
        refine gx_get C hW fX5_19 (gx_pl hx fx) rfl dX5_verdict_15 ?_
        refine lv_iload_n gX gB dX5_verdict_18 rfl (lv_at hl 0 rfl) ?_
        refine gx_callV (wr := []) (rest := [.ref x]) C hW sX5_95 (kL_get l G L f S bS sa hlS j hjk) (gx_pl hlS.1 (ls_at.head hlS).choose_spec.choose_spec) rfl rfl ⟨(Nat.le_of_ble_eq_true rfl), (Nat.le_of_ble_eq_true rfl)⟩ hl.1 rfl (Nat.le_of_ble_eq_true rfl) dX5_verdict_19 ⟨(Nat.le_of_ble_eq_true rfl), (Nat.le_of_ble_eq_true rfl)⟩ (fun v9 u9 H locs hp hW => ?_)
        obtain ⟨rfl, hu⟩ := hp
        rw [hu] at hW
        have hW : gx_W G A s (va_pl L f) H locs := hW
        refine W.eq (g2 := F0 m 22 ls [.ref (sa[j]), .ref x]) rfl ?_
        refine W.widen (k := 0) (n := 0) (Nat.le_of_ble_eq_true rfl) (Nat.le_of_ble_eq_true rfl) ?_
        refine gx_cast C hW (gx_pl ((hsd j hjk).choose_spec.choose_spec.choose_spec.1) ((hsd j hjk).choose_spec.choose_spec.choose_spec.2.1)) rfl (tq_4 62 (by decide +kernel) rfl) dX5_verdict_22 ?_
        refine lv_iload_n gX gB dX5_verdict_25 rfl (lv_at hl 2 rfl) ?_
        refine lv_aload_n gX gB dX5_verdict_26 rfl (lv_at hl 3 rfl) ?_
        refine gx_callV (wr := []) (rest := []) C hW sX5_157 (kX5_momentOver l G L f x P F S X N T E dc hx fx bP pa ps hlp hld sa[j] (sd j) (hsd j hjk) w dw hw k) (gx_pl hx fx) rfl rfl ⟨(Nat.le_of_ble_eq_true rfl), (Nat.le_of_ble_eq_true rfl)⟩ hl.1 rfl (Nat.le_of_ble_eq_true rfl) dX5_verdict_27 ⟨(Nat.le_of_ble_eq_true rfl), (Nat.le_of_ble_eq_true rfl)⟩ (fun v9 u9 H locs hp hW => ?_)
        obtain ⟨rfl, hu⟩ := hp
        rw [hu] at hW
        have hW : gx_W G A s (va_pl L f) H locs := hW
        refine W.eq (g2 := F0 m 30 ls [.long (mo_of (sd j).2.1 (sd j).2.2 k dw ps pa.length)]) rfl ?_
        refine W.widen (k := 0) (n := 0) (Nat.le_of_ble_eq_true rfl) (Nat.le_of_ble_eq_true rfl) ?_
        refine lv_lconst (v := 0) gX gB dX5_verdict_30 (by decide) ?_
        refine gx_lc_ge (tgt := 39) C dX5_verdict_31 dX5_verdict_32 (by decide) (fun c31 => ?_) (fun c31 => ?_)
        · refine lv_iinc (v := nI (j + 1)) (lv' := [(3, .int (nI (j + 1))), (0, .ref x), (1, .int k), (2, .ref w)]) gX gB dX5_verdict_39 hl (k := 0) rfl (by exact nI_1 j) (by decide) rfl (fun ls hl => ?_)
          refine lv_goto (tgt := 2) gX gB dX5_verdict_42 (by decide) ?_
          exact ih (j + 1) (by omega) (by omega) (vd_succ hv0 (Int64.not_lt.mpr c31)) _ _ hW ls (lv_sub hl [0, 1, 2, 3] rfl)
        · refine lv_iconst (v := 1) gX gB dX5_verdict_35 (by decide) ?_
          refine lv_iload_n gX gB dX5_verdict_36 rfl (lv_at hl 0 rfl) ?_
          refine lv_iadd gX gB dX5_verdict_37 ?_
          refine gx_topi (show (1 + (nI j)) = nI (j + 1) from (nI_add 1 j).trans (congrArg nI (Nat.add_comm 1 j))) ?_
          exact gx_iret C hr hW (⟨by rw [vd_stay hv0 (Int64.not_le.mp c31) sa.length hjk], rfl⟩) (Nat.le_of_ble_eq_true rfl) (Nat.le_of_ble_eq_true rfl) dX5_verdict_38
      · refine lv_iload_n gX gB dX5_verdict_2 rfl (lv_at hl 0 rfl) ?_
        refine lv_aload_n gX gB dX5_verdict_3 rfl (lv_at hl 1 rfl) ?_
        refine gx_get C hW fX5_19 (gx_pl hx fx) rfl dX5_verdict_4 ?_
        refine gx_callV (wr := []) (rest := [.int (nI j)]) C hW sX5_48 (kL_size l G L f S bS sa hlS) (gx_pl hlS.1 (ls_at.head hlS).choose_spec.choose_spec) rfl rfl ⟨(Nat.le_of_ble_eq_true rfl), (Nat.le_of_ble_eq_true rfl)⟩ hl.1 rfl (Nat.le_of_ble_eq_true rfl) dX5_verdict_7 ⟨(Nat.le_of_ble_eq_true rfl), (Nat.le_of_ble_eq_true rfl)⟩ (fun v9 u9 H locs hp hW => ?_)
        obtain ⟨rfl, hu⟩ := hp
        rw [hu] at hW
        have hW : gx_W G A s (va_pl L f) H locs := hW
        refine W.eq (g2 := F0 m 10 ls [.int (nI sa.length), .int (nI j)]) rfl ?_
        refine W.widen (k := 0) (n := 0) (Nat.le_of_ble_eq_true rfl) (Nat.le_of_ble_eq_true rfl) ?_
        refine lv_icmp_ge (tgt := 45) gX gB dX5_verdict_10 (by decide) (fun _ => ?_) (fun h9 => absurd (show (nI sa.length) ≤ (nI j) from nI_le hjk (by have := hlS.lt; omega)) h9)
        refine lv_iconst (v := 0) gX gB dX5_verdict_45 (by decide) ?_
        exact gx_iret C hr hW (⟨by rw [show sa.length = j by omega, hv0]; rfl, rfl⟩) (Nat.le_of_ble_eq_true rfl) (Nat.le_of_ble_eq_true rfl) dX5_verdict_46
  exact loop (sa.length + 1) 0 (by omega) (Nat.zero_le _) rfl _ _ hW ls (lv_sub hl [0, 1, 2, 3] rfl)
