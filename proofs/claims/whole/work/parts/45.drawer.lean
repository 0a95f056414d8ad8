/-! STANDTESTS: drawer. -/
theorem dr_0 {np : Nat} {k : Int32} {o : Int64} (h0 : ¬ k < 0) (h1 : k < nI np) (h2 : in_rng 1 100000 o) : dr_code np k o = 0 := by
  unfold dr_code
  rw [if_neg (fun z => z.elim h0 (fun z => z h1)), if_pos h2]
theorem dr_1 {np : Nat} {k : Int32} {o : Int64} (h : k < 0 ∨ ¬ k < nI np) : dr_code np k o = 1 := by
  unfold dr_code
  rw [if_pos h]
theorem dr_2 {np : Nat} {k : Int32} {o : Int64} (h0 : ¬ k < 0) (h1 : k < nI np) (h2 : ¬ in_rng 1 100000 o) : dr_code np k o = 2 := by
  unfold dr_code
  rw [if_neg (fun z => z.elim h0 (fun z => z h1)), if_neg h2]
set_option maxHeartbeats 4000000 in
set_option maxRecDepth 100000 in
theorem kX5_drawer (l : Launch) (hfl : l.flags = flags0) (G : gx_T) (L : List Nat) (f : Nat → va_E) (x P F S X N T E : Nat) (dc : Int32) (hx : x ∈ L) (fx : f x = .inr (10, [.ref P, .ref F, .ref S, .ref X, .ref N, .ref T, .ref E, .int dc])) (bP : Option Nat) (pa : List Nat) (ps : Nat → ld_T) (hlp : ls_at G L f P bP pa) (hld : ∀ i (h : i < pa.length), ld_is L f pa[i] (ps i)) (k : Int32) (o : Int64) : gx_MX l G yX5_drawer cX5_drawer 5 (some .boolean) ({ frames := 6, cells := 1, slots := 6, locals := 90 } : Room) [.ref x, .int k, .long o] (va_pl L f) (fun v u => dr_code pa.length k o = 0 ∧ ∃ (j : Nat) (hj : j < pa.length), k = nI j ∧ ((v = some (.int 0) ∧ u = va_pl L f ∧ (¬ dc < 8 ∨ ¬ (ps j).2.2.2.2.1 = -1)) ∨ (v = some (.int 1) ∧ dc < 8 ∧ (ps j).2.2.2.2.1 = -1 ∧ ∃ f2 : Nat → va_E, u = va_pl L f2 ∧ f2 pa[j] = .inr (6, [.long ((ps j).1), .long ((ps j).2.1), .long ((ps j).2.2.1), .long ((ps j).2.2.2.1), .int dc, .long o]) ∧ f2 x = .inr (10, [.ref P, .ref F, .ref S, .ref X, .ref N, .ref T, .ref E, .int (dc + 1)]) ∧ ∀ a, a ≠ pa[j] → a ≠ x → f2 a = f a))) (fun Ex u => u = va_pl L f ∧ px2 gx_E3 gx_E2 (dr_code pa.length k o) Ex) := by
  refine gx_startX (by decide +kernel) (Nat.le_of_ble_eq_true rfl) ?_
  intro p e s m args below meth c A ls C hr hno hW hl
  have gX := C.x
  have gB := C.b
  have hl : lv_has ls 5 [(0, .ref x), (1, .int k), (2, .long o)] := hl
  refine lv_iload_n gX gB dX5_drawer_0 rfl (lv_at hl 1 rfl) ?_
  refine lv_if_lt (tgt := 15) gX gB dX5_drawer_1 (by decide) (fun c1 => ?_) (fun c1 => ?_)
  · exact gx_throw (text := "no such part") hfl C hno hW gx_thr3 (by decide +kernel) (tq_4 84 (by decide +kernel) rfl) (tq_1 24 (by decide +kernel) rfl) (tr_4 93 (by decide +kernel)) hl.1 dX5_drawer_15 dX5_drawer_18 dX5_drawer_19 dX5_drawer_21 dX5_drawer_24 (Nat.le_of_ble_eq_true rfl) (Nat.le_of_ble_eq_true rfl) (Nat.le_of_ble_eq_true rfl) (Nat.le_of_ble_eq_true rfl) (⟨rfl, Or.inl ⟨rfl, dr_1 (Or.inl c1)⟩⟩) (Nat.le_of_ble_eq_true rfl) (Nat.le_of_ble_eq_true rfl)
  · refine lv_iload_n gX gB dX5_drawer_4 rfl (lv_at hl 1 rfl) ?_
    refine lv_aload_n gX gB dX5_drawer_5 rfl (lv_at hl 0 rfl) ?_
    refine gx_get C hW fX5_10 (gx_pl hx fx) rfl dX5_drawer_6 ?_
    refine gx_callV (wr := []) (rest := [.int k]) C hW sX5_48 (kL_size l G L f P bP pa hlp) (gx_pl hlp.1 (ls_at.head hlp).choose_spec.choose_spec) rfl rfl ⟨(Nat.le_of_ble_eq_true rfl), (Nat.le_of_ble_eq_true rfl)⟩ hl.1 rfl (Nat.le_of_ble_eq_true rfl) dX5_drawer_9 ⟨(Nat.le_of_ble_eq_true rfl), (Nat.le_of_ble_eq_true rfl)⟩ (fun v9 u9 H locs hp hW => ?_)
    obtain ⟨rfl, hu⟩ := hp
    rw [hu] at hW
    have hW : gx_W G A s (va_pl L f) H locs := hW
    refine W.eq (g2 := F0 m 12 ls [.int (nI pa.length), .int k]) rfl ?_
    refine W.widen (k := 0) (n := 0) (Nat.le_of_ble_eq_true rfl) (Nat.le_of_ble_eq_true rfl) ?_
    refine lv_icmp_lt (tgt := 25) gX gB dX5_drawer_12 (by decide) (fun c12 => ?_) (fun c12 => ?_)
    · refine lv_lload_n gX gB dX5_drawer_25 rfl (lv_at hl 2 rfl) ?_
      refine lv_lconst (v := 1) gX gB dX5_drawer_26 (by decide) ?_
      refine gx_ldc2 (v := 100000) C (tq_3 211 (by decide +kernel) rfl) dX5_drawer_27 ?_
      refine gx_callS (wr := []) (rest := []) C hW sX5_86 (kX5_isWithin l G (va_pl L f) o 1 100000) rfl ⟨(Nat.le_of_ble_eq_true rfl), (Nat.le_of_ble_eq_true rfl)⟩ hl.1 rfl (Nat.le_of_ble_eq_true rfl) dX5_drawer_30 ⟨(Nat.le_of_ble_eq_true rfl), (Nat.le_of_ble_eq_true rfl)⟩ (fun v9 u9 H locs hp hW => ?_)
      obtain ⟨rfl, hu⟩ := hp
      rw [hu] at hW
      have hW : gx_W G A s (va_pl L f) H locs := hW
      refine W.eq (g2 := F0 m 33 ls [.int (gx_b (¬ o < 1 ∧ ¬ 100000 < o))]) rfl ?_
      refine W.widen (k := 0) (n := 0) (Nat.le_of_ble_eq_true rfl) (Nat.le_of_ble_eq_true rfl) ?_
      refine lv_if_ne (tgt := 46) gX gB dX5_drawer_33 (by decide) (fun c33 => ?_) (fun c33 => ?_)
      · refine lv_aload_n gX gB dX5_drawer_46 rfl (lv_at hl 0 rfl) ?_
        refine gx_get C hW fX5_10 (gx_pl hx fx) rfl dX5_drawer_47 ?_
        refine lv_iload_n gX gB dX5_drawer_50 rfl (lv_at hl 1 rfl) ?_
        obtain ⟨j, hj, rfl⟩ := nI_cases k (by have := hlp.lt; omega) (c1) (c12)
        refine gx_callV (wr := []) (rest := []) C hW sX5_95 (kL_get l G L f P bP pa hlp j hj) (gx_pl hlp.1 (ls_at.head hlp).choose_spec.choose_spec) rfl rfl ⟨(Nat.le_of_ble_eq_true rfl), (Nat.le_of_ble_eq_true rfl)⟩ hl.1 rfl (Nat.le_of_ble_eq_true rfl) dX5_drawer_51 ⟨(Nat.le_of_ble_eq_true rfl), (Nat.le_of_ble_eq_true rfl)⟩ (fun v9 u9 H locs hp hW => ?_)
        obtain ⟨rfl, hu⟩ := hp
        rw [hu] at hW
        have hW : gx_W G A s (va_pl L f) H locs := hW
        refine W.eq (g2 := F0 m 54 ls [.ref (pa[j])]) rfl ?_
        refine W.widen (k := 0) (n := 0) (Nat.le_of_ble_eq_true rfl) (Nat.le_of_ble_eq_true rfl) ?_
        refine gx_cast C hW (gx_pl ((hld j hj).1) ((hld j hj).2)) rfl (tq_1 99 (by decide +kernel) rfl) dX5_drawer_54 ?_
        refine lv_astore (lv' := [(4, .ref (pa[j])), (0, .ref x), (1, .int (nI j)), (2, .long o)]) gX gB dX5_drawer_57 hl (by decide) rfl (fun ls hl => ?_)
        refine lv_aload_n gX gB dX5_drawer_59 rfl (lv_at hl 1 rfl) ?_
        refine gx_get C hW fX5_44 (gx_pl hx fx) rfl dX5_drawer_60 ?_
        refine lv_bipush (v := 8) gX gB dX5_drawer_63 (by decide) ?_
        refine lv_icmp_ge (tgt := 77) gX gB dX5_drawer_65 (by decide) (fun c65 => ?_) (fun c65 => ?_)
        · refine lv_iconst (v := 0) gX gB dX5_drawer_77 (by decide) ?_
          refine vx_ret ?_
          exact gx_zret C hr (by decide) hW (⟨dr_0 (c1) (c12) (gx_b1.mp c33), j, hj, rfl, Or.inl ⟨rfl, rfl, Or.inl (Int32.not_lt.mpr c65)⟩⟩) (Nat.le_of_ble_eq_true rfl) (Nat.le_of_ble_eq_true rfl) dX5_drawer_78
        · refine lv_aload gX gB dX5_drawer_68 (lv_at hl 0 rfl) ?_
          refine gx_getN C hW fX5_99n (gx_pl ((hld j hj).1) ((hld j hj).2)) rfl dX5_drawer_70 ?_
          refine lv_iconst (v := (-1)) gX gB dX5_drawer_73 (by decide) ?_
          refine lv_icmp_eq (tgt := 79) gX gB dX5_drawer_74 (by decide) (fun c74 => ?_) (fun c74 => ?_)
          · refine lv_aload gX gB dX5_drawer_79 (lv_at hl 0 rfl) ?_
            refine lv_aload_n gX gB dX5_drawer_81 rfl (lv_at hl 1 rfl) ?_
            refine gx_get C hW fX5_44 (gx_pl hx fx) rfl dX5_drawer_82 ?_
            refine gx_putN C hW clX1 fX5_99n (hld j hj).1 (hld j hj).2 rfl rfl rfl (Nat.le_of_ble_eq_true rfl) dX5_drawer_85 (fun H locs hW => ?_)
            obtain ⟨f11, hf11⟩ : ∃ zz, zz = va_up f pa[j] (.inr (6, [.long ((ps j).1), .long ((ps j).2.1), .long ((ps j).2.2.1), .long ((ps j).2.2.2.1), .int dc, .long ((ps j).2.2.2.2.2)])) := ⟨_, rfl⟩
            have hW : gx_W G A s (va_pl L f11) H locs := by rw [hf11]; exact hW
            have f11_x : f11 x = .inr (10, [.ref P, .ref F, .ref S, .ref X, .ref N, .ref T, .ref E, .int dc]) := by rw [hf11, va_up_ne _ _ (gx_ne fx ((hld j hj).2) (by simp))]; exact fx
            have f11_pa_j_ : f11 pa[j] = .inr (6, [.long ((ps j).1), .long ((ps j).2.1), .long ((ps j).2.2.1), .long ((ps j).2.2.2.1), .int dc, .long ((ps j).2.2.2.2.2)]) := by rw [hf11]; exact va_up_self _ _ _
            refine lv_aload gX gB dX5_drawer_88 (lv_at hl 0 rfl) ?_
            refine lv_lload_n gX gB dX5_drawer_90 rfl (lv_at hl 3 rfl) ?_
            refine gx_putN C hW clX1 fX5_102n (hld j hj).1 f11_pa_j_ rfl rfl rfl (Nat.le_of_ble_eq_true rfl) dX5_drawer_91 (fun H locs hW => ?_)
            obtain ⟨f12, hf12⟩ : ∃ zz, zz = va_up f11 pa[j] (.inr (6, [.long ((ps j).1), .long ((ps j).2.1), .long ((ps j).2.2.1), .long ((ps j).2.2.2.1), .int dc, .long o])) := ⟨_, rfl⟩
            have hW : gx_W G A s (va_pl L f12) H locs := by rw [hf12]; exact hW
            have f12_x : f12 x = .inr (10, [.ref P, .ref F, .ref S, .ref X, .ref N, .ref T, .ref E, .int dc]) := by rw [hf12, va_up_ne _ _ (gx_ne f11_x f11_pa_j_ (by simp))]; exact f11_x
            have f12_pa_j_ : f12 pa[j] = .inr (6, [.long ((ps j).1), .long ((ps j).2.1), .long ((ps j).2.2.1), .long ((ps j).2.2.2.1), .int dc, .long o]) := by rw [hf12]; exact va_up_self _ _ _
            refine lv_aload_n gX gB dX5_drawer_94 rfl (lv_at hl 1 rfl) ?_
            refine lv_dup gX gB dX5_drawer_95 rfl ?_
            refine gx_get C hW fX5_44 (gx_pl hx f12_x) rfl dX5_drawer_96 ?_
            refine lv_iconst (v := 1) gX gB dX5_drawer_99 (by decide) ?_
            refine lv_iadd gX gB dX5_drawer_100 ?_
            refine gx_put C hW clX5 fX5_44 hx f12_x (Or.inl rfl) rfl rfl (Nat.le_of_ble_eq_true rfl) dX5_drawer_101 (fun H locs hW => ?_)
            obtain ⟨f13, hf13⟩ : ∃ zz, zz = va_up f12 x (.inr (10, [.ref P, .ref F, .ref S, .ref X, .ref N, .ref T, .ref E, .int (dc + 1)])) := ⟨_, rfl⟩
            have hW : gx_W G A s (va_pl L f13) H locs := by rw [hf13]; exact hW
            have f13_x : f13 x = .inr (10, [.ref P, .ref F, .ref S, .ref X, .ref N, .ref T, .ref E, .int (dc + 1)]) := by rw [hf13]; exact va_up_self _ _ _
            have f13_pa_j_ : f13 pa[j] = .inr (6, [.long ((ps j).1), .long ((ps j).2.1), .long ((ps j).2.2.1), .long ((ps j).2.2.2.1), .int dc, .long o]) := by rw [hf13, va_up_ne _ _ (gx_ne f12_pa_j_ f12_x (by simp))]; exact f12_pa_j_
            refine lv_iconst (v := 1) gX gB dX5_drawer_104 (by decide) ?_
            refine vx_ret ?_
            exact gx_zret C hr (by decide) hW (⟨dr_0 (c1) (c12) (gx_b1.mp c33), j, hj, rfl, Or.inr ⟨rfl, Int32.not_le.mp c65, c74, f13, rfl, f13_pa_j_, f13_x, fun a k1 k2 => by rw [hf13, va_up_ne _ _ k2, hf12, va_up_ne _ _ k1, hf11, va_up_ne _ _ k1]⟩⟩) (Nat.le_of_ble_eq_true rfl) (Nat.le_of_ble_eq_true rfl) dX5_drawer_105
          · refine lv_iconst (v := 0) gX gB dX5_drawer_77 (by decide) ?_
            refine vx_ret ?_
            exact gx_zret C hr (by decide) hW (⟨dr_0 (c1) (c12) (gx_b1.mp c33), j, hj, rfl, Or.inl ⟨rfl, rfl, Or.inr (c74)⟩⟩) (Nat.le_of_ble_eq_true rfl) (Nat.le_of_ble_eq_true rfl) dX5_drawer_78
      · exact gx_throw (text := "a drawer can't go out so far") hfl C hno hW gx_thr2 (by decide +kernel) (tq_3 215 (by decide +kernel) rfl) (tq_1 15 (by decide +kernel) rfl) (tr_4 97 (by decide +kernel)) hl.1 dX5_drawer_36 dX5_drawer_39 dX5_drawer_40 dX5_drawer_42 dX5_drawer_45 (Nat.le_of_ble_eq_true rfl) (Nat.le_of_ble_eq_true rfl) (Nat.le_of_ble_eq_true rfl) (Nat.le_of_ble_eq_true rfl) (⟨rfl, Or.inr ⟨rfl, dr_2 (c1) (c12) (gx_b0.mp c33)⟩⟩) (Nat.le_of_ble_eq_true rfl) (Nat.le_of_ble_eq_true rfl)
    · exact gx_throw (text := "no such part") hfl C hno hW gx_thr3 (by decide +kernel) (tq_4 84 (by decide +kernel) rfl) (tq_1 24 (by decide +kernel) rfl) (tr_4 93 (by decide +kernel)) hl.1 dX5_drawer_15 dX5_drawer_18 dX5_drawer_19 dX5_drawer_21 dX5_drawer_24 (Nat.le_of_ble_eq_true rfl) (Nat.le_of_ble_eq_true rfl) (Nat.le_of_ble_eq_true rfl) (Nat.le_of_ble_eq_true rfl) (⟨rfl, Or.inl ⟨rfl, dr_1 (Or.inr (c12))⟩⟩) (Nat.le_of_ble_eq_true rfl) (Nat.le_of_ble_eq_true rfl)
