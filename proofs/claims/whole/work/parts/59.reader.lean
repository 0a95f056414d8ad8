/-! TRIALREADER: digitHere, skip. -/
/-- the digit at place pz, or -1 -/
def dg_v (t : Nat → Nat) (n pz : Nat) : Int32 := if pz < n ∧ 48 ≤ t pz ∧ t pz ≤ 57 then nI (t pz - 48) else -1
theorem dg_1 {t : Nat → Nat} {n pz : Nat} (h : pz < n ∧ 48 ≤ t pz ∧ t pz ≤ 57) : dg_v t n pz = nI (t pz - 48) := if_pos h
theorem dg_0 {t : Nat → Nat} {n pz : Nat} (h : ¬ (pz < n ∧ 48 ≤ t pz ∧ t pz ≤ 57)) : dg_v t n pz = -1 := if_neg h
theorem dg_neg {a : Nat} (h : a < 48) : nI a - 48 < 0 := by
  have : ∀ n : Nat, n < 48 → nI n - 48 < 0 := by decide +kernel
  exact this a h
theorem dg_sub {a : Nat} (h : 48 ≤ a) (h2 : a < 128) : nI a - 48 = nI (a - 48) := by
  have : ∀ n : Nat, n < 128 → 48 ≤ n → nI n - 48 = nI (n - 48) := by decide +kernel
  exact this a h2 h
theorem dg_nn {a : Nat} (h : 48 ≤ a) (h2 : a < 128) : ¬ nI (a - 48) < 0 := nI_pos (by omega)
theorem dg_le {a : Nat} (h : 48 ≤ a) (h2 : a ≤ 57) : ¬ 9 < nI (a - 48) := fun z => absurd ((nI_ltI (a := 9) (b := a - 48) (by decide) (by omega)).mp z) (by omega)
theorem dg_gt {a : Nat} (h : 57 < a) (h2 : a < 128) : 9 < nI (a - 48) := (nI_ltI (a := 9) (b := a - 48) (by decide) (by omega)).mpr (by omega)
theorem tb_at.ch {G : gx_T} {L : List Nat} {f : Nat → va_E} {q b cap n : Nat} {t : Nat → Nat} (h : tb_at G L f q b cap n t) {i : Nat} (hi : i < n) : t i < 128 := by
  obtain ⟨-, -, ml, g, -, -, -, -, -, -, h9⟩ := h
  exact h9 i hi
set_option maxHeartbeats 4000000 in
set_option maxRecDepth 100000 in
theorem kX4_digitHere (l : Launch) (G : gx_T) (L : List Nat) (f : Nat → va_E) (r X q b cap n pz : Nat) (t : Nat → Nat) (mn : Int32) (hr9 : r ∈ L) (fr9 : f r = .inr (9, [.ref X, .ref q, .int (nI pz), .int mn])) (hX : tb_at G L f X b cap n t) (hn2 : n ≤ 200) (hp9 : pz ≤ n) : gx_M l G yX4_digitHere cX4_digitHere 2 (some .int) ({ frames := 4, cells := 0, slots := 0, locals := 88 } : Room) [.ref r] (va_pl L f) (fun v u => v = some (.int (dg_v t n pz)) ∧ u = va_pl L f) := by
  refine gx_start (by decide +kernel) (Nat.le_of_ble_eq_true rfl) ?_
  intro p e s m args below meth c A ls C hr hnm hW hl
  have gX := C.x
  have gB := C.b
  have hl : lv_has ls 2 [(0, .ref r)] := hl
  refine lv_aload_n gX gB dX4_digitHere_0 rfl (lv_at hl 0 rfl) ?_
  rcases Nat.lt_or_ge pz n with hpn | hpn
  · refine gx_get C hW fX4_22 (gx_pl hr9 fr9) rfl dX4_digitHere_1 ?_
    refine lv_aload_n gX gB dX4_digitHere_4 rfl (lv_at hl 0 rfl) ?_
    refine gx_get C hW fX4_9 (gx_pl hr9 fr9) rfl dX4_digitHere_5 ?_
    refine gx_callV (wr := []) (rest := [.int (nI pz)]) C hW sX4_37 (kS_length l G L f X b cap n t hX) (gx_pl hX.1 hX.2.2.choose_spec.choose_spec.1) rfl rfl ⟨(Nat.le_of_ble_eq_true rfl), (Nat.le_of_ble_eq_true rfl)⟩ hl.1 rfl (Nat.le_of_ble_eq_true rfl) dX4_digitHere_8 ⟨(Nat.le_of_ble_eq_true rfl), (Nat.le_of_ble_eq_true rfl)⟩ (fun v9 u9 H locs hp hW => ?_)
    obtain ⟨rfl, hu⟩ := hp
    rw [hu] at hW
    have hW : gx_W G A s (va_pl L f) H locs := hW
    refine W.eq (g2 := F0 m 11 ls [.int (nI n), .int (nI pz)]) rfl ?_
    refine W.widen (k := 0) (n := 0) (Nat.le_of_ble_eq_true rfl) (Nat.le_of_ble_eq_true rfl) ?_
    refine lv_icmp_lt (tgt := 16) gX gB dX4_digitHere_11 (by decide) (fun _ => ?_) (fun h9 => absurd (show (nI pz) < (nI n) from (nI_ltI (by omega) (by omega)).mpr hpn) h9)
    refine lv_aload_n gX gB dX4_digitHere_16 rfl (lv_at hl 0 rfl) ?_
    refine gx_get C hW fX4_9 (gx_pl hr9 fr9) rfl dX4_digitHere_17 ?_
    refine lv_aload_n gX gB dX4_digitHere_20 rfl (lv_at hl 0 rfl) ?_
    refine gx_get C hW fX4_22 (gx_pl hr9 fr9) rfl dX4_digitHere_21 ?_
    refine gx_callV (wr := []) (rest := []) C hW sX4_66 (kS_charAt l G L f X b cap n t hX pz hpn) (gx_pl hX.1 hX.2.2.choose_spec.choose_spec.1) rfl rfl ⟨(Nat.le_of_ble_eq_true rfl), (Nat.le_of_ble_eq_true rfl)⟩ hl.1 rfl (Nat.le_of_ble_eq_true rfl) dX4_digitHere_24 ⟨(Nat.le_of_ble_eq_true rfl), (Nat.le_of_ble_eq_true rfl)⟩ (fun v9 u9 H locs hp hW => ?_)
    obtain ⟨rfl, hu⟩ := hp
    rw [hu] at hW
    have hW : gx_W G A s (va_pl L f) H locs := hW
    refine W.eq (g2 := F0 m 27 ls [.int (nI (t pz))]) rfl ?_
    refine W.widen (k := 0) (n := 0) (Nat.le_of_ble_eq_true rfl) (Nat.le_of_ble_eq_true rfl) ?_
    refine lv_bipush (v := 48) gX gB dX4_digitHere_27 (by decide) ?_
    have h128 := hX.ch hpn
    rcases (by omega : t pz < 48 ∨ (48 ≤ t pz ∧ t pz ≤ 57) ∨ (48 ≤ t pz ∧ 57 < t pz)) with h48 | ⟨h48, h57⟩ | ⟨h48, h57⟩
    · refine lv_isub gX gB dX4_digitHere_29 ?_
      refine lv_istore_n (lv' := [(1, .int ((nI (t pz)) - 48)), (0, .ref r)]) gX gB dX4_digitHere_30 rfl hl (by decide) rfl (fun ls hl => ?_)
      refine lv_iload_n gX gB dX4_digitHere_31 rfl (lv_at hl 0 rfl) ?_
      refine lv_if_lt (tgt := 45) gX gB dX4_digitHere_32 (by decide) (fun _ => ?_) (fun h9 => absurd (show ((nI (t pz)) - 48) < (0 : Int32) from dg_neg h48) h9)
      refine lv_iconst (v := (-1)) gX gB dX4_digitHere_45 (by decide) ?_
      exact gx_iret C hr hW (⟨by rw [dg_0 (fun zz => absurd zz.2.1 (by omega))], rfl⟩) (Nat.le_of_ble_eq_true rfl) (Nat.le_of_ble_eq_true rfl) dX4_digitHere_46
    · refine lv_isub gX gB dX4_digitHere_29 ?_
      refine gx_topi (show ((nI (t pz)) - 48) = nI (t pz - 48) from dg_sub h48 h128) ?_
      refine lv_istore_n (lv' := [(1, .int (nI (t pz - 48))), (0, .ref r)]) gX gB dX4_digitHere_30 rfl hl (by decide) rfl (fun ls hl => ?_)
      refine lv_iload_n gX gB dX4_digitHere_31 rfl (lv_at hl 0 rfl) ?_
      refine lv_if_lt (tgt := 45) gX gB dX4_digitHere_32 (by decide) (fun h9 => absurd (show (nI (t pz - 48)) < (0 : Int32) from h9) (dg_nn h48 h128)) (fun _ => ?_)
      refine lv_iload_n gX gB dX4_digitHere_35 rfl (lv_at hl 0 rfl) ?_
      refine lv_bipush (v := 9) gX gB dX4_digitHere_36 (by decide) ?_
      refine lv_icmp_gt (tgt := 45) gX gB dX4_digitHere_38 (by decide) (fun h9 => absurd (show (9 : Int32) < (nI (t pz - 48)) from h9) (dg_le h48 h57)) (fun _ => ?_)
      refine lv_iload_n gX gB dX4_digitHere_41 rfl (lv_at hl 0 rfl) ?_
      refine lv_goto (tgt := 46) gX gB dX4_digitHere_42 (by decide) ?_
      exact gx_iret C hr hW (⟨by rw [dg_1 ⟨hpn, h48, h57⟩], rfl⟩) (Nat.le_of_ble_eq_true rfl) (Nat.le_of_ble_eq_true rfl) dX4_digitHere_46
    · refine lv_isub gX gB dX4_digitHere_29 ?_
      refine gx_topi (show ((nI (t pz)) - 48) = nI (t pz - 48) from dg_sub h48 h128) ?_
      refine lv_istore_n (lv' := [(1, .int (nI (t pz - 48))), (0, .ref r)]) gX gB dX4_digitHere_30 rfl hl (by decide) rfl (fun ls hl => ?_)
      refine lv_iload_n gX gB dX4_digitHere_31 rfl (lv_at hl 0 rfl) ?_
      refine lv_if_lt (tgt := 45) gX gB dX4_digitHere_32 (by decide) (fun h9 => absurd (show (nI (t pz - 48)) < (0 : Int32) from h9) (dg_nn h48 h128)) (fun _ => ?_)
      refine lv_iload_n gX gB dX4_digitHere_35 rfl (lv_at hl 0 rfl) ?_
      refine lv_bipush (v := 9) gX gB dX4_digitHere_36 (by decide) ?_
      refine lv_icmp_gt (tgt := 45) gX gB dX4_digitHere_38 (by decide) (fun _ => ?_) (fun h9 => absurd (show (9 : Int32) < (nI (t pz - 48)) from dg_gt h57 h128) h9)
      refine lv_iconst (v := (-1)) gX gB dX4_digitHere_45 (by decide) ?_
      exact gx_iret C hr hW (⟨by rw [dg_0 (fun zz => absurd zz.2.2 (by omega))], rfl⟩) (Nat.le_of_ble_eq_true rfl) (Nat.le_of_ble_eq_true rfl) dX4_digitHere_46
  · refine gx_get C hW fX4_22 (gx_pl hr9 fr9) rfl dX4_digitHere_1 ?_
    refine lv_aload_n gX gB dX4_digitHere_4 rfl (lv_at hl 0 rfl) ?_
    refine gx_get C hW fX4_9 (gx_pl hr9 fr9) rfl dX4_digitHere_5 ?_
    refine gx_callV (wr := []) (rest := [.int (nI pz)]) C hW sX4_37 (kS_length l G L f X b cap n t hX) (gx_pl hX.1 hX.2.2.choose_spec.choose_spec.1) rfl rfl ⟨(Nat.le_of_ble_eq_true rfl), (Nat.le_of_ble_eq_true rfl)⟩ hl.1 rfl (Nat.le_of_ble_eq_true rfl) dX4_digitHere_8 ⟨(Nat.le_of_ble_eq_true rfl), (Nat.le_of_ble_eq_true rfl)⟩ (fun v9 u9 H locs hp hW => ?_)
    obtain ⟨rfl, hu⟩ := hp
    rw [hu] at hW
    have hW : gx_W G A s (va_pl L f) H locs := hW
    refine W.eq (g2 := F0 m 11 ls [.int (nI n), .int (nI pz)]) rfl ?_
    refine W.widen (k := 0) (n := 0) (Nat.le_of_ble_eq_true rfl) (Nat.le_of_ble_eq_true rfl) ?_
    refine lv_icmp_lt (tgt := 16) gX gB dX4_digitHere_11 (by decide) (fun h9 => absurd (show (nI pz) < (nI n) from h9) (nI_nlt hpn (by omega))) (fun _ => ?_)
    refine lv_iconst (v := (-1)) gX gB dX4_digitHere_14 (by decide) ?_
    exact gx_iret C hr hW (⟨by rw [dg_0 (fun zz => absurd zz.1 (Nat.not_lt.mpr hpn))], rfl⟩) (Nat.le_of_ble_eq_true rfl) (Nat.le_of_ble_eq_true rfl) dX4_digitHere_15
def sk_p (t : Nat → Nat) (n pz ch : Nat) : Nat := if pz < n ∧ t pz = ch then pz + 1 else pz
set_option maxHeartbeats 4000000 in
set_option maxRecDepth 100000 in
theorem kX4_skip (l : Launch) (G : gx_T) (L : List Nat) (f : Nat → va_E) (r X q b cap n pz : Nat) (t : Nat → Nat) (mn : Int32) (hr9 : r ∈ L) (fr9 : f r = .inr (9, [.ref X, .ref q, .int (nI pz), .int mn])) (hX : tb_at G L f X b cap n t) (hn2 : n ≤ 200) (hp9 : pz ≤ n) (c0 : Int32) (ch : Nat) (hc9 : c0 = nI ch) (hch : ch < 128) : gx_M l G yX4_skip cX4_skip 2 (some .boolean) ({ frames := 4, cells := 0, slots := 0, locals := 88 } : Room) [.ref r, .int c0] (va_pl L f) (fun v u => v = some (.int (if pz < n ∧ t pz = ch then 1 else 0)) ∧ u = va_pl L (va_up f r (.inr (9, [.ref X, .ref q, .int (nI (sk_p t n pz ch)), .int mn])))) := by
  refine gx_start (by decide +kernel) (Nat.le_of_ble_eq_true rfl) ?_
  intro p e s m args below meth c A ls C hr hnm hW hl
  have gX := C.x
  have gB := C.b
  have hl : lv_has ls 2 [(0, .ref r), (1, .int c0)] := hl
  refine lv_aload_n gX gB dX4_skip_0 rfl (lv_at hl 0 rfl) ?_
  rcases Nat.lt_or_ge pz n with hpn | hpn
  · refine gx_get C hW fX4_22 (gx_pl hr9 fr9) rfl dX4_skip_1 ?_
    refine lv_aload_n gX gB dX4_skip_4 rfl (lv_at hl 0 rfl) ?_
    refine gx_get C hW fX4_9 (gx_pl hr9 fr9) rfl dX4_skip_5 ?_
    refine gx_callV (wr := []) (rest := [.int (nI pz)]) C hW sX4_37 (kS_length l G L f X b cap n t hX) (gx_pl hX.1 hX.2.2.choose_spec.choose_spec.1) rfl rfl ⟨(Nat.le_of_ble_eq_true rfl), (Nat.le_of_ble_eq_true rfl)⟩ hl.1 rfl (Nat.le_of_ble_eq_true rfl) dX4_skip_8 ⟨(Nat.le_of_ble_eq_true rfl), (Nat.le_of_ble_eq_true rfl)⟩ (fun v9 u9 H locs hp hW => ?_)
    obtain ⟨rfl, hu⟩ := hp
    rw [hu] at hW
    have hW : gx_W G A s (va_pl L f) H locs := hW
    refine W.eq (g2 := F0 m 11 ls [.int (nI n), .int (nI pz)]) rfl ?_
    refine W.widen (k := 0) (n := 0) (Nat.le_of_ble_eq_true rfl) (Nat.le_of_ble_eq_true rfl) ?_
    refine lv_icmp_ge (tgt := 29) gX gB dX4_skip_11 (by decide) (fun h9 => absurd (show (nI n) ≤ (nI pz) from h9) (Int32.not_le.mpr ((nI_ltI (by omega) (by omega)).mpr hpn))) (fun _ => ?_)
    refine lv_aload_n gX gB dX4_skip_14 rfl (lv_at hl 0 rfl) ?_
    refine gx_get C hW fX4_9 (gx_pl hr9 fr9) rfl dX4_skip_15 ?_
    refine lv_aload_n gX gB dX4_skip_18 rfl (lv_at hl 0 rfl) ?_
    refine gx_get C hW fX4_22 (gx_pl hr9 fr9) rfl dX4_skip_19 ?_
    refine gx_callV (wr := []) (rest := []) C hW sX4_66 (kS_charAt l G L f X b cap n t hX pz hpn) (gx_pl hX.1 hX.2.2.choose_spec.choose_spec.1) rfl rfl ⟨(Nat.le_of_ble_eq_true rfl), (Nat.le_of_ble_eq_true rfl)⟩ hl.1 rfl (Nat.le_of_ble_eq_true rfl) dX4_skip_22 ⟨(Nat.le_of_ble_eq_true rfl), (Nat.le_of_ble_eq_true rfl)⟩ (fun v9 u9 H locs hp hW => ?_)
    obtain ⟨rfl, hu⟩ := hp
    rw [hu] at hW
    have hW : gx_W G A s (va_pl L f) H locs := hW
    refine W.eq (g2 := F0 m 25 ls [.int (nI (t pz))]) rfl ?_
    refine W.widen (k := 0) (n := 0) (Nat.le_of_ble_eq_true rfl) (Nat.le_of_ble_eq_true rfl) ?_
    have h128 := hX.ch hpn
    rcases Classical.em (t pz = ch) with htc | htc
    · refine lv_iload_n gX gB dX4_skip_25 rfl (lv_at hl 1 rfl) ?_
      refine lv_icmp_eq (tgt := 31) gX gB dX4_skip_26 (by decide) (fun _ => ?_) (fun h9 => absurd (show (nI (t pz)) = c0 from by rw [htc, hc9]) h9)
      refine lv_aload_n gX gB dX4_skip_31 rfl (lv_at hl 0 rfl) ?_
      refine lv_dup gX gB dX4_skip_32 rfl ?_
      refine gx_get C hW fX4_22 (gx_pl hr9 fr9) rfl dX4_skip_33 ?_
      refine lv_iconst (v := 1) gX gB dX4_skip_36 (by decide) ?_
      refine lv_iadd gX gB dX4_skip_37 ?_
      refine gx_topi (show ((nI pz) + 1) = nI (pz + 1) from nI_1 pz) ?_
      refine gx_put C hW clX4 fX4_22 hr9 fr9 (Or.inl rfl) rfl rfl (Nat.le_of_ble_eq_true rfl) dX4_skip_38 (fun H locs hW => ?_)
      obtain ⟨f11, hf11⟩ : ∃ zz, zz = va_up f r (.inr (9, [.ref X, .ref q, .int (nI (pz + 1)), .int mn])) := ⟨_, rfl⟩
      have hW : gx_W G A s (va_pl L f11) H locs := by rw [hf11]; exact hW
      have f11_r : f11 r = .inr (9, [.ref X, .ref q, .int (nI (pz + 1)), .int mn]) := by rw [hf11]; exact va_up_self _ _ _
      have f11_X : f11 X = .inr (1, [.ref b, .int 0, .int hX.2.2.choose, .int (nI n)]) := by rw [hf11, va_up_ne _ _ (gx_ne hX.2.2.choose_spec.choose_spec.1 fr9 (by simp))]; exact hX.2.2.choose_spec.choose_spec.1
      refine lv_iconst (v := 1) gX gB dX4_skip_41 (by decide) ?_
      exact gx_zret C hr (by decide) hW (⟨by rw [if_pos ⟨hpn, htc⟩], by rw [sk_p, if_pos ⟨hpn, htc⟩, hf11]⟩) (Nat.le_of_ble_eq_true rfl) (Nat.le_of_ble_eq_true rfl) dX4_skip_42
    · refine lv_iload_n gX gB dX4_skip_25 rfl (lv_at hl 1 rfl) ?_
      refine lv_icmp_eq (tgt := 31) gX gB dX4_skip_26 (by decide) (fun h9 => absurd (show (nI (t pz)) = c0 from h9) (fun zz => htc ((nI_eq (by omega) (by omega)).mp (zz.trans hc9)))) (fun _ => ?_)
      refine lv_iconst (v := 0) gX gB dX4_skip_29 (by decide) ?_
      exact gx_zret C hr (by decide) hW (⟨by rw [if_neg (fun zz => htc zz.2)], by rw [sk_p, if_neg (fun zz => htc zz.2), gx_upE fr9]⟩) (Nat.le_of_ble_eq_true rfl) (Nat.le_of_ble_eq_true rfl) dX4_skip_30
  · refine gx_get C hW fX4_22 (gx_pl hr9 fr9) rfl dX4_skip_1 ?_
    refine lv_aload_n gX gB dX4_skip_4 rfl (lv_at hl 0 rfl) ?_
    refine gx_get C hW fX4_9 (gx_pl hr9 fr9) rfl dX4_skip_5 ?_
    refine gx_callV (wr := []) (rest := [.int (nI pz)]) C hW sX4_37 (kS_length l G L f X b cap n t hX) (gx_pl hX.1 hX.2.2.choose_spec.choose_spec.1) rfl rfl ⟨(Nat.le_of_ble_eq_true rfl), (Nat.le_of_ble_eq_true rfl)⟩ hl.1 rfl (Nat.le_of_ble_eq_true rfl) dX4_skip_8 ⟨(Nat.le_of_ble_eq_true rfl), (Nat.le_of_ble_eq_true rfl)⟩ (fun v9 u9 H locs hp hW => ?_)
    obtain ⟨rfl, hu⟩ := hp
    rw [hu] at hW
    have hW : gx_W G A s (va_pl L f) H locs := hW
    refine W.eq (g2 := F0 m 11 ls [.int (nI n), .int (nI pz)]) rfl ?_
    refine W.widen (k := 0) (n := 0) (Nat.le_of_ble_eq_true rfl) (Nat.le_of_ble_eq_true rfl) ?_
    refine lv_icmp_ge (tgt := 29) gX gB dX4_skip_11 (by decide) (fun _ => ?_) (fun h9 => absurd (show (nI n) ≤ (nI pz) from nI_le hpn (by omega)) h9)
    refine lv_iconst (v := 0) gX gB dX4_skip_29 (by decide) ?_
    exact gx_zret C hr (by decide) hW (⟨by rw [if_neg (fun zz => absurd zz.1 (Nat.not_lt.mpr hpn))], by rw [sk_p, if_neg (fun zz => absurd zz.1 (Nat.not_lt.mpr hpn)), gx_upE fr9]⟩) (Nat.le_of_ble_eq_true rfl) (Nat.le_of_ble_eq_true rfl) dX4_skip_30
