/-! TRIALREADER: readDigits, readSigned. -/
theorem tb_at.up {G : gx_T} {L : List Nat} {f : Nat → va_E} {q b cap n : Nat} {t : Nat → Nat} (h : tb_at G L f q b cap n t) {r : Nat} {vs : List Value} (hr : f r = .inr (9, vs)) (e : va_E) : tb_at G L (va_up f r e) q b cap n t := by
  refine h.kept (fun _ h => h) (va_up_ne _ _ ?_) (va_up_ne _ _ ?_)
  · obtain ⟨-, -, ml, g, h3, h4, -⟩ := h
    exact gx_ne h3 hr (by simp)
  · obtain ⟨-, -, ml, g, h3, h4, -⟩ := h
    exact gx_ne h4 hr (by simp)
theorem dg_ne {t : Nat → Nat} {n p : Nat} (h : p < n ∧ 48 ≤ t p ∧ t p ≤ 57) : ¬ dg_v t n p = -1 := by
  rw [dg_1 h]
  intro z
  have := nI_pos (n := t p - 48) (by omega)
  rw [z] at this
  exact this (by decide)
/-- up to k digits read from p on, v before them: the place behind them, and the number -/
def dr_at (t : Nat → Nat) (n : Nat) : Nat → Nat → Nat → Nat × Nat
  | 0, p, v => (p, v)
  | k + 1, p, v => if p < n ∧ 48 ≤ t p ∧ t p ≤ 57 then dr_at t n k (p + 1) (10 * v + (t p - 48)) else (p, v)
theorem dg_step {t : Nat → Nat} {n k p v : Nat} (hk : k < 5) (h : p < n ∧ 48 ≤ t p ∧ t p ≤ 57) : dr_at t n (5 - k) p v = dr_at t n (5 - (k + 1)) (p + 1) (10 * v + (t p - 48)) := by
  rw [show 5 - k = (5 - (k + 1)) + 1 by omega]
  exact if_pos h
theorem dg_stop {t : Nat → Nat} {n k p v : Nat} (h : ¬ (p < n ∧ 48 ≤ t p ∧ t p ≤ 57)) : dr_at t n k p v = (p, v) := by
  cases k with
  | zero => rfl
  | succ k => exact if_neg h
theorem dr_le (t : Nat → Nat) (n : Nat) : ∀ (k p v : Nat), p ≤ n → (dr_at t n k p v).1 ≤ n := by
  intro k
  induction k with
  | zero => intro p v h; exact h
  | succ k ih =>
    intro p v h
    show (if p < n ∧ 48 ≤ t p ∧ t p ≤ 57 then dr_at t n k (p + 1) (10 * v + (t p - 48)) else (p, v)).1 ≤ n
    split
    · rename_i h9
      exact ih _ _ h9.1
    · exact h
theorem dg_add {t : Nat → Nat} {n p v : Nat} (h : p < n ∧ 48 ≤ t p ∧ t p ≤ 57) : (10 * nI v) + dg_v t n p = nI (10 * v + (t p - 48)) := by
  rw [dg_1 h, ← nI_add]
  congr 1
  exact (Int32.ofNat_mul 10 v).symm
theorem sk_le {t : Nat → Nat} {n p ch : Nat} (h : p ≤ n) : sk_p t n p ch ≤ n := by
  unfold sk_p
  split
  · rename_i h9
    exact h9.1
  · exact h
theorem nar_if {c : Prop} [Decidable c] : narrow .boolean (.int (if c then 1 else 0)) = .int (if c then 1 else 0) := by split <;> rfl
set_option maxHeartbeats 4000000 in
set_option maxRecDepth 100000 in
theorem kX4_readDigits (l : Launch) (G : gx_T) (L : List Nat) (f : Nat → va_E) (r X q b cap n pz : Nat) (t : Nat → Nat) (mn : Int32) (hr9 : r ∈ L) (fr9 : f r = .inr (9, [.ref X, .ref q, .int (nI pz), .int mn])) (hX : tb_at G L f X b cap n t) (hn2 : n ≤ 200) (hp9 : pz ≤ n) : gx_M l G yX4_readDigits cX4_readDigits 3 (some .boolean) ({ frames := 5, cells := 0, slots := 0, locals := 109 } : Room) [.ref r] (va_pl L f) (fun v u => v = some (.int (if pz < (dr_at t n 5 pz 0).1 then 1 else 0)) ∧ u = va_pl L (va_up f r (.inr (9, [.ref X, .ref q, .int (nI (dr_at t n 5 pz 0).1), .int (nI (dr_at t n 5 pz 0).2)])))) := by
  have hXr : X ≠ r := gx_ne hX.2.2.choose_spec.choose_spec.1 fr9 (by simp)
  refine gx_start (by decide +kernel) (Nat.le_of_ble_eq_true rfl) ?_
  intro p e s m args below meth c A ls C hr hnm hW hl
  have gX := C.x
  have gB := C.b
  have hl : lv_has ls 3 [(0, .ref r)] := hl
  refine lv_aload_n gX gB dX4_readDigits_0 rfl (lv_at hl 0 rfl) ?_
  refine lv_iconst (v := 0) gX gB dX4_readDigits_1 (by decide) ?_
  refine gx_put C hW clX4 fX4_26 hr9 fr9 (Or.inl rfl) rfl rfl (Nat.le_of_ble_eq_true rfl) dX4_readDigits_2 (fun H locs hW => ?_)
  obtain ⟨f11, hf11⟩ : ∃ zz, zz = va_up f r (.inr (9, [.ref X, .ref q, .int (nI pz), .int 0])) := ⟨_, rfl⟩
  have hW : gx_W G A s (va_pl L f11) H locs := by rw [hf11]; exact hW
  have f11_r : f11 r = .inr (9, [.ref X, .ref q, .int (nI pz), .int 0]) := by rw [hf11]; exact va_up_self _ _ _
  have f11_X : f11 X = .inr (1, [.ref b, .int 0, .int hX.2.2.choose, .int (nI n)]) := by rw [hf11, va_up_ne _ _ (gx_ne hX.2.2.choose_spec.choose_spec.1 fr9 (by simp))]; exact hX.2.2.choose_spec.choose_spec.1
  rw [hf11] at hW
  have hW : gx_W G A s (va_pl L (va_up f r (.inr (9, [.ref X, .ref q, .int (nI pz), .int 0])))) H locs := hW
  refine lv_iconst (v := 0) gX gB dX4_readDigits_5 (by decide) ?_
  refine lv_istore_n (lv' := [(1, .int 0), (0, .ref r)]) gX gB dX4_readDigits_6 rfl hl (by decide) rfl (fun ls hl => ?_)
  refine lv_aload_n gX gB dX4_readDigits_7 rfl (lv_at hl 1 rfl) ?_
  refine gx_callV (wr := []) (rest := []) C hW sX4_63 (kX4_digitHere l G L (va_up f r (.inr (9, [.ref X, .ref q, .int (nI pz), .int 0]))) r X q b cap n pz t 0 hr9 (va_up_self _ _ _) (hX.up fr9 _) hn2 hp9) (gx_pl hr9 (va_up_self _ _ _)) rfl rfl ⟨(Nat.le_of_ble_eq_true rfl), (Nat.le_of_ble_eq_true rfl)⟩ hl.1 rfl (Nat.le_of_ble_eq_true rfl) dX4_readDigits_8 ⟨(Nat.le_of_ble_eq_true rfl), (Nat.le_of_ble_eq_true rfl)⟩ (fun v9 u9 H locs hp hW => ?_)
  obtain ⟨rfl, hu⟩ := hp
  rw [hu] at hW
  have hW : gx_W G A s (va_pl L (va_up f r (.inr (9, [.ref X, .ref q, .int (nI pz), .int 0])))) H locs := hW
  refine W.eq (g2 := F0 m 11 ls [.int (dg_v t n pz)]) rfl ?_
  refine W.widen (k := 0) (n := 0) (Nat.le_of_ble_eq_true rfl) (Nat.le_of_ble_eq_true rfl) ?_
  refine lv_istore_n (lv' := [(2, .int (dg_v t n pz)), (1, .int 0), (0, .ref r)]) gX gB dX4_readDigits_11 rfl hl (by decide) rfl (fun ls hl => ?_)
  have hl : lv_has ls 3 [(2, .int (dg_v t n pz)), (1, .int (nI 0)), (0, .ref r)] := hl
  have hW : gx_W G A s (va_pl L (va_up f r (.inr (9, [.ref X, .ref q, .int (nI pz), .int (nI 0)])))) H locs := hW
  have loop : ∀ (fu : Nat) (k p1 v : Nat), (5 - k < fu) → (k ≤ 5) → (p1 = pz + k) → (p1 ≤ n) → (dr_at t n (5 - k) p1 v = dr_at t n 5 pz 0) → ∀ (H : Heap) (locs : List Loc), gx_W G A s (va_pl L (va_up f r (.inr (9, [.ref X, .ref q, .int (nI p1), .int (nI v)])))) H locs → ∀ ls : Array Slot, lv_has ls 3 [(1, .int (nI k)), (2, .int (dg_v t n p1)), (0, .ref r)] → W p l e ({ frames := 5, cells := 0, slots := 0, locals := 109 } : Room) s m args below meth c H locs 0 0 (MQ below (gx_Q G A (fun v u => v = some (.int (if pz < (dr_at t n 5 pz 0).1 then 1 else 0)) ∧ u = va_pl L (va_up f r (.inr (9, [.ref X, .ref q, .int (nI (dr_at t n 5 pz 0).1), .int (nI (dr_at t n 5 pz 0).2)]))))) args s (({ frames := 5, cells := 0, slots := 0, locals := 109 } : Room)).cells (({ frames := 5, cells := 0, slots := 0, locals := 109 } : Room)).slots A) (F0 m 12 ls []) := by
    intro fu
    induction fu with
    | zero => intro k p1 v hfu hk hp1 hpn1 hR H locs hW ls hl; exact absurd hfu (Nat.not_lt_zero _)
    | succ fu ih =>
      intro k p1 v hfu hk hp1 hpn1 hR H locs hW ls hl
      rcases (by omega : k = 5 ∨ k < 5) with hk5 | hk5
      rotate_left 1
      rcases Classical.em (p1 < n ∧ 48 ≤ t p1 ∧ t p1 ≤ 57) with hdg | hdg
      · refine lv_iload_n gX gB dX4_readDigits_12 rfl (lv_at hl 0 rfl) ?_
        refine lv_iconst (v := 5) gX gB dX4_readDigits_13 (by decide) ?_
        refine lv_icmp_ge (tgt := 56) gX gB dX4_readDigits_14 (by decide) (fun h9 => absurd (show (5 : Int32) ≤ (nI k) from h9) (fun zz => absurd ((nI_leI (a := 5) (b := k) (by decide) (by omega)).mp zz) (by omega))) (fun _ => ?_)
        refine lv_iload_n gX gB dX4_readDigits_17 rfl (lv_at hl 1 rfl) ?_
        refine lv_iconst (v := (-1)) gX gB dX4_readDigits_18 (by decide) ?_
        refine lv_icmp_eq (tgt := 56) gX gB dX4_readDigits_19 (by decide) (fun h9 => absurd (show (dg_v t n p1) = (-1 : Int32) from h9) (dg_ne hdg)) (fun _ => ?_)
        refine lv_aload_n gX gB dX4_readDigits_22 rfl (lv_at hl 2 rfl) ?_
        refine lv_bipush (v := 10) gX gB dX4_readDigits_23 (by decide) ?_
        refine lv_aload_n gX gB dX4_readDigits_25 rfl (lv_at hl 2 rfl) ?_
        refine gx_get C hW fX4_26 (gx_pl hr9 (va_up_self _ _ _)) rfl dX4_readDigits_26 ?_
        refine lv_imul gX gB dX4_readDigits_29 ?_
        refine lv_iload_n gX gB dX4_readDigits_30 rfl (lv_at hl 1 rfl) ?_
        refine lv_iadd gX gB dX4_readDigits_31 ?_
        refine gx_topi (show ((10 * (nI v)) + (dg_v t n p1)) = nI (10 * v + (t p1 - 48)) from dg_add hdg) ?_
        refine gx_put C hW clX4 fX4_26 hr9 (va_up_self _ _ _) (Or.inl rfl) rfl rfl (Nat.le_of_ble_eq_true rfl) dX4_readDigits_32 (fun H locs hW => ?_)
        obtain ⟨f12, hf12⟩ : ∃ zz, zz = va_up (va_up f r (.inr (9, [.ref X, .ref q, .int (nI p1), .int (nI v)]))) r (.inr (9, [.ref X, .ref q, .int (nI p1), .int (nI (10 * v + (t p1 - 48)))])) := ⟨_, rfl⟩
        have hW : gx_W G A s (va_pl L f12) H locs := by rw [hf12]; exact hW
        have f12_r : f12 r = .inr (9, [.ref X, .ref q, .int (nI p1), .int (nI (10 * v + (t p1 - 48)))]) := by rw [hf12]; exact va_up_self _ _ _
        have f12_X : f12 X = .inr (1, [.ref b, .int 0, .int ((hX.up fr9 (.inr (9, [.ref X, .ref q, .int (nI p1), .int (nI v)]))).2.2.choose), .int (nI n)]) := by rw [hf12, va_up_ne _ _ (hXr)]; exact (hX.up fr9 _).2.2.choose_spec.choose_spec.1
        refine lv_aload_n gX gB dX4_readDigits_35 rfl (lv_at hl 2 rfl) ?_
        refine lv_dup gX gB dX4_readDigits_36 rfl ?_
        refine gx_get C hW fX4_22 (gx_pl hr9 f12_r) rfl dX4_readDigits_37 ?_
        refine lv_iconst (v := 1) gX gB dX4_readDigits_40 (by decide) ?_
        refine lv_iadd gX gB dX4_readDigits_41 ?_
        refine gx_topi (show ((nI p1) + 1) = nI (p1 + 1) from nI_1 p1) ?_
        refine gx_put C hW clX4 fX4_22 hr9 f12_r (Or.inl rfl) rfl rfl (Nat.le_of_ble_eq_true rfl) dX4_readDigits_42 (fun H locs hW => ?_)
        obtain ⟨f13, hf13⟩ : ∃ zz, zz = va_up f12 r (.inr (9, [.ref X, .ref q, .int (nI (p1 + 1)), .int (nI (10 * v + (t p1 - 48)))])) := ⟨_, rfl⟩
        have hW : gx_W G A s (va_pl L f13) H locs := by rw [hf13]; exact hW
        have f13_r : f13 r = .inr (9, [.ref X, .ref q, .int (nI (p1 + 1)), .int (nI (10 * v + (t p1 - 48)))]) := by rw [hf13]; exact va_up_self _ _ _
        have f13_X : f13 X = .inr (1, [.ref b, .int 0, .int ((hX.up fr9 (.inr (9, [.ref X, .ref q, .int (nI p1), .int (nI v)]))).2.2.choose), .int (nI n)]) := by rw [hf13, va_up_ne _ _ (hXr)]; exact f12_X
        refine lv_iinc (v := nI (k + 1)) (lv' := [(1, .int (nI (k + 1))), (2, .int (dg_v t n p1)), (0, .ref r)]) gX gB dX4_readDigits_45 hl (k := 0) rfl (by exact nI_1 k) (by decide) rfl (fun ls hl => ?_)
        refine lv_aload_n gX gB dX4_readDigits_48 rfl (lv_at hl 2 rfl) ?_
        rw [hf13, hf12, bx_uu, bx_uu] at hW
        have hW : gx_W G A s (va_pl L (va_up f r (.inr (9, [.ref X, .ref q, .int (nI (p1 + 1)), .int (nI (10 * v + (t p1 - 48)))])))) H locs := hW
        refine gx_callV (wr := []) (rest := []) C hW sX4_63 (kX4_digitHere l G L (va_up f r (.inr (9, [.ref X, .ref q, .int (nI (p1 + 1)), .int (nI (10 * v + (t p1 - 48)))]))) r X q b cap n (p1 + 1) t (nI (10 * v + (t p1 - 48))) hr9 (va_up_self _ _ _) (hX.up fr9 _) hn2 hdg.1) (gx_pl hr9 (va_up_self _ _ _)) rfl rfl ⟨(Nat.le_of_ble_eq_true rfl), (Nat.le_of_ble_eq_true rfl)⟩ hl.1 rfl (Nat.le_of_ble_eq_true rfl) dX4_readDigits_49 ⟨(Nat.le_of_ble_eq_true rfl), (Nat.le_of_ble_eq_true rfl)⟩ (fun v9 u9 H locs hp hW => ?_)
        obtain ⟨rfl, hu⟩ := hp
        rw [hu] at hW
        have hW : gx_W G A s (va_pl L (va_up f r (.inr (9, [.ref X, .ref q, .int (nI (p1 + 1)), .int (nI (10 * v + (t p1 - 48)))])))) H locs := hW
        refine W.eq (g2 := F0 m 52 ls [.int (dg_v t n (p1 + 1))]) rfl ?_
        refine W.widen (k := 0) (n := 0) (Nat.le_of_ble_eq_true rfl) (Nat.le_of_ble_eq_true rfl) ?_
        refine lv_istore_n (lv' := [(2, .int (dg_v t n (p1 + 1))), (1, .int (nI (k + 1))), (0, .ref r)]) gX gB dX4_readDigits_52 rfl hl (by decide) rfl (fun ls hl => ?_)
        refine lv_goto (tgt := 12) gX gB dX4_readDigits_53 (by decide) ?_
        exact ih (k + 1) (p1 + 1) (10 * v + (t p1 - 48)) (by omega) (by omega) (by omega) (by omega) ((dg_step hk5 hdg).symm.trans hR) _ _ hW ls (lv_sub hl [1, 0, 2] rfl)
      · have hE : dr_at t n 5 pz 0 = (p1, v) := hR.symm.trans (dg_stop hdg)
        refine lv_iload_n gX gB dX4_readDigits_12 rfl (lv_at hl 0 rfl) ?_
        refine lv_iconst (v := 5) gX gB dX4_readDigits_13 (by decide) ?_
        refine lv_icmp_ge (tgt := 56) gX gB dX4_readDigits_14 (by decide) (fun h9 => absurd (show (5 : Int32) ≤ (nI k) from h9) (fun zz => absurd ((nI_leI (a := 5) (b := k) (by decide) (by omega)).mp zz) (by omega))) (fun _ => ?_)
        refine lv_iload_n gX gB dX4_readDigits_17 rfl (lv_at hl 1 rfl) ?_
        refine lv_iconst (v := (-1)) gX gB dX4_readDigits_18 (by decide) ?_
        refine lv_icmp_eq (tgt := 56) gX gB dX4_readDigits_19 (by decide) (fun _ => ?_) (fun h9 => absurd (show (dg_v t n p1) = (-1 : Int32) from dg_0 hdg) h9)
        rcases (by omega : k = 0 ∨ 0 < k) with hk0 | hk0
        · refine lv_iload_n gX gB dX4_readDigits_56 rfl (lv_at hl 0 rfl) ?_
          refine lv_if_le (tgt := 64) gX gB dX4_readDigits_57 (by decide) (fun _ => ?_) (fun h9 => absurd (show (nI k) ≤ (0 : Int32) from by rw [hk0]; decide) h9)
          refine lv_iconst (v := 0) gX gB dX4_readDigits_64 (by decide) ?_
          exact gx_zret C hr (by decide) hW (⟨by rw [hE, if_neg (show ¬ pz < (p1, v).1 from (by omega : ¬ pz < p1))], by rw [hE]⟩) (Nat.le_of_ble_eq_true rfl) (Nat.le_of_ble_eq_true rfl) dX4_readDigits_65
        · refine lv_iload_n gX gB dX4_readDigits_56 rfl (lv_at hl 0 rfl) ?_
          refine lv_if_le (tgt := 64) gX gB dX4_readDigits_57 (by decide) (fun h9 => absurd (show (nI k) ≤ (0 : Int32) from h9) (fun zz => absurd ((nI_leI (a := k) (b := 0) (by omega) (by decide)).mp zz) (by omega))) (fun _ => ?_)
          refine lv_iconst (v := 1) gX gB dX4_readDigits_60 (by decide) ?_
          refine lv_goto (tgt := 65) gX gB dX4_readDigits_61 (by decide) ?_
          exact gx_zret C hr (by decide) hW (⟨by rw [hE, if_pos (show pz < (p1, v).1 from (by omega : pz < p1))], by rw [hE]⟩) (Nat.le_of_ble_eq_true rfl) (Nat.le_of_ble_eq_true rfl) dX4_readDigits_65
      · have hE : dr_at t n 5 pz 0 = (p1, v) := hR.symm.trans (by rw [show 5 - k = 0 by omega]; rfl)
        refine lv_iload_n gX gB dX4_readDigits_12 rfl (lv_at hl 0 rfl) ?_
        refine lv_iconst (v := 5) gX gB dX4_readDigits_13 (by decide) ?_
        refine lv_icmp_ge (tgt := 56) gX gB dX4_readDigits_14 (by decide) (fun _ => ?_) (fun h9 => absurd (show (5 : Int32) ≤ (nI k) from (nI_leI (a := 5) (b := k) (by decide) (by omega)).mpr (by omega)) h9)
        rcases (by omega : k = 0 ∨ 0 < k) with hk0 | hk0
        · refine lv_iload_n gX gB dX4_readDigits_56 rfl (lv_at hl 0 rfl) ?_
          refine lv_if_le (tgt := 64) gX gB dX4_readDigits_57 (by decide) (fun _ => ?_) (fun h9 => absurd (show (nI k) ≤ (0 : Int32) from by rw [hk0]; decide) h9)
          refine lv_iconst (v := 0) gX gB dX4_readDigits_64 (by decide) ?_
          exact gx_zret C hr (by decide) hW (⟨by rw [hE, if_neg (show ¬ pz < (p1, v).1 from (by omega : ¬ pz < p1))], by rw [hE]⟩) (Nat.le_of_ble_eq_true rfl) (Nat.le_of_ble_eq_true rfl) dX4_readDigits_65
        · refine lv_iload_n gX gB dX4_readDigits_56 rfl (lv_at hl 0 rfl) ?_
          refine lv_if_le (tgt := 64) gX gB dX4_readDigits_57 (by decide) (fun h9 => absurd (show (nI k) ≤ (0 : Int32) from h9) (fun zz => absurd ((nI_leI (a := k) (b := 0) (by omega) (by decide)).mp zz) (by omega))) (fun _ => ?_)
          refine lv_iconst (v := 1) gX gB dX4_readDigits_60 (by decide) ?_
          refine lv_goto (tgt := 65) gX gB dX4_readDigits_61 (by decide) ?_
          exact gx_zret C hr (by decide) hW (⟨by rw [hE, if_pos (show pz < (p1, v).1 from (by omega : pz < p1))], by rw [hE]⟩) (Nat.le_of_ble_eq_true rfl) (Nat.le_of_ble_eq_true rfl) dX4_readDigits_65
  exact loop 6 0 pz 0 (by omega) (by omega) (by omega) hp9 rfl _ _ hW ls (lv_sub hl [1, 0, 2] rfl)
abbrev sg_q (t : Nat → Nat) (n p : Nat) : Nat := sk_p t n p 45
abbrev sg_e (t : Nat → Nat) (n p : Nat) : Nat × Nat := dr_at t n 5 (sg_q t n p) 0
def sg_v (t : Nat → Nat) (n p : Nat) : Int32 := if p < n ∧ t p = 45 then -nI (sg_e t n p).2 else nI (sg_e t n p).2
set_option maxHeartbeats 4000000 in
set_option maxRecDepth 100000 in
theorem kX4_readSigned (l : Launch) (G : gx_T) (L : List Nat) (f : Nat → va_E) (r X q b cap n pz : Nat) (t : Nat → Nat) (mn : Int32) (hr9 : r ∈ L) (fr9 : f r = .inr (9, [.ref X, .ref q, .int (nI pz), .int mn])) (hX : tb_at G L f X b cap n t) (hn2 : n ≤ 200) (hp9 : pz ≤ n) : gx_M l G yX4_readSigned cX4_readSigned 3 (some .boolean) ({ frames := 6, cells := 0, slots := 0, locals := 131 } : Room) [.ref r] (va_pl L f) (fun v u => v = some (.int (if sg_q t n pz < (sg_e t n pz).1 then 1 else 0)) ∧ u = va_pl L (va_up f r (.inr (9, [.ref X, .ref q, .int (nI (sg_e t n pz).1), .int (sg_v t n pz)])))) := by
  have hXr : X ≠ r := gx_ne hX.2.2.choose_spec.choose_spec.1 fr9 (by simp)
  refine gx_start (by decide +kernel) (Nat.le_of_ble_eq_true rfl) ?_
  intro p e s m args below meth c A ls C hr hnm hW hl
  have gX := C.x
  have gB := C.b
  have hl : lv_has ls 3 [(0, .ref r)] := hl
  refine lv_aload_n gX gB dX4_readSigned_0 rfl (lv_at hl 0 rfl) ?_
  refine lv_bipush (v := 45) gX gB dX4_readSigned_1 (by decide) ?_
  refine gx_callV (wr := []) (rest := []) C hW sX4_29 (kX4_skip l G L f r X q b cap n pz t mn hr9 fr9 hX hn2 hp9 45 45 rfl (by decide)) (gx_pl hr9 fr9) rfl rfl ⟨(Nat.le_of_ble_eq_true rfl), (Nat.le_of_ble_eq_true rfl)⟩ hl.1 rfl (Nat.le_of_ble_eq_true rfl) dX4_readSigned_3 ⟨(Nat.le_of_ble_eq_true rfl), (Nat.le_of_ble_eq_true rfl)⟩ (fun v9 u9 H locs hp hW => ?_)
  obtain ⟨rfl, hu⟩ := hp
  rw [hu] at hW
  have hW : gx_W G A s (va_pl L (va_up f r (.inr (9, [.ref X, .ref q, .int (nI (sg_q t n pz)), .int mn])))) H locs := hW
  refine W.eq (g2 := F0 m 6 ls [.int (if pz < n ∧ t pz = 45 then 1 else 0)]) rfl ?_
  refine W.widen (k := 0) (n := 0) (Nat.le_of_ble_eq_true rfl) (Nat.le_of_ble_eq_true rfl) ?_
  refine lv_istore_n (lv' := [(1, .int (if pz < n ∧ t pz = 45 then 1 else 0)), (0, .ref r)]) gX gB dX4_readSigned_6 rfl hl (by decide) rfl (fun ls hl => ?_)
  refine lv_aload_n gX gB dX4_readSigned_7 rfl (lv_at hl 1 rfl) ?_
  refine gx_callV (wr := []) (rest := []) C hW sX4_46 (kX4_readDigits l G L (va_up f r (.inr (9, [.ref X, .ref q, .int (nI (sg_q t n pz)), .int mn]))) r X q b cap n (sg_q t n pz) t mn hr9 (va_up_self _ _ _) (hX.up fr9 _) hn2 (sk_le hp9)) (gx_pl hr9 (va_up_self _ _ _)) rfl rfl ⟨(Nat.le_of_ble_eq_true rfl), (Nat.le_of_ble_eq_true rfl)⟩ hl.1 rfl (Nat.le_of_ble_eq_true rfl) dX4_readSigned_8 ⟨(Nat.le_of_ble_eq_true rfl), (Nat.le_of_ble_eq_true rfl)⟩ (fun v9 u9 H locs hp hW => ?_)
  obtain ⟨rfl, hu⟩ := hp
  rw [hu] at hW
  have hW : gx_W G A s (va_pl L (va_up (va_up f r (.inr (9, [.ref X, .ref q, .int (nI (sg_q t n pz)), .int mn]))) r (.inr (9, [.ref X, .ref q, .int (nI (sg_e t n pz).1), .int (nI (sg_e t n pz).2)])))) H locs := hW
  refine W.eq (g2 := F0 m 11 ls [.int (if (sg_q t n pz) < (sg_e t n pz).1 then 1 else 0)]) rfl ?_
  refine W.widen (k := 0) (n := 0) (Nat.le_of_ble_eq_true rfl) (Nat.le_of_ble_eq_true rfl) ?_
  rw [bx_uu] at hW
  have hW : gx_W G A s (va_pl L (va_up f r (.inr (9, [.ref X, .ref q, .int (nI (sg_e t n pz).1), .int (nI (sg_e t n pz).2)])))) H locs := hW
  refine lv_istore_n (lv' := [(2, .int (if (sg_q t n pz) < (sg_e t n pz).1 then 1 else 0)), (1, .int (if pz < n ∧ t pz = 45 then 1 else 0)), (0, .ref r)]) gX gB dX4_readSigned_11 rfl hl (by decide) rfl (fun ls hl => ?_)
  rcases Classical.em (pz < n ∧ t pz = 45) with hlt | hlt
  · refine lv_iload_n gX gB dX4_readSigned_12 rfl (lv_at hl 1 rfl) ?_
    refine lv_if_eq (tgt := 25) gX gB dX4_readSigned_13 (by decide) (fun h9 => absurd (show (if pz < n ∧ t pz = 45 then 1 else 0) = (0 : Int32) from h9) (by rw [if_pos hlt]; decide)) (fun _ => ?_)
    refine lv_aload_n gX gB dX4_readSigned_16 rfl (lv_at hl 2 rfl) ?_
    refine lv_aload_n gX gB dX4_readSigned_17 rfl (lv_at hl 2 rfl) ?_
    refine gx_get C hW fX4_26 (gx_pl hr9 (va_up_self _ _ _)) rfl dX4_readSigned_18 ?_
    refine lv_ineg gX gB dX4_readSigned_21 ?_
    refine gx_put C hW clX4 fX4_26 hr9 (va_up_self _ _ _) (Or.inl rfl) rfl rfl (Nat.le_of_ble_eq_true rfl) dX4_readSigned_22 (fun H locs hW => ?_)
    obtain ⟨f14, hf14⟩ : ∃ zz, zz = va_up (va_up f r (.inr (9, [.ref X, .ref q, .int (nI (sg_e t n pz).1), .int (nI (sg_e t n pz).2)]))) r (.inr (9, [.ref X, .ref q, .int (nI (sg_e t n pz).1), .int (-(nI (sg_e t n pz).2))])) := ⟨_, rfl⟩
    have hW : gx_W G A s (va_pl L f14) H locs := by rw [hf14]; exact hW
    have f14_r : f14 r = .inr (9, [.ref X, .ref q, .int (nI (sg_e t n pz).1), .int (-(nI (sg_e t n pz).2))]) := by rw [hf14]; exact va_up_self _ _ _
    have f14_X : f14 X = .inr (1, [.ref b, .int 0, .int ((hX.up fr9 (.inr (9, [.ref X, .ref q, .int (nI (sg_e t n pz).1), .int (nI (sg_e t n pz).2)]))).2.2.choose), .int (nI n)]) := by rw [hf14, va_up_ne _ _ (hXr)]; exact (hX.up fr9 _).2.2.choose_spec.choose_spec.1
    refine lv_iload_n gX gB dX4_readSigned_25 rfl (lv_at hl 0 rfl) ?_
    exact gx_zret C hr (nar_if) hW (⟨rfl, by rw [sg_v, if_pos hlt, hf14, bx_uu]⟩) (Nat.le_of_ble_eq_true rfl) (Nat.le_of_ble_eq_true rfl) dX4_readSigned_26
  · refine lv_iload_n gX gB dX4_readSigned_12 rfl (lv_at hl 1 rfl) ?_
    refine lv_if_eq (tgt := 25) gX gB dX4_readSigned_13 (by decide) (fun _ => ?_) (fun h9 => absurd (show (if pz < n ∧ t pz = 45 then 1 else 0) = (0 : Int32) from if_neg hlt) h9)
    refine lv_iload_n gX gB dX4_readSigned_25 rfl (lv_at hl 0 rfl) ?_
    exact gx_zret C hr (nar_if) hW (⟨rfl, by rw [sg_v, if_neg hlt]⟩) (Nat.le_of_ble_eq_true rfl) (Nat.le_of_ble_eq_true rfl) dX4_readSigned_26
