/-! STANDTESTS: unit, rules. -/
/-- a character that the text takes -/
abbrev un_ok (n : Nat) (u : Int32) : Prop := ¬ u < 32 ∧ ¬ 126 < u ∧ n < 200
theorem un_ch {u : Int32} (h1 : ¬ u < 32) (h2 : ¬ 126 < u) : ∃ ch : Nat, ch < 128 ∧ u = nI ch := by
  have h3 : ¬ u < 0 := fun z => h1 (Int32.lt_trans z (by decide))
  obtain ⟨j, hj, e⟩ := nI_of2 (M := 126) (n := 126) (by decide) h3 (Int32.not_lt.mp h2)
  exact ⟨j, by omega, e⟩
set_option maxHeartbeats 4000000 in
set_option maxRecDepth 100000 in
theorem kX5_unit (l : Launch) (G : gx_T) (L : List Nat) (f : Nat → va_E) (x P F S X N T E : Nat) (dc : Int32) (hx : x ∈ L) (fx : f x = .inr (10, [.ref P, .ref F, .ref S, .ref X, .ref N, .ref T, .ref E, .int dc])) (b cap n : Nat) (t : Nat → Nat) (hX : tb_at G L f X b cap n t) (hn2 : n ≤ 200) (u0 : Int32) : gx_M l G yX5_unit cX5_unit 2 (some .boolean) ({ frames := 6, cells := 1, slots := 400, locals := 152 } : Room) [.ref x, .int u0] (va_pl L f) (fun v u => (v = some (.int 0) ∧ ¬ un_ok n u0 ∧ u = va_pl L f) ∨ (v = some (.int 1) ∧ un_ok n u0 ∧ ∃ ch : Nat, ch < 128 ∧ u0 = nI ch ∧ ∃ (L1 : List Nat) (f1 : Nat → va_E) (b1 cap1 : Nat), u = va_pl L1 f1 ∧ tb_at G L1 f1 X b1 cap1 (n + 1) (tx_snoc t n ch) ∧ (∀ a ∈ L, a ∈ L1) ∧ (b1 = b ∨ b1 ∉ L) ∧ ∀ a ∈ L, a ≠ X → a ≠ b → f1 a = f a)) := by
  refine gx_start (by decide +kernel) (Nat.le_of_ble_eq_true rfl) ?_
  intro p e s m args below meth c A ls C hr hnm hW hl
  have gX := C.x
  have gB := C.b
  have hl : lv_has ls 2 [(0, .ref x), (1, .int u0)] := hl
  refine lv_iload_n gX gB dX5_unit_0 rfl (lv_at hl 1 rfl) ?_
  rcases (by rcases Classical.em (u0 < 32) with h | h; exact Or.inl h; rcases Classical.em (126 < u0) with h2 | h2; exact Or.inr (Or.inl ⟨h, h2⟩); rcases Nat.lt_or_ge n 200 with h3 | h3; exact Or.inr (Or.inr (Or.inr ⟨h, h2, h3⟩)); exact Or.inr (Or.inr (Or.inl ⟨h, h2, h3⟩)) : u0 < 32 ∨ (¬ u0 < 32 ∧ 126 < u0) ∨ (¬ u0 < 32 ∧ ¬ 126 < u0 ∧ 200 ≤ n) ∨ (¬ u0 < 32 ∧ ¬ 126 < u0 ∧ n < 200)) with h32 | ⟨h32, h126⟩ | ⟨h32, h126, h200⟩ | ⟨h32, h126, h200⟩
  · refine lv_bipush (v := 32) gX gB dX5_unit_1 (by decide) ?_
    refine lv_icmp_lt (tgt := 25) gX gB dX5_unit_3 (by decide) (fun _ => ?_) (fun h9 => absurd (show u0 < (32 : Int32) from h32) h9)
    refine lv_iconst (v := 0) gX gB dX5_unit_25 (by decide) ?_
    exact gx_zret C hr (by decide) hW (Or.inl ⟨rfl, fun zz => zz.1 h32, rfl⟩) (Nat.le_of_ble_eq_true rfl) (Nat.le_of_ble_eq_true rfl) dX5_unit_26
  · refine lv_bipush (v := 32) gX gB dX5_unit_1 (by decide) ?_
    refine lv_icmp_lt (tgt := 25) gX gB dX5_unit_3 (by decide) (fun h9 => absurd (show u0 < (32 : Int32) from h9) (h32)) (fun _ => ?_)
    refine lv_iload_n gX gB dX5_unit_6 rfl (lv_at hl 1 rfl) ?_
    refine lv_bipush (v := 126) gX gB dX5_unit_7 (by decide) ?_
    refine lv_icmp_gt (tgt := 25) gX gB dX5_unit_9 (by decide) (fun _ => ?_) (fun h9 => absurd (show (126 : Int32) < u0 from h126) h9)
    refine lv_iconst (v := 0) gX gB dX5_unit_25 (by decide) ?_
    exact gx_zret C hr (by decide) hW (Or.inl ⟨rfl, fun zz => zz.2.1 h126, rfl⟩) (Nat.le_of_ble_eq_true rfl) (Nat.le_of_ble_eq_true rfl) dX5_unit_26
  · refine lv_bipush (v := 32) gX gB dX5_unit_1 (by decide) ?_
    refine lv_icmp_lt (tgt := 25) gX gB dX5_unit_3 (by decide) (fun h9 => absurd (show u0 < (32 : Int32) from h9) (h32)) (fun _ => ?_)
    refine lv_iload_n gX gB dX5_unit_6 rfl (lv_at hl 1 rfl) ?_
    refine lv_bipush (v := 126) gX gB dX5_unit_7 (by decide) ?_
    refine lv_icmp_gt (tgt := 25) gX gB dX5_unit_9 (by decide) (fun h9 => absurd (show (126 : Int32) < u0 from h9) (h126)) (fun _ => ?_)
    refine lv_aload_n gX gB dX5_unit_12 rfl (lv_at hl 0 rfl) ?_
    refine gx_get C hW fX5_25 (gx_pl hx fx) rfl dX5_unit_13 ?_
    refine gx_callV (wr := []) (rest := []) C hW sX5_161 (kS_length l G L f X b cap n t hX) (gx_pl hX.1 hX.2.2.choose_spec.choose_spec.1) rfl rfl ⟨(Nat.le_of_ble_eq_true rfl), (Nat.le_of_ble_eq_true rfl)⟩ hl.1 rfl (Nat.le_of_ble_eq_true rfl) dX5_unit_16 ⟨(Nat.le_of_ble_eq_true rfl), (Nat.le_of_ble_eq_true rfl)⟩ (fun v9 u9 H locs hp hW => ?_)
    obtain ⟨rfl, hu⟩ := hp
    rw [hu] at hW
    have hW : gx_W G A s (va_pl L f) H locs := hW
    refine W.eq (g2 := F0 m 19 ls [.int (nI n)]) rfl ?_
    refine W.widen (k := 0) (n := 0) (Nat.le_of_ble_eq_true rfl) (Nat.le_of_ble_eq_true rfl) ?_
    refine lv_sipush (v := 200) gX gB dX5_unit_19 (by decide) ?_
    refine lv_icmp_lt (tgt := 27) gX gB dX5_unit_22 (by decide) (fun h9 => absurd (show (nI n) < (200 : Int32) from h9) (nI_nlt (a := n) (b := 200) h200 (by omega))) (fun _ => ?_)
    refine lv_iconst (v := 0) gX gB dX5_unit_25 (by decide) ?_
    exact gx_zret C hr (by decide) hW (Or.inl ⟨rfl, fun zz => absurd zz.2.2 (by omega), rfl⟩) (Nat.le_of_ble_eq_true rfl) (Nat.le_of_ble_eq_true rfl) dX5_unit_26
  · obtain ⟨ch, hch, hu0⟩ := un_ch h32 h126
    refine lv_bipush (v := 32) gX gB dX5_unit_1 (by decide) ?_
    refine lv_icmp_lt (tgt := 25) gX gB dX5_unit_3 (by decide) (fun h9 => absurd (show u0 < (32 : Int32) from h9) (h32)) (fun _ => ?_)
    refine lv_iload_n gX gB dX5_unit_6 rfl (lv_at hl 1 rfl) ?_
    refine lv_bipush (v := 126) gX gB dX5_unit_7 (by decide) ?_
    refine lv_icmp_gt (tgt := 25) gX gB dX5_unit_9 (by decide) (fun h9 => absurd (show (126 : Int32) < u0 from h9) (h126)) (fun _ => ?_)
    refine lv_aload_n gX gB dX5_unit_12 rfl (lv_at hl 0 rfl) ?_
    refine gx_get C hW fX5_25 (gx_pl hx fx) rfl dX5_unit_13 ?_
    refine gx_callV (wr := []) (rest := []) C hW sX5_161 (kS_length l G L f X b cap n t hX) (gx_pl hX.1 hX.2.2.choose_spec.choose_spec.1) rfl rfl ⟨(Nat.le_of_ble_eq_true rfl), (Nat.le_of_ble_eq_true rfl)⟩ hl.1 rfl (Nat.le_of_ble_eq_true rfl) dX5_unit_16 ⟨(Nat.le_of_ble_eq_true rfl), (Nat.le_of_ble_eq_true rfl)⟩ (fun v9 u9 H locs hp hW => ?_)
    obtain ⟨rfl, hu⟩ := hp
    rw [hu] at hW
    have hW : gx_W G A s (va_pl L f) H locs := hW
    refine W.eq (g2 := F0 m 19 ls [.int (nI n)]) rfl ?_
    refine W.widen (k := 0) (n := 0) (Nat.le_of_ble_eq_true rfl) (Nat.le_of_ble_eq_true rfl) ?_
    refine lv_sipush (v := 200) gX gB dX5_unit_19 (by decide) ?_
    refine lv_icmp_lt (tgt := 27) gX gB dX5_unit_22 (by decide) (fun _ => ?_) (fun h9 => absurd (show (nI n) < (200 : Int32) from (nI_ltI (a := n) (b := 200) (by omega) (by decide)).mpr h200) h9)
    refine lv_aload_n gX gB dX5_unit_27 rfl (lv_at hl 0 rfl) ?_
    refine gx_get C hW fX5_25 (gx_pl hx fx) rfl dX5_unit_28 ?_
    refine lv_iload_n gX gB dX5_unit_31 rfl (lv_at hl 1 rfl) ?_
    refine lv_i2c gX gB dX5_unit_32 rfl ?_
    refine gx_topi (show ((u0.toUInt32 % 65536).toInt32) = nI ch from by rw [hu0]; exact i2c_nI hch) ?_
    refine gx_callV (wr := []) (rest := []) C hW sX5_164 (kS_append l G L f X b cap n t hX h200 ch hch) (gx_pl hX.1 hX.2.2.choose_spec.choose_spec.1) rfl rfl ⟨(Nat.le_of_ble_eq_true rfl), (Nat.le_of_ble_eq_true rfl)⟩ hl.1 rfl (Nat.le_of_ble_eq_true rfl) dX5_unit_33 ⟨(Nat.le_of_ble_eq_true rfl), (Nat.le_of_ble_eq_true rfl)⟩ (fun v9 u9 H locs hp hW => ?_)
    obtain ⟨rfl, hap⟩ := hp
    have hW : gx_W G A s (u9) H locs := hW
    refine W.eq (g2 := F0 m 36 ls [.ref X]) rfl ?_
    refine W.widen (k := 1) (n := 400) (Nat.le_of_ble_eq_true rfl) (Nat.le_of_ble_eq_true rfl) ?_
    refine lv_pop gX gB dX5_unit_36 rfl ?_
    refine lv_iconst (v := 1) gX gB dX5_unit_37 (by decide) ?_
    exact gx_zret C hr (by decide) hW (Or.inr ⟨rfl, ⟨h32, h126, h200⟩, ch, hch, hu0, hap⟩) (Nat.le_of_ble_eq_true rfl) (Nat.le_of_ble_eq_true rfl) dX5_unit_38
set_option maxHeartbeats 4000000 in
set_option maxRecDepth 100000 in
theorem kX5_rules (l : Launch) (G : gx_T) (L : List Nat) (f : Nat → va_E) (x P F S X N T E : Nat) (dc : Int32) (hx : x ∈ L) (fx : f x = .inr (10, [.ref P, .ref F, .ref S, .ref X, .ref N, .ref T, .ref E, .int dc])) (b cap n : Nat) (t : Nat → Nat) (hX : tb_at G L f X b cap n t) (hn2 : n ≤ 200) : gx_M l G yX5_rules cX5_rules 3 (some .int) ({ frames := 9, cells := 41, slots := 800, locals := 251 } : Room) [.ref x] (va_pl L f) (fun v u => (∃ pq : Nat, ra_at t n 12 0 0 [] = .inl pq ∧ pq ≤ n ∧ v = some (.int (-1 - nI pq)) ∧ ∃ (L1 : List Nat) (f1 : Nat → va_E), u = va_pl L1 f1 ∧ tb_at G L1 f1 X b cap 0 t ∧ (∀ a ∈ L, a ∈ L1) ∧ ∀ a ∈ L, a ≠ X → f1 a = f a) ∨ (∃ (L1 : List Nat) (f1 : Nat → va_E) (q : Nat) (bq : Option Nat) (ta : List Nat) (ds : List rt_T), ra_at t n 12 0 0 [] = .inr ds ∧ v = some (.int (nI ds.length)) ∧ u = va_pl L1 f1 ∧ tb_at G L1 f1 X b cap 0 t ∧ f1 x = .inr (10, [.ref P, .ref F, .ref S, .ref X, .ref N, .ref q, .ref E, .int dc]) ∧ ls_at G L1 f1 q bq ta ∧ q ∉ L ∧ (∀ b9, bq = some b9 → b9 ∉ L) ∧ ta.length = ds.length ∧ (∀ j (h : j < ta.length), tr_new L L1 f1 ta[j] (tr_d (ds.getD j (0, 0, 0, 0)))) ∧ (∀ a ∈ L, a ∈ L1) ∧ ∀ a ∈ L, a ≠ X → a ≠ x → f1 a = f a)) := by
  refine gx_start (by decide +kernel) (Nat.le_of_ble_eq_true rfl) ?_
  intro p e s m args below meth c A ls C hr hnm hW hl
  have gX := C.x
  have gB := C.b
  have hl : lv_has ls 3 [(0, .ref x)] := hl
  refine gx_new (ci := 9) C hW clX4 inX4 rfl (tq_2 24 (by decide +kernel) rfl) (tq_2 25 (by decide +kernel) rfl) (tq_1 26 (by decide +kernel) rfl) dfX4 (Nat.le_of_ble_eq_true rfl) (Nat.le_of_ble_eq_true rfl) dX5_rules_0 (fun r H hr hW => ?_)
  refine W.widen (k := 1) (n := 4) (Nat.le_of_ble_eq_true rfl) (Nat.le_of_ble_eq_true rfl) ?_
  obtain ⟨f11, hf11⟩ : ∃ zz, zz = va_up f r (.inr (9, [.null, .null, .int 0, .int 0])) := ⟨_, rfl⟩
  have hW := hW
  rw [← hf11] at hW
  have m11_x : x ∈ L ++ [r] := List.mem_append_left _ (hx)
  have f11_x : f11 x = .inr (10, [.ref P, .ref F, .ref S, .ref X, .ref N, .ref T, .ref E, .int dc]) := by rw [hf11, va_up_ne _ _ (fun zz => hr (by rw [← zz]; exact hx))]; exact fx
  have m11_X : X ∈ L ++ [r] := List.mem_append_left _ (hX.1)
  have f11_X : f11 X = .inr (1, [.ref b, .int 0, .int hX.2.2.choose, .int (nI n)]) := by rw [hf11, va_up_ne _ _ (fun zz => hr (by rw [← zz]; exact hX.1))]; exact hX.2.2.choose_spec.choose_spec.1
  have m11_r : r ∈ L ++ [r] := List.mem_append_right _ List.mem_cons_self
  have f11_r : f11 r = .inr (9, [.null, .null, .int 0, .int 0]) := by rw [hf11]; exact va_up_self _ _ _
  have ne_x_r : x ≠ r := fun zz => hr (by rw [← zz]; exact hx)
  have ne_X_r : X ≠ r := fun zz => hr (by rw [← zz]; exact hX.1)
  refine lv_dup gX gB dX5_rules_3 rfl ?_
  refine lv_aload_n gX gB dX5_rules_4 rfl (lv_at hl 0 rfl) ?_
  refine gx_get C hW fX5_25 (gx_pl m11_x f11_x) rfl dX5_rules_5 ?_
  refine gx_callIN (wr := []) (rest := [.ref r]) C hW sX5_170n (kX4_init l G (L ++ [r]) f11 r X m11_r f11_r) rfl ⟨(Nat.le_of_ble_eq_true rfl), (Nat.le_of_ble_eq_true rfl)⟩ hl.1 rfl (Nat.le_of_ble_eq_true rfl) dX5_rules_8 ⟨(Nat.le_of_ble_eq_true rfl), (Nat.le_of_ble_eq_true rfl)⟩ (fun v9 u9 H locs hp hW => ?_)
  obtain ⟨rfl, q, f8, hq, hu, e1, e2, e3⟩ := hp
  rw [hu] at hW
  have hW : gx_W G A s (va_pl ((L ++ [r]) ++ [q]) f8) H locs := hW
  refine W.eq (g2 := F0 m 11 ls [.ref r]) rfl ?_
  refine W.widen (k := 2) (n := 7) (Nat.le_of_ble_eq_true rfl) (Nat.le_of_ble_eq_true rfl) ?_
  have hrr := hr
  have hr : meth.sig.returnType = some .int := by assumption
  have hsub8 : ∀ a ∈ L, a ∈ ((L ++ [r]) ++ [q]) := fun a ha => List.mem_append_left _ (List.mem_append_left _ ha)
  have hfr8 : ∀ a ∈ L, f8 a = f a := fun a ha => (e3 a (fun zz => hrr (by rw [← zz]; exact ha)) (fun zz => hq (by rw [← zz]; exact List.mem_append_left _ ha))).trans (by rw [hf11, va_up_ne _ _ (fun zz => hrr (by rw [← zz]; exact ha))])
  have hX8 : tb_at G ((L ++ [r]) ++ [q]) f8 X b cap n t := hX.kept hsub8 (hfr8 _ hX.1) (hfr8 _ hX.2.1)
  have hr8 : r ∈ ((L ++ [r]) ++ [q]) := List.mem_append_left _ m11_r
  have hlq8 : ls_at G ((L ++ [r]) ++ [q]) f8 q none [] := ⟨List.mem_append_right _ List.mem_cons_self, 0, rfl, e2⟩
  have fx8 := (hfr8 x hx).trans fx
  refine lv_astore_n (lv' := [(1, .ref r), (0, .ref x)]) gX gB dX5_rules_11 rfl hl (by decide) rfl (fun ls hl => ?_)
  refine lv_aload_n gX gB dX5_rules_12 rfl (lv_at hl 0 rfl) ?_
  refine gx_callVN (wr := []) (rest := []) C hW sX5_173n (kX4_readTrials l G ((L ++ [r]) ++ [q]) f8 r X q b cap n 0 t 0 hr8 e1 hX8 hn2 (Nat.zero_le _) hlq8) (gx_pl hr8 e1) rfl rfl ⟨(Nat.le_of_ble_eq_true rfl), (Nat.le_of_ble_eq_true rfl)⟩ hl.1 rfl (Nat.le_of_ble_eq_true rfl) dX5_rules_13 ⟨(Nat.le_of_ble_eq_true rfl), (Nat.le_of_ble_eq_true rfl)⟩ (fun v9 u9 H locs hp => ?_)
  rcases hp with ⟨L1, f1, pq, mq, bq, ta, ds, rfl, hw, ⟨rfl, hres, hpq⟩ | ⟨rfl, hres⟩⟩
  · have hsub : ∀ a ∈ L, a ∈ L1 := fun a ha => hw.2.2.1 a (hsub8 a ha)
    have hxr : x ≠ r := gx_ne fx8 e1 (by simp)
    have hxq : x ≠ q := gx_ne fx8 e2 (by simp)
    have hfr1 : ∀ a ∈ L, f1 a = f a := fun a ha => (hw.2.2.2.1 a (hsub8 a ha) (fun zz => hrr (by rw [← zz]; exact ha)) (fun zz => hq (by rw [← zz]; exact List.mem_append_left _ ha))).trans (hfr8 a ha)
    have hX1 := hw.tb e1 e2 hX8
    have hw6 := hw.2.2.2.2.2.1
    have hXq := hw6.apart hX1.2.2.choose_spec.choose_spec.1 (by decide)
    have hxX : x ≠ X := gx_ne fx hX.2.2.choose_spec.choose_spec.1 (by simp)
    have hrX : r ≠ X := gx_ne hw.2.2.2.2.1 hX1.2.2.choose_spec.choose_spec.1 (by simp)
    intro hW
    have hW : gx_W G A s (va_pl L1 f1) H locs := hW
    refine W.eq (g2 := F0 m 16 ls [.int 0]) rfl ?_
    refine W.widen (k := 38) (n := 391) (Nat.le_of_ble_eq_true rfl) (Nat.le_of_ble_eq_true rfl) ?_
    refine lv_istore_n (lv' := [(2, .int 0), (1, .ref r), (0, .ref x)]) gX gB dX5_rules_16 rfl hl (by decide) rfl (fun ls hl => ?_)
    refine lv_aload_n gX gB dX5_rules_17 rfl (lv_at hl 2 rfl) ?_
    refine gx_get C hW fX5_25 (gx_pl (hsub x hx) ((hfr1 x hx).trans fx)) rfl dX5_rules_18 ?_
    refine lv_iconst (v := 0) gX gB dX5_rules_21 (by decide) ?_
    refine gx_callV (wr := []) (rest := []) C hW sX5_177 (kS_clear l G L1 f1 X b cap n t hX1) (gx_pl hX1.1 hX1.2.2.choose_spec.choose_spec.1) rfl rfl ⟨(Nat.le_of_ble_eq_true rfl), (Nat.le_of_ble_eq_true rfl)⟩ hl.1 rfl (Nat.le_of_ble_eq_true rfl) dX5_rules_22 ⟨(Nat.le_of_ble_eq_true rfl), (Nat.le_of_ble_eq_true rfl)⟩ (fun v9 u9 H locs hp hW => ?_)
    obtain ⟨rfl, f2, hu, k1, k2, k3⟩ := hp
    rw [hu] at hW
    have hW : gx_W G A s (va_pl L1 f2) H locs := hW
    refine W.eq (g2 := F0 m 25 ls []) rfl ?_
    refine W.widen (k := 39) (n := 791) (Nat.le_of_ble_eq_true rfl) (Nat.le_of_ble_eq_true rfl) ?_
    have hls2 : ls_at G L1 f2 q bq ta := hw6.kept (fun _ h => h) (k3 q hXq.1.symm) (fun b9 h9 => k3 b9 (fun zz => hXq.2 (by rw [← zz, h9])))
    have fx2 := (k3 x hxX).trans ((hfr1 x hx).trans fx)
    refine lv_iload_n gX gB dX5_rules_25 rfl (lv_at hl 0 rfl) ?_
    refine lv_if_ne (tgt := 36) gX gB dX5_rules_26 (by decide) (fun h9 => absurd (show ¬ 0 = (0 : Int32) from h9) (by decide)) (fun _ => ?_)
    refine lv_iconst (v := (-1)) gX gB dX5_rules_29 (by decide) ?_
    refine lv_aload_n gX gB dX5_rules_30 rfl (lv_at hl 1 rfl) ?_
    refine gx_getN C hW fX5_181n (gx_pl (hw.2.2.1 r hr8) ((k3 r hrX).trans hw.2.2.2.2.1)) rfl dX5_rules_31 ?_
    refine lv_isub gX gB dX5_rules_34 ?_
    exact gx_iret C hr hW (Or.inl ⟨pq, hres, hpq, rfl, L1, f2, rfl, k2, hsub, fun a ha k => (k3 a k).trans (hfr1 a ha)⟩) (Nat.le_of_ble_eq_true rfl) (Nat.le_of_ble_eq_true rfl) dX5_rules_35
  · have hsub : ∀ a ∈ L, a ∈ L1 := fun a ha => hw.2.2.1 a (hsub8 a ha)
    have hxr : x ≠ r := gx_ne fx8 e1 (by simp)
    have hxq : x ≠ q := gx_ne fx8 e2 (by simp)
    have hfr1 : ∀ a ∈ L, f1 a = f a := fun a ha => (hw.2.2.2.1 a (hsub8 a ha) (fun zz => hrr (by rw [← zz]; exact ha)) (fun zz => hq (by rw [← zz]; exact List.mem_append_left _ ha))).trans (hfr8 a ha)
    have hX1 := hw.tb e1 e2 hX8
    have hw6 := hw.2.2.2.2.2.1
    have hXq := hw6.apart hX1.2.2.choose_spec.choose_spec.1 (by decide)
    have hxX : x ≠ X := gx_ne fx hX.2.2.choose_spec.choose_spec.1 (by simp)
    have hrX : r ≠ X := gx_ne hw.2.2.2.2.1 hX1.2.2.choose_spec.choose_spec.1 (by simp)
    intro hW
    have hW : gx_W G A s (va_pl L1 f1) H locs := hW
    refine W.eq (g2 := F0 m 16 ls [.int 1]) rfl ?_
    refine W.widen (k := 38) (n := 391) (Nat.le_of_ble_eq_true rfl) (Nat.le_of_ble_eq_true rfl) ?_
    refine lv_istore_n (lv' := [(2, .int 1), (1, .ref r), (0, .ref x)]) gX gB dX5_rules_16 rfl hl (by decide) rfl (fun ls hl => ?_)
    refine lv_aload_n gX gB dX5_rules_17 rfl (lv_at hl 2 rfl) ?_
    refine gx_get C hW fX5_25 (gx_pl (hsub x hx) ((hfr1 x hx).trans fx)) rfl dX5_rules_18 ?_
    refine lv_iconst (v := 0) gX gB dX5_rules_21 (by decide) ?_
    refine gx_callV (wr := []) (rest := []) C hW sX5_177 (kS_clear l G L1 f1 X b cap n t hX1) (gx_pl hX1.1 hX1.2.2.choose_spec.choose_spec.1) rfl rfl ⟨(Nat.le_of_ble_eq_true rfl), (Nat.le_of_ble_eq_true rfl)⟩ hl.1 rfl (Nat.le_of_ble_eq_true rfl) dX5_rules_22 ⟨(Nat.le_of_ble_eq_true rfl), (Nat.le_of_ble_eq_true rfl)⟩ (fun v9 u9 H locs hp hW => ?_)
    obtain ⟨rfl, f2, hu, k1, k2, k3⟩ := hp
    rw [hu] at hW
    have hW : gx_W G A s (va_pl L1 f2) H locs := hW
    refine W.eq (g2 := F0 m 25 ls []) rfl ?_
    refine W.widen (k := 39) (n := 791) (Nat.le_of_ble_eq_true rfl) (Nat.le_of_ble_eq_true rfl) ?_
    have hls2 : ls_at G L1 f2 q bq ta := hw6.kept (fun _ h => h) (k3 q hXq.1.symm) (fun b9 h9 => k3 b9 (fun zz => hXq.2 (by rw [← zz, h9])))
    have fx2 := (k3 x hxX).trans ((hfr1 x hx).trans fx)
    refine lv_iload_n gX gB dX5_rules_25 rfl (lv_at hl 0 rfl) ?_
    refine lv_if_ne (tgt := 36) gX gB dX5_rules_26 (by decide) (fun _ => ?_) (fun h9 => absurd h9 (show ¬ 1 = (0 : Int32) from by decide))
    refine lv_aload_n gX gB dX5_rules_36 rfl (lv_at hl 2 rfl) ?_
    refine lv_aload_n gX gB dX5_rules_37 rfl (lv_at hl 1 rfl) ?_
    refine gx_getN C hW fX5_184n (gx_pl (hw.2.2.1 r hr8) ((k3 r hrX).trans hw.2.2.2.2.1)) rfl dX5_rules_38 ?_
    refine gx_put C hW clX5 fX5_38 (hsub x hx) fx2 (Or.inl rfl) rfl rfl (Nat.le_of_ble_eq_true rfl) dX5_rules_41 (fun H locs hW => ?_)
    obtain ⟨f12, hf12⟩ : ∃ zz, zz = va_up f2 x (.inr (10, [.ref P, .ref F, .ref S, .ref X, .ref N, .ref q, .ref E, .int dc])) := ⟨_, rfl⟩
    have hW : gx_W G A s (va_pl L1 f12) H locs := by rw [hf12]; exact hW
    have f12_x : f12 x = .inr (10, [.ref P, .ref F, .ref S, .ref X, .ref N, .ref q, .ref E, .int dc]) := by rw [hf12]; exact va_up_self _ _ _
    have f12_r : f12 r = .inr (9, [.ref X, .ref q, .int (nI pq), .int mq]) := by rw [hf12, va_up_ne _ _ (gx_ne ((k3 r hrX).trans hw.2.2.2.2.1) fx2 (by simp))]; exact ((k3 r hrX).trans hw.2.2.2.2.1)
    refine lv_aload_n gX gB dX5_rules_44 rfl (lv_at hl 2 rfl) ?_
    refine gx_get C hW fX5_38 (gx_pl (hsub x hx) f12_x) rfl dX5_rules_45 ?_
    have hxq2 := hls2.apart fx2 (by decide)
    have hls3 : ls_at G L1 f12 q bq ta := hls2.kept (fun _ h => h) (by rw [hf12, va_up_ne _ _ hxq2.1.symm]) (fun b9 h9 => by rw [hf12, va_up_ne _ _ (fun zz => hxq2.2 (by rw [← zz, h9]))])
    refine gx_callV (wr := []) (rest := []) C hW sX5_48 (kL_size l G L1 f12 q bq ta hls3) (gx_pl hls3.1 (ls_at.head hls3).choose_spec.choose_spec) rfl rfl ⟨(Nat.le_of_ble_eq_true rfl), (Nat.le_of_ble_eq_true rfl)⟩ hl.1 rfl (Nat.le_of_ble_eq_true rfl) dX5_rules_48 ⟨(Nat.le_of_ble_eq_true rfl), (Nat.le_of_ble_eq_true rfl)⟩ (fun v9 u9 H locs hp hW => ?_)
    obtain ⟨rfl, hu⟩ := hp
    rw [hu] at hW
    have hW : gx_W G A s (va_pl L1 f12) H locs := hW
    refine W.eq (g2 := F0 m 51 ls [.int (nI ta.length)]) rfl ?_
    refine W.widen (k := 39) (n := 791) (Nat.le_of_ble_eq_true rfl) (Nat.le_of_ble_eq_true rfl) ?_
    exact gx_iret C hr hW (Or.inr ⟨L1, f12, q, bq, ta, ds, hres, by rw [← hw.2.2.2.2.2.2.2.1], rfl, k2.kept (fun _ h => h) (by rw [hf12, va_up_ne _ _ hxX.symm]) (by rw [hf12, va_up_ne _ _ (gx_ne k2.2.2.choose_spec.choose_spec.2.1 fx2 (by simp))]), f12_x, hls3, fun zz => hq (List.mem_append_left _ zz), fun b9 h9 zz => hw.2.2.2.2.2.2.1 b9 h9 (hsub8 _ zz), hw.2.2.2.2.2.2.2.1, fun j hj => (((hw.2.2.2.2.2.2.2.2 j hj).old hsub8).stay (fun _ h => h) (fun z hz ci vs d1 d2 => k3 z (gx_ne d1 hX1.2.2.choose_spec.choose_spec.1 (by intro d3; injection d3 with d3; injection d3 with d3; rcases d2 with d2 | d2 <;> (rw [d2] at d3; exact absurd d3 (by decide)))))).stay (fun _ h => h) (fun z hz ci vs d1 d2 => by rw [hf12, va_up_ne _ _ (gx_ne d1 fx2 (by intro d3; injection d3 with d3; injection d3 with d3; rcases d2 with d2 | d2 <;> (rw [d2] at d3; exact absurd d3 (by decide))))]), hsub, fun a ha k k9 => by rw [hf12, va_up_ne _ _ k9]; exact (k3 a k).trans (hfr1 a ha)⟩) (Nat.le_of_ble_eq_true rfl) (Nat.le_of_ble_eq_true rfl) dX5_rules_51
