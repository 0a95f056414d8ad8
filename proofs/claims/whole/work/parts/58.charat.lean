/-! BUILDER: charAt, setLength(0). -/
theorem and_nI {c0 : Nat} (h : c0 < 128) : nI c0 &&& 255 = nI c0 := by
  have : ∀ n : Nat, n < 128 → nI n &&& 255 = nI n := by decide +kernel
  exact this c0 h
theorem i2c_nI {c0 : Nat} (h : c0 < 128) : ((nI c0).toUInt32 % 65536).toInt32 = nI c0 := by
  have : ∀ n : Nat, n < 128 → ((nI n).toUInt32 % 65536).toInt32 = nI n := by decide +kernel
  exact this c0 h
theorem nar_ch {c0 : Nat} (h : c0 < 128) : narrow .char (.int (nI c0)) = .int (nI c0) := congrArg Value.int (i2c_nI h)
theorem nI_min {a b : Nat} (h : a ≤ b) (hb : b < 2 ^ 31) : (if nI b < nI a then nI b else nI a) = nI a := if_neg (nI_nlt h hb)
set_option maxHeartbeats 4000000 in
set_option maxRecDepth 100000 in
theorem kJ5_charAt_5068e (l : Launch) (G : gx_T) (L : List Nat) (f : Nat → va_E) (h b cap n j c0 : Nat) (ml : Int32) (t : Nat → Int32) (hh : h ∈ L) (fh : f h = .inr (1, [.ref b, .int 0, .int ml, .int (nI n)])) (hb : b ∈ L) (fb : f b = .inl (G.2.1 0, cap, .inl t)) (hcap : cap ≤ 1000) (hn : n ≤ cap) (hj : j < n) (hc : t j = nI c0) (hc9 : c0 < 128) : gx_M l G yJ5_charAt_5068e cJ5_charAt_5068e 5 (some .char) ({ frames := 2, cells := 0, slots := 0, locals := 43 } : Room) [.ref h, .int (nI j)] (va_pl L f) (fun v u => v = some (.int (nI c0)) ∧ u = va_pl L f) := by
  refine gx_start (by decide +kernel) (Nat.le_of_ble_eq_true rfl) ?_
  intro p e s m args below meth c A ls C hr hnm hW hl
  have gX := C.x
  have gB := C.b
  have hl : lv_has ls 5 [(0, .ref h), (1, .int (nI j))] := hl
  refine lv_aload_n gX gB dJ5_charAt_5068e_0 rfl (lv_at hl 0 rfl) ?_
  refine gx_get C hW fJ5_22 (gx_pl hh fh) rfl dJ5_charAt_5068e_1 ?_
  refine lv_istore_n (lv' := [(2, .int 0), (0, .ref h), (1, .int (nI j))]) gX gB dJ5_charAt_5068e_4 rfl hl (by decide) rfl (fun ls hl => ?_)
  refine lv_aload_n gX gB dJ5_charAt_5068e_5 rfl (lv_at hl 1 rfl) ?_
  refine gx_get C hW fJ5_15 (gx_pl hh fh) rfl dJ5_charAt_5068e_6 ?_
  refine lv_astore_n (lv' := [(3, .ref b), (2, .int 0), (0, .ref h), (1, .int (nI j))]) gX gB dJ5_charAt_5068e_9 rfl hl (by decide) rfl (fun ls hl => ?_)
  refine lv_aload_n gX gB dJ5_charAt_5068e_10 rfl (lv_at hl 2 rfl) ?_
  refine gx_get C hW fJ5_79 (gx_pl hh fh) rfl dJ5_charAt_5068e_11 ?_
  refine lv_aload_n gX gB dJ5_charAt_5068e_14 rfl (lv_at hl 0 rfl) ?_
  refine gx_alen C hW 0 rfl (gx_pl hb fb) dJ5_charAt_5068e_15 ?_
  refine lv_iload_n gX gB dJ5_charAt_5068e_16 rfl (lv_at hl 1 rfl) ?_
  refine lv_ishr gX gB dJ5_charAt_5068e_17 ?_
  refine gx_topi (show ((nI cap) >>> (0 &&& 31)) = nI cap from sr_0 _) ?_
  refine gx_mmin C (tq_2 63 (by decide +kernel) rfl) hl.1 (Nat.le_of_ble_eq_true rfl) (Nat.le_of_ble_eq_true rfl) (Nat.le_of_ble_eq_true rfl) (Nat.le_of_ble_eq_true rfl) dJ5_charAt_5068e_18 ?_
  refine gx_topi (show (if (nI cap) < (nI n) then (nI cap) else (nI n)) = nI n from nI_min hn (by omega)) ?_
  refine lv_istore (lv' := [(4, .int (nI n)), (3, .ref b), (2, .int 0), (0, .ref h), (1, .int (nI j))]) gX gB dJ5_charAt_5068e_21 hl (by decide) rfl (fun ls hl => ?_)
  refine lv_iload_n gX gB dJ5_charAt_5068e_23 rfl (lv_at hl 4 rfl) ?_
  refine lv_iload gX gB dJ5_charAt_5068e_24 (lv_at hl 0 rfl) ?_
  refine gx_callS (wr := []) (rest := []) C hW sJ5_144 (kJ0_checkIndex_df160 l G (va_pl L f) j n hj (by omega)) rfl ⟨(Nat.le_of_ble_eq_true rfl), (Nat.le_of_ble_eq_true rfl)⟩ hl.1 rfl (Nat.le_of_ble_eq_true rfl) dJ5_charAt_5068e_26 ⟨(Nat.le_of_ble_eq_true rfl), (Nat.le_of_ble_eq_true rfl)⟩ (fun v9 u9 H locs hp hW => ?_)
  obtain ⟨rfl, hu⟩ := hp
  rw [hu] at hW
  have hW : gx_W G A s (va_pl L f) H locs := hW
  refine W.eq (g2 := F0 m 29 ls []) rfl ?_
  refine W.widen (k := 0) (n := 0) (Nat.le_of_ble_eq_true rfl) (Nat.le_of_ble_eq_true rfl) ?_
  refine lv_iload_n gX gB dJ5_charAt_5068e_29 rfl (lv_at hl 2 rfl) ?_
  refine lv_if_ne (tgt := 42) gX gB dJ5_charAt_5068e_30 (by decide) (fun h9 => absurd (show ¬ 0 = (0 : Int32) from h9) (by decide)) (fun _ => ?_)
  refine lv_aload_n gX gB dJ5_charAt_5068e_33 rfl (lv_at hl 1 rfl) ?_
  refine lv_iload_n gX gB dJ5_charAt_5068e_34 rfl (lv_at hl 4 rfl) ?_
  refine gx_bald C hW (gx_pl hb fb) (j := j) rfl (by omega) (by omega) dJ5_charAt_5068e_35 ?_
  refine gx_topi (show (t j) = nI c0 from hc) ?_
  refine lv_sipush (v := 255) gX gB dJ5_charAt_5068e_36 (by decide) ?_
  refine lv_iand gX gB dJ5_charAt_5068e_39 ?_
  refine gx_topi (show ((nI c0) &&& 255) = nI c0 from and_nI hc9) ?_
  refine lv_i2c gX gB dJ5_charAt_5068e_40 rfl ?_
  refine gx_topi (show (((nI c0).toUInt32 % 65536).toInt32) = nI c0 from i2c_nI hc9) ?_
  exact gx_zret C hr (nar_ch hc9) hW (⟨rfl, rfl⟩) (Nat.le_of_ble_eq_true rfl) (Nat.le_of_ble_eq_true rfl) dJ5_charAt_5068e_41
set_option maxHeartbeats 4000000 in
set_option maxRecDepth 100000 in
theorem kJ4_charAt_5068e (l : Launch) (G : gx_T) (L : List Nat) (f : Nat → va_E) (h b cap n j c0 : Nat) (ml : Int32) (t : Nat → Int32) (hh : h ∈ L) (fh : f h = .inr (1, [.ref b, .int 0, .int ml, .int (nI n)])) (hb : b ∈ L) (fb : f b = .inl (G.2.1 0, cap, .inl t)) (hcap : cap ≤ 1000) (hn : n ≤ cap) (hj : j < n) (hc : t j = nI c0) (hc9 : c0 < 128) : gx_M l G yJ4_charAt_5068e cJ4_charAt_5068e 2 (some .char) ({ frames := 3, cells := 0, slots := 0, locals := 67 } : Room) [.ref h, .int (nI j)] (va_pl L f) (fun v u => v = some (.int (nI c0)) ∧ u = va_pl L f) := by
  refine gx_start (by decide +kernel) (Nat.le_of_ble_eq_true rfl) ?_
  intro p e s m args below meth c A ls C hr hnm hW hl
  have gX := C.x
  have gB := C.b
  have hl : lv_has ls 2 [(0, .ref h), (1, .int (nI j))] := hl
  refine lv_aload_n gX gB dJ4_charAt_5068e_0 rfl (lv_at hl 0 rfl) ?_
  refine lv_iload_n gX gB dJ4_charAt_5068e_1 rfl (lv_at hl 1 rfl) ?_
  refine gx_callSU (wr := []) (rest := []) C hW sJ4_329 (kJ5_charAt_5068e l G L f h b cap n j c0 ml t hh fh hb fb hcap hn hj hc hc9) (gx_pl hh fh) rfl rfl ⟨(Nat.le_of_ble_eq_true rfl), (Nat.le_of_ble_eq_true rfl)⟩ hl.1 rfl (Nat.le_of_ble_eq_true rfl) dJ4_charAt_5068e_2 ⟨(Nat.le_of_ble_eq_true rfl), (Nat.le_of_ble_eq_true rfl)⟩ (fun v9 u9 H locs hp hW => ?_)
  obtain ⟨rfl, hu⟩ := hp
  rw [hu] at hW
  have hW : gx_W G A s (va_pl L f) H locs := hW
  refine W.eq (g2 := F0 m 5 ls [.int (nI c0)]) rfl ?_
  refine W.widen (k := 0) (n := 0) (Nat.le_of_ble_eq_true rfl) (Nat.le_of_ble_eq_true rfl) ?_
  exact gx_zret C hr (nar_ch hc9) hW (⟨rfl, rfl⟩) (Nat.le_of_ble_eq_true rfl) (Nat.le_of_ble_eq_true rfl) dJ4_charAt_5068e_5
theorem kS_charAt (l : Launch) (G : gx_T) (L : List Nat) (f : Nat → va_E) (q b cap n : Nat) (t : Nat → Nat) (h : tb_at G L f q b cap n t) (j : Nat) (hj : j < n) : gx_M l G yJ4_charAt_5068e cJ4_charAt_5068e 2 (some .char) ({ frames := 3, cells := 0, slots := 0, locals := 67 } : Room) [.ref q, .int (nI j)] (va_pl L f) (fun v u => v = some (.int (nI (t j))) ∧ u = va_pl L f) := by
  obtain ⟨h1, h2, ml, g, h3, h4, h5, h6, h7, h8, h9⟩ := h
  exact kJ4_charAt_5068e l G L f q b cap n j (t j) ml g h1 h3 h2 h4 (by omega) h5 hj (h8 j hj) (h9 j hj)
set_option maxHeartbeats 4000000 in
set_option maxRecDepth 100000 in
theorem kJ5_setLength_d00df (l : Launch) (G : gx_T) (L : List Nat) (f : Nat → va_E) (h b cap n : Nat) (ml : Int32) (t : Nat → Int32) (hh : h ∈ L) (fh : f h = .inr (1, [.ref b, .int 0, .int ml, .int (nI n)])) (hb : b ∈ L) (fb : f b = .inl (G.2.1 0, cap, .inl t)) (hcap : cap ≤ 1000) (hn : n ≤ cap) : gx_M l G yJ5_setLength_d00df cJ5_setLength_d00df 2 none ({ frames := 4, cells := 1, slots := 400, locals := 110 } : Room) [.ref h, .int 0] (va_pl L f) (fun v u => v = none ∧ ∃ (f1 : Nat → va_E) (ml1 : Int32), u = va_pl L f1 ∧ f1 h = .inr (1, [.ref b, .int 0, .int ml1, .int 0]) ∧ f1 b = .inl (G.2.1 0, cap, .inl t) ∧ ∀ a, a ≠ h → f1 a = f a) := by
  refine gx_start (by decide +kernel) (Nat.le_of_ble_eq_true rfl) ?_
  intro p e s m args below meth c A ls C hr hnm hW hl
  have gX := C.x
  have gB := C.b
  have hl : lv_has ls 2 [(0, .ref h), (1, .int 0)] := hl
  refine lv_iload_n gX gB dJ5_setLength_d00df_0 rfl (lv_at hl 1 rfl) ?_
  refine lv_if_ge (tgt := 13) gX gB dJ5_setLength_d00df_1 (by decide) (fun _ => ?_) (fun h9 => absurd (show (0 : Int32) ≤ 0 from by decide) h9)
  refine lv_aload_n gX gB dJ5_setLength_d00df_13 rfl (lv_at hl 0 rfl) ?_
  refine lv_iload_n gX gB dJ5_setLength_d00df_14 rfl (lv_at hl 1 rfl) ?_
  refine gx_callVK (wr := []) (rest := []) C hW sJ5_100 (kJ5_ensureCapacityInternal_d00dfA l G L f h b cap 0 ml (nI n) t hh fh hb fb hcap (Nat.zero_le _)) (gx_pl hh fh) rfl rfl ⟨(Nat.le_of_ble_eq_true rfl), (Nat.le_of_ble_eq_true rfl)⟩ hl.1 rfl (Nat.le_of_ble_eq_true rfl) dJ5_setLength_d00df_15 ⟨(Nat.le_of_ble_eq_true rfl), (Nat.le_of_ble_eq_true rfl)⟩ (fun v9 u9 H locs hp hW => ?_)
  obtain ⟨rfl, hu⟩ := hp
  rw [hu] at hW
  have hW : gx_W G A s (va_pl L f) H locs := hW
  refine W.eq (g2 := F0 m 18 ls []) rfl ?_
  refine W.widen (k := 1) (n := 400) (Nat.le_of_ble_eq_true rfl) (Nat.le_of_ble_eq_true rfl) ?_
  refine lv_aload_n gX gB dJ5_setLength_d00df_18 rfl (lv_at hl 0 rfl) ?_
  refine gx_get C hW fJ5_79 (gx_pl hh fh) rfl dJ5_setLength_d00df_19 ?_
  refine lv_iload_n gX gB dJ5_setLength_d00df_22 rfl (lv_at hl 1 rfl) ?_
  refine lv_icmp_ge (tgt := 63) gX gB dJ5_setLength_d00df_23 (by decide) (fun _ => ?_) (fun h9 => absurd (show (0 : Int32) ≤ (nI n) from nI_pos' (by omega)) h9)
  refine lv_aload_n gX gB dJ5_setLength_d00df_63 rfl (lv_at hl 0 rfl) ?_
  refine gx_get C hW fJ5_79 (gx_pl hh fh) rfl dJ5_setLength_d00df_64 ?_
  refine lv_iload_n gX gB dJ5_setLength_d00df_67 rfl (lv_at hl 1 rfl) ?_
  refine lv_icmp_le (tgt := 76) gX gB dJ5_setLength_d00df_68 (by decide) (fun c68 => ?_) (fun c68 => ?_)
  · refine lv_aload_n gX gB dJ5_setLength_d00df_76 rfl (lv_at hl 0 rfl) ?_
    refine lv_iload_n gX gB dJ5_setLength_d00df_77 rfl (lv_at hl 1 rfl) ?_
    refine gx_put C hW clJ4 fJ5_79 hh fh (Or.inl rfl) rfl rfl (Nat.le_of_ble_eq_true rfl) dJ5_setLength_d00df_78 (fun H locs hW => ?_)
    obtain ⟨f11, hf11⟩ : ∃ zz, zz = va_up f h (.inr (1, [.ref b, .int 0, .int ml, .int 0])) := ⟨_, rfl⟩
    have hW : gx_W G A s (va_pl L f11) H locs := by rw [hf11]; exact hW
    have f11_h : f11 h = .inr (1, [.ref b, .int 0, .int ml, .int 0]) := by rw [hf11]; exact va_up_self _ _ _
    have f11_b : f11 b = .inl (G.2.1 0, cap, .inl t) := by rw [hf11, va_up_ne _ _ (gx_ne fb fh (by simp))]; exact fb
    exact gx_vret C hr hW (⟨rfl, f11, ml, rfl, f11_h, f11_b, fun a k1 => by rw [hf11, va_up_ne _ _ k1]⟩) (Nat.le_of_ble_eq_true rfl) (Nat.le_of_ble_eq_true rfl) dJ5_setLength_d00df_81
  · refine lv_aload_n gX gB dJ5_setLength_d00df_71 rfl (lv_at hl 0 rfl) ?_
    refine lv_iconst (v := 1) gX gB dJ5_setLength_d00df_72 (by decide) ?_
    refine gx_put C hW clJ4 fJ5_73 hh fh (Or.inl rfl) (by decide) (by decide) (Nat.le_of_ble_eq_true rfl) dJ5_setLength_d00df_73 (fun H locs hW => ?_)
    obtain ⟨f12, hf12⟩ : ∃ zz, zz = va_up f h (.inr (1, [.ref b, .int 0, .int 1, .int (nI n)])) := ⟨_, rfl⟩
    have hW : gx_W G A s (va_pl L f12) H locs := by rw [hf12]; exact hW
    have f12_h : f12 h = .inr (1, [.ref b, .int 0, .int 1, .int (nI n)]) := by rw [hf12]; exact va_up_self _ _ _
    have f12_b : f12 b = .inl (G.2.1 0, cap, .inl t) := by rw [hf12, va_up_ne _ _ (gx_ne fb fh (by simp))]; exact fb
    refine lv_aload_n gX gB dJ5_setLength_d00df_76 rfl (lv_at hl 0 rfl) ?_
    refine lv_iload_n gX gB dJ5_setLength_d00df_77 rfl (lv_at hl 1 rfl) ?_
    refine gx_put C hW clJ4 fJ5_79 hh f12_h (Or.inl rfl) rfl rfl (Nat.le_of_ble_eq_true rfl) dJ5_setLength_d00df_78 (fun H locs hW => ?_)
    obtain ⟨f13, hf13⟩ : ∃ zz, zz = va_up f12 h (.inr (1, [.ref b, .int 0, .int 1, .int 0])) := ⟨_, rfl⟩
    have hW : gx_W G A s (va_pl L f13) H locs := by rw [hf13]; exact hW
    have f13_h : f13 h = .inr (1, [.ref b, .int 0, .int 1, .int 0]) := by rw [hf13]; exact va_up_self _ _ _
    have f13_b : f13 b = .inl (G.2.1 0, cap, .inl t) := by rw [hf13, va_up_ne _ _ (gx_ne f12_b f12_h (by simp))]; exact f12_b
    exact gx_vret C hr hW (⟨rfl, f13, 1, rfl, f13_h, f13_b, fun a k1 => by rw [hf13, va_up_ne _ _ k1, hf12, va_up_ne _ _ k1]⟩) (Nat.le_of_ble_eq_true rfl) (Nat.le_of_ble_eq_true rfl) dJ5_setLength_d00df_81
set_option maxHeartbeats 4000000 in
set_option maxRecDepth 100000 in
theorem kS_clear0 (l : Launch) (G : gx_T) (L : List Nat) (f : Nat → va_E) (h b cap n : Nat) (ml : Int32) (t : Nat → Int32) (hh : h ∈ L) (fh : f h = .inr (1, [.ref b, .int 0, .int ml, .int (nI n)])) (hb : b ∈ L) (fb : f b = .inl (G.2.1 0, cap, .inl t)) (hset : (cap = 16 ∨ cap = 34 ∨ cap = 70 ∨ cap = 142 ∨ cap = 286)) (hfi : ∀ j : Nat, j < cap → fits .byte (.int (t j)) = true) (tx : Nat → Nat) (hn : n ≤ cap) : gx_M l G yJ4_setLength_d00df cJ4_setLength_d00df 2 none ({ frames := 5, cells := 1, slots := 400, locals := 131 } : Room) [.ref h, .int 0] (va_pl L f) (fun v u => v = none ∧ ∃ f1 : Nat → va_E, u = va_pl L f1 ∧ f1 b = f b ∧ tb_at G L f1 h b cap 0 tx ∧ ∀ a, a ≠ h → f1 a = f a) := by
  refine gx_start (by decide +kernel) (Nat.le_of_ble_eq_true rfl) ?_
  intro p e s m args below meth c A ls C hr hnm hW hl
  have gX := C.x
  have gB := C.b
  have hl : lv_has ls 2 [(0, .ref h), (1, .int 0)] := hl
  refine lv_aload_n gX gB dJ4_setLength_d00df_0 rfl (lv_at hl 0 rfl) ?_
  refine lv_iload_n gX gB dJ4_setLength_d00df_1 rfl (lv_at hl 1 rfl) ?_
  refine gx_callSU (wr := []) (rest := []) C hW sJ4_333 (kJ5_setLength_d00df l G L f h b cap n ml t hh fh hb fb (by omega) hn) (gx_pl hh fh) rfl rfl ⟨(Nat.le_of_ble_eq_true rfl), (Nat.le_of_ble_eq_true rfl)⟩ hl.1 rfl (Nat.le_of_ble_eq_true rfl) dJ4_setLength_d00df_2 ⟨(Nat.le_of_ble_eq_true rfl), (Nat.le_of_ble_eq_true rfl)⟩ (fun v9 u9 H locs hp hW => ?_)
  obtain ⟨rfl, hap⟩ := hp
  have hW : gx_W G A s (u9) H locs := hW
  refine W.eq (g2 := F0 m 5 ls []) rfl ?_
  refine W.widen (k := 1) (n := 400) (Nat.le_of_ble_eq_true rfl) (Nat.le_of_ble_eq_true rfl) ?_
  exact gx_vret C hr hW (⟨rfl, by obtain ⟨f1, ml1, hu, e1, e2, e3⟩ := hap; exact ⟨f1, hu, e2.trans fb.symm, ⟨hh, hb, ml1, t, e1, e2, Nat.zero_le _, hset, hfi, fun i hi => absurd hi (Nat.not_lt_zero _), fun i hi => absurd hi (Nat.not_lt_zero _)⟩, e3⟩⟩) (Nat.le_of_ble_eq_true rfl) (Nat.le_of_ble_eq_true rfl) dJ4_setLength_d00df_5
theorem kS_clear (l : Launch) (G : gx_T) (L : List Nat) (f : Nat → va_E) (q b cap n : Nat) (tx : Nat → Nat) (h : tb_at G L f q b cap n tx) : gx_M l G yJ4_setLength_d00df cJ4_setLength_d00df 2 none ({ frames := 5, cells := 1, slots := 400, locals := 131 } : Room) [.ref q, .int 0] (va_pl L f) (fun v u => v = none ∧ ∃ f1 : Nat → va_E, u = va_pl L f1 ∧ f1 b = f b ∧ tb_at G L f1 q b cap 0 tx ∧ ∀ a, a ≠ q → f1 a = f a) := by
  obtain ⟨h1, h2, ml, g, h3, h4, h5, h6, h7, h8, h9⟩ := h
  exact kS_clear0 l G L f q b cap n ml g h1 h3 h2 h4 h6 h7 tx h5
