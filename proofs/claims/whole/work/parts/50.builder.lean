/-! STRINGBUILDER: length, isLatin1, canEncode. -/
set_option maxHeartbeats 4000000 in
set_option maxRecDepth 100000 in
theorem kJ5_length_8abf5 (l : Launch) (G : gx_T) (L : List Nat) (f : Nat → va_E) (h b : Nat) (ml n : Int32) (hh : h ∈ L) (fh : f h = .inr (1, [.ref b, .int 0, .int ml, .int n])) : gx_M l G yJ5_length_8abf5 cJ5_length_8abf5 1 (some .int) ({ frames := 0, cells := 0, slots := 0, locals := 0 } : Room) [.ref h] (va_pl L f) (fun v u => v = some (.int n) ∧ u = va_pl L f) := by
  refine gx_start (by decide +kernel) (Nat.le_of_ble_eq_true rfl) ?_
  intro p e s m args below meth c A ls C hr hnm hW hl
  have gX := C.x
  have gB := C.b
  have hl : lv_has ls 1 [(0, .ref h)] := hl
  refine lv_aload_n gX gB dJ5_length_8abf5_0 rfl (lv_at hl 0 rfl) ?_
  refine gx_get C hW fJ5_79 (gx_pl hh fh) rfl dJ5_length_8abf5_1 ?_
  exact gx_iret C hr hW (⟨rfl, rfl⟩) (Nat.le_of_ble_eq_true rfl) (Nat.le_of_ble_eq_true rfl) dJ5_length_8abf5_4
set_option maxHeartbeats 4000000 in
set_option maxRecDepth 100000 in
theorem kJ4_length_8abf5 (l : Launch) (G : gx_T) (L : List Nat) (f : Nat → va_E) (h b : Nat) (ml n : Int32) (hh : h ∈ L) (fh : f h = .inr (1, [.ref b, .int 0, .int ml, .int n])) : gx_M l G yJ4_length_8abf5 cJ4_length_8abf5 1 (some .int) ({ frames := 1, cells := 0, slots := 0, locals := 20 } : Room) [.ref h] (va_pl L f) (fun v u => v = some (.int n) ∧ u = va_pl L f) := by
  refine gx_start (by decide +kernel) (Nat.le_of_ble_eq_true rfl) ?_
  intro p e s m args below meth c A ls C hr hnm hW hl
  have gX := C.x
  have gB := C.b
  have hl : lv_has ls 1 [(0, .ref h)] := hl
  refine lv_aload_n gX gB dJ4_length_8abf5_0 rfl (lv_at hl 0 rfl) ?_
  refine gx_callSU (wr := []) (rest := []) C hW sJ4_343 (kJ5_length_8abf5 l G L f h b ml n hh fh) (gx_pl hh fh) rfl rfl ⟨(Nat.le_of_ble_eq_true rfl), (Nat.le_of_ble_eq_true rfl)⟩ hl.1 rfl (Nat.le_of_ble_eq_true rfl) dJ4_length_8abf5_1 ⟨(Nat.le_of_ble_eq_true rfl), (Nat.le_of_ble_eq_true rfl)⟩ (fun v9 u9 H locs hp hW => ?_)
  obtain ⟨rfl, hu⟩ := hp
  rw [hu] at hW
  have hW : gx_W G A s (va_pl L f) H locs := hW
  refine W.eq (g2 := F0 m 4 ls [.int n]) rfl ?_
  refine W.widen (k := 0) (n := 0) (Nat.le_of_ble_eq_true rfl) (Nat.le_of_ble_eq_true rfl) ?_
  exact gx_iret C hr hW (⟨rfl, rfl⟩) (Nat.le_of_ble_eq_true rfl) (Nat.le_of_ble_eq_true rfl) dJ4_length_8abf5_4
set_option maxHeartbeats 4000000 in
set_option maxRecDepth 100000 in
theorem kJ5_isLatin1_aae02 (l : Launch) (G : gx_T) (L : List Nat) (f : Nat → va_E) (h b : Nat) (ml n : Int32) (hh : h ∈ L) (fh : f h = .inr (1, [.ref b, .int 0, .int ml, .int n])) : gx_M l G yJ5_isLatin1_aae02 cJ5_isLatin1_aae02 1 (some .boolean) ({ frames := 0, cells := 0, slots := 0, locals := 0 } : Room) [.ref h] (va_pl L f) (fun v u => v = some (.int 1) ∧ u = va_pl L f) := by
  refine gx_start (by decide +kernel) (Nat.le_of_ble_eq_true rfl) ?_
  intro p e s m args below meth c A ls C hr hnm hW hl
  have gX := C.x
  have gB := C.b
  have hl : lv_has ls 1 [(0, .ref h)] := hl
  refine gx_getsC C hW (tq_1 75 (by decide +kernel) rfl) dJ5_isLatin1_aae02_0 ?_
  refine lv_if_eq (tgt := 17) gX gB dJ5_isLatin1_aae02_3 (by decide) (fun h9 => absurd (show 1 = (0 : Int32) from h9) (by decide)) (fun _ => ?_)
  refine lv_aload_n gX gB dJ5_isLatin1_aae02_6 rfl (lv_at hl 0 rfl) ?_
  refine gx_get C hW fJ5_22 (gx_pl hh fh) rfl dJ5_isLatin1_aae02_7 ?_
  refine lv_if_ne (tgt := 17) gX gB dJ5_isLatin1_aae02_10 (by decide) (fun h9 => absurd (show ¬ 0 = (0 : Int32) from h9) (by decide)) (fun _ => ?_)
  refine lv_iconst (v := 1) gX gB dJ5_isLatin1_aae02_13 (by decide) ?_
  refine lv_goto (tgt := 18) gX gB dJ5_isLatin1_aae02_14 (by decide) ?_
  exact gx_zret C hr (by decide) hW (⟨rfl, rfl⟩) (Nat.le_of_ble_eq_true rfl) (Nat.le_of_ble_eq_true rfl) dJ5_isLatin1_aae02_18
set_option maxHeartbeats 4000000 in
set_option maxRecDepth 100000 in
theorem kJ1_canEncode_fc78d (l : Launch) (G : gx_T) (ws : va_W) (c0 : Int32) (hc9 : c0 ≤ 255) : gx_M l G yJ1_canEncode_fc78d cJ1_canEncode_fc78d 1 (some .boolean) ({ frames := 0, cells := 0, slots := 0, locals := 0 } : Room) [.int c0] (ws) (fun v u => v = some (.int 1) ∧ u = ws) := by
  refine gx_start (by decide +kernel) (Nat.le_of_ble_eq_true rfl) ?_
  intro p e s m args below meth c A ls C hr hnm hW hl
  have gX := C.x
  have gB := C.b
  have hl : lv_has ls 1 [(0, .int c0)] := hl
  refine lv_iload_n gX gB dJ1_canEncode_fc78d_0 rfl (lv_at hl 0 rfl) ?_
  refine lv_sipush (v := 255) gX gB dJ1_canEncode_fc78d_1 (by decide) ?_
  refine lv_icmp_gt (tgt := 11) gX gB dJ1_canEncode_fc78d_4 (by decide) (fun h9 => absurd (show (255 : Int32) < c0 from h9) (Int32.not_lt.mpr hc9)) (fun _ => ?_)
  refine lv_iconst (v := 1) gX gB dJ1_canEncode_fc78d_7 (by decide) ?_
  refine lv_goto (tgt := 12) gX gB dJ1_canEncode_fc78d_8 (by decide) ?_
  exact gx_zret C hr (by decide) hW (⟨rfl, rfl⟩) (Nat.le_of_ble_eq_true rfl) (Nat.le_of_ble_eq_true rfl) dJ1_canEncode_fc78d_12
set_option maxHeartbeats 4000000 in
set_option maxRecDepth 100000 in
theorem kJ5_init_d00df (l : Launch) (G : gx_T) (L : List Nat) (f : Nat → va_E) (h : Nat) (hh : h ∈ L) (fh : f h = .inr (1, [.null, .int 0, .int 0, .int 0])) : gx_M l G yJ5_init_d00df cJ5_init_d00df 2 none ({ frames := 1, cells := 1, slots := 16, locals := 20 } : Room) [.ref h, .int 16] (va_pl L f) (fun v u => v = none ∧ ∃ (b : Nat) (f1 : Nat → va_E), b ∉ L ∧ u = va_pl (L ++ [b]) f1 ∧ f1 h = .inr (1, [.ref b, .int 0, .int 0, .int 0]) ∧ f1 b = .inl (G.2.1 0, 16, .inl (fun _ => 0)) ∧ ∀ a, a ≠ h → a ≠ b → f1 a = f a) := by
  refine gx_start (by decide +kernel) (Nat.le_of_ble_eq_true rfl) ?_
  intro p e s m args below meth c A ls C hr hnm hW hl
  have gX := C.x
  have gB := C.b
  have hl : lv_has ls 2 [(0, .ref h), (1, .int 16)] := hl
  refine lv_aload_n gX gB dJ5_init_d00df_0 rfl (lv_at hl 0 rfl) ?_
  refine gx_obj C (tq_1 74 (by decide +kernel) rfl) hl.1 dJ5_init_d00df_1 (Nat.le_of_ble_eq_true rfl) (Nat.le_of_ble_eq_true rfl) ?_
  refine gx_getsC C hW (tq_1 75 (by decide +kernel) rfl) dJ5_init_d00df_4 ?_
  refine lv_if_eq (tgt := 25) gX gB dJ5_init_d00df_7 (by decide) (fun h9 => absurd (show 1 = (0 : Int32) from h9) (by decide)) (fun _ => ?_)
  refine lv_aload_n gX gB dJ5_init_d00df_10 rfl (lv_at hl 0 rfl) ?_
  refine lv_iload_n gX gB dJ5_init_d00df_11 rfl (lv_at hl 1 rfl) ?_
  refine gx_newa (ty := .byte) (n := 16) (a0 := (16, .inl (fun _ => 0))) C hW rfl (tq_1 98 (by decide +kernel) rfl) 0 rfl (fun _ => rfl) (by decide) (by decide) (Nat.le_of_ble_eq_true rfl) (Nat.le_of_ble_eq_true rfl) dJ5_init_d00df_12 (fun b H hW0 => ?_)
  obtain ⟨hb, hW⟩ := gx_pushP hW0
  refine W.widen (k := 1) (n := 16) (Nat.le_of_ble_eq_true rfl) (Nat.le_of_ble_eq_true rfl) ?_
  obtain ⟨f11, hf11⟩ : ∃ zz, zz = va_up f b (.inl (G.2.1 0, 16, .inl (fun _ => 0))) := ⟨_, rfl⟩
  have hW := hW
  rw [← hf11] at hW
  have m11_h : h ∈ L ++ [b] := List.mem_append_left _ (hh)
  have f11_h : f11 h = .inr (1, [.null, .int 0, .int 0, .int 0]) := by rw [hf11, va_up_ne _ _ (fun zz => hb (by rw [← zz]; exact hh))]; exact fh
  have m11_b : b ∈ L ++ [b] := List.mem_append_right _ List.mem_cons_self
  have f11_b : f11 b = .inl (G.2.1 0, 16, .inl (fun _ => 0)) := by rw [hf11]; exact va_up_self _ _ _
  refine gx_put C hW clJ4 fJ5_15 m11_h f11_h (Or.inl rfl) rfl rfl (Nat.le_of_ble_eq_true rfl) dJ5_init_d00df_14 (fun H locs hW => ?_)
  obtain ⟨f12, hf12⟩ : ∃ zz, zz = va_up f11 h (.inr (1, [.ref b, .int 0, .int 0, .int 0])) := ⟨_, rfl⟩
  have hW : gx_W G A s (va_pl (L ++ [b]) f12) H locs := by rw [hf12]; exact hW
  have f12_h : f12 h = .inr (1, [.ref b, .int 0, .int 0, .int 0]) := by rw [hf12]; exact va_up_self _ _ _
  have f12_b : f12 b = .inl (G.2.1 0, 16, .inl (fun _ => 0)) := by rw [hf12, va_up_ne _ _ (gx_ne f11_b f11_h (by simp))]; exact f11_b
  refine lv_aload_n gX gB dJ5_init_d00df_17 rfl (lv_at hl 0 rfl) ?_
  refine lv_iconst (v := 0) gX gB dJ5_init_d00df_18 (by decide) ?_
  refine gx_put C hW clJ4 fJ5_22 m11_h f12_h (Or.inl rfl) (by decide) (by decide) (Nat.le_of_ble_eq_true rfl) dJ5_init_d00df_19 (fun H locs hW => ?_)
  obtain ⟨f13, hf13⟩ : ∃ zz, zz = va_up f12 h (.inr (1, [.ref b, .int 0, .int 0, .int 0])) := ⟨_, rfl⟩
  have hW : gx_W G A s (va_pl (L ++ [b]) f13) H locs := by rw [hf13]; exact hW
  have f13_h : f13 h = .inr (1, [.ref b, .int 0, .int 0, .int 0]) := by rw [hf13]; exact va_up_self _ _ _
  have f13_b : f13 b = .inl (G.2.1 0, 16, .inl (fun _ => 0)) := by rw [hf13, va_up_ne _ _ (gx_ne f12_b f12_h (by simp))]; exact f12_b
  refine lv_goto (tgt := 38) gX gB dJ5_init_d00df_22 (by decide) ?_
  exact gx_vret C hr hW (⟨rfl, b, f13, hb, rfl, f13_h, f13_b, fun a k1 k2 => by rw [hf13, va_up_ne _ _ k1, hf12, va_up_ne _ _ k1, hf11, va_up_ne _ _ k2]⟩) (Nat.le_of_ble_eq_true rfl) (Nat.le_of_ble_eq_true rfl) dJ5_init_d00df_38
set_option maxHeartbeats 4000000 in
set_option maxRecDepth 100000 in
theorem kJ4_init_da8c8 (l : Launch) (G : gx_T) (L : List Nat) (f : Nat → va_E) (h : Nat) (hh : h ∈ L) (fh : f h = .inr (1, [.null, .int 0, .int 0, .int 0])) : gx_M l G yJ4_init_da8c8 cJ4_init_da8c8 1 none ({ frames := 2, cells := 1, slots := 16, locals := 41 } : Room) [.ref h] (va_pl L f) (fun v u => v = none ∧ ∃ (b : Nat) (f1 : Nat → va_E), b ∉ L ∧ u = va_pl (L ++ [b]) f1 ∧ f1 h = .inr (1, [.ref b, .int 0, .int 0, .int 0]) ∧ f1 b = .inl (G.2.1 0, 16, .inl (fun _ => 0)) ∧ ∀ a, a ≠ h → a ≠ b → f1 a = f a) := by
  refine gx_start (by decide +kernel) (Nat.le_of_ble_eq_true rfl) ?_
  intro p e s m args below meth c A ls C hr hnm hW hl
  have gX := C.x
  have gB := C.b
  have hl : lv_has ls 1 [(0, .ref h)] := hl
  refine lv_aload_n gX gB dJ4_init_da8c8_0 rfl (lv_at hl 0 rfl) ?_
  refine lv_bipush (v := 16) gX gB dJ4_init_da8c8_1 (by decide) ?_
  refine gx_callI (wr := []) (rest := []) C hW sJ4_1 (kJ5_init_d00df l G L f h hh fh) rfl ⟨(Nat.le_of_ble_eq_true rfl), (Nat.le_of_ble_eq_true rfl)⟩ hl.1 rfl (Nat.le_of_ble_eq_true rfl) dJ4_init_da8c8_3 ⟨(Nat.le_of_ble_eq_true rfl), (Nat.le_of_ble_eq_true rfl)⟩ (fun v9 u9 H locs hp hW => ?_)
  obtain ⟨rfl, hsb⟩ := hp
  have hW : gx_W G A s (u9) H locs := hW
  refine W.eq (g2 := F0 m 6 ls []) rfl ?_
  refine W.widen (k := 1) (n := 16) (Nat.le_of_ble_eq_true rfl) (Nat.le_of_ble_eq_true rfl) ?_
  exact gx_vret C hr hW (⟨rfl, hsb⟩) (Nat.le_of_ble_eq_true rfl) (Nat.le_of_ble_eq_true rfl) dJ4_init_da8c8_6
