/-! STRINGBUILDER: length, isLatin1, canEncode. -/
set_option maxHeartbeats 4000000 in
set_option maxRecDepth 100000 in
theorem kJ5_length_8abf5 (l : Launch) (G : gx_T) (L : List Nat) (f : Nat → va_E) (h b : Nat) (ml n : Int32) (hh : h ∈ L) (fh : f h = .inr (1, [.ref b, .int 0, .int ml, .int n])) : gx_M l G yJ5_length_8abf5 cJ5_length_8abf5 1 (some .int) ({ frames := 0, cells := 0, slots := 0, locals := 0 } : Room) [.ref h] (va_pl L f) (fun v u => v = some (.int n) ∧ u = va_pl L f) := by
  refine gx_start (by decide +kernel) (Nat.le_of_ble_eq_true rfl) ?_
  intro p e s m args below meth c A ls C hr hnm hW hl
  have gX := C.x
  have gB := C.b
  have hl : lv_has ls 1 [(0, .ref h)] := hl
  refine lv_aload_n gX gB dJ5_length_8abf5_0 rfl (lv_at hl 0 rfl) ?_
  refine gx_get C hW fJ5_79 (gx_pl hh fh) rfl dJ5_length_8abf5_1 ?_
  exact gx_iret C hr hW (⟨rfl, rfl⟩) (Nat.le_of_ble_eq_true rfl) (Nat.le_of_ble_eq_true rfl) dJ5_length_8abf5_4
set_option maxHeartbeats 4000000 in
set_option maxRecDepth 100000 in
theorem kJ4_length_8abf5 (l : Launch) (G : gx_T) (L : List Nat) (f : Nat → va_E) (h b : Nat) (ml n : Int32) (hh : h ∈ L) (fh : f h = .inr (1, [.ref b, .int 0, .int ml, .int n])) : gx_M l G yJ4_length_8abf5 cJ4_length_8abf5 1 (some .int) ({ frames := 1, cells := 0, slots := 0, locals := 20 } : Room) [.ref h] (va_pl L f) (fun v u => v = some (.int n) ∧ u = va_pl L f) := by
  refine gx_start (by decide +kernel) (Nat.le_of_ble_eq_true rfl) ?_
  intro p e s m args below meth c A ls C hr hnm hW hl
  have gX := C.x
  have gB := C.b
  have hl : lv_has ls 1 [(0, .ref h)] := hl
  refine lv_aload_n gX gB dJ4_length_8abf5_0 rfl (lv_at hl 0 rfl) ?_
  refine gx_callSU (wr := []) (rest := []) C hW sJ4_343 (kJ5_length_8abf5 l G L f h b ml n hh fh) (gx_pl hh fh) rfl rfl ⟨(Nat.le_of_ble_eq_true rfl), (Nat.le_of_ble_eq_true rfl)⟩ hl.1 rfl (Nat.le_of_ble_eq_true rfl) dJ4_length_8abf5_1 ⟨(Nat.le_of_ble_eq_true rfl), (Nat.le_of_ble_eq_true rfl)⟩ (fun v9 u9 H locs hp hW => ?_)
  obtain ⟨rfl, hu⟩ := hp
  rw [hu] at hW
  have hW : gx_W G A s (va_pl L f) H locs := hW
  refine W.eq (g2 := F0 m 4 ls [.int n]) rfl ?_
  refine W.widen (k := 0) (n := 0) (Nat.le_of_ble_eq_true rfl) (Nat.le_of_ble_eq_true rfl) ?_
  exact gx_iret C hr hW (⟨rfl, rfl⟩) (Nat.le_of_ble_eq_true rfl) (Nat.le_of_ble_eq_true rfl) dJ4_length_8abf5_4
set_option maxHeartbeats 4000000 in
set_option maxRecDepth 100000 in
theorem kJ5_isLatin1_aae02 (l : Launch) (G : gx_T) (L : List Nat) (f : Nat → va_E) (h b : Nat) (ml n : Int32) (hh : h ∈ L) (fh : f h = .inr (1, [.ref b, .int 0, .int ml, .int n])) : gx_M l G yJ5_isLatin1_aae02 cJ5_isLatin1_aae02 1 (some .boolean) ({ frames := 0, cells := 0, slots := 0, locals := 0 } : Room) [.ref h] (va_pl L f) (fun v u => v = some (.int 1) ∧ u = va_pl L f) := by
  refine gx_start (by decide +kernel) (Nat.le_of_ble_eq_true rfl) ?_
  intro p e s m args below meth c A ls C hr hnm hW hl
  have gX := C.x
  have gB := C.b
  have hl : lv_has ls 1 [(0, .ref h)] := hl
  refine gx_getsC C hW (tq_1 75 (by decide +kernel) rfl) dJ5_isLatin1_aae02_0 ?_
  refine lv_if_eq (tgt := 17) gX gB dJ5_isLatin1_aae02_3 (by decide) (fun h9 => absurd (show 1 = (0 : Int32) from h9) (by decide)) (fun _ => ?_)
  refine lv_aload_n gX gB dJ5_isLatin1_aae02_6 rfl (lv_at hl 0 rfl) ?_
  refine gx_get C hW fJ5_22 (gx_pl hh fh) rfl dJ5_isLatin1_aae02_7 ?_
  refine lv_if_ne (tgt := 17) gX gB dJ5_isLatin1_aae02_10 (by decide) (fun h9 => absurd (show ¬ 0 = (0 : Int32) from h9) (by decide)) (fun _ => ?_)
  refine lv_iconst (v := 1) gX gB dJ5_isLatin1_aae02_13 (by decide) ?_
  refine lv_goto (tgt := 18) gX gB dJ5_isLatin1_aae02_14 (by decide) ?_
  exact gx_zret C hr (by decide) hW (⟨rfl, rfl⟩) (Nat.le_of_ble_eq_true rfl) (Nat.le_of_ble_eq_true rfl) dJ5_isLatin1_aae02_18
set_option maxHeartbeats 4000000 in
set_option maxRecDepth 100000 in
theorem kJ1_canEncode_fc78d (l : Launch) (G : gx_T) (ws : va_W) (c0 : Int32) (hc9 : c0 ≤ 255) : gx_M l G yJ1_canEncode_fc78d cJ1_canEncode_fc78d 1 (some .boolean) ({ frames := 0, cells := 0, slots := 0, locals := 0 } : Room) [.int c0] (ws) (fun v u => v = some (.int 1) ∧ u = ws) := by
  refine gx_start (by decide +kernel) (Nat.le_of_ble_eq_true rfl) ?_
  intro p e s m args below meth c A ls C hr hnm hW hl
  have gX := C.x
  have gB := C.b
  have hl : lv_has ls 1 [(0, .int c0)] := hl
  refine lv_iload_n gX gB dJ1_canEncode_fc78d_0 rfl (lv_at hl 0 rfl) ?_
  refine lv_sipush (v := 255) gX gB dJ1_canEncode_fc78d_1 (by decide) ?_
  refine lv_icmp_gt (tgt := 11) gX gB dJ1_canEncode_fc78d_4 (by decide) (fun h9 => absurd (show (255 : Int32) < c0 from h9) (Int32.not_lt.mpr hc9)) (fun _ => ?_)
  refine lv_iconst (v := 1) gX gB dJ1_canEncode_fc78d_7 (by decide) ?_
  refine lv_goto (tgt := 12) gX gB dJ1_canEncode_fc78d_8 (by decide) ?_
  exact gx_zret C hr (by decide) hW (⟨rfl, rfl⟩) (Nat.le_of_ble_eq_true rfl) (Nat.le_of_ble_eq_true rfl) dJ1_canEncode_fc78d_12
