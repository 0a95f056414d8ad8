/-! STRINGBUILDER: append(char). -/
theorem i2b_nI {ch : Nat} (h : ch < 128) : (nI ch).toInt8.toInt32 = nI ch := by
  have : ∀ n : Nat, n < 128 → (nI n).toInt8.toInt32 = nI n := by decide +kernel
  exact this ch h
theorem nar_nI {ch : Nat} (h : ch < 128) : vp_nar .byte (nI ch) = nI ch := i2b_nI h
set_option maxHeartbeats 4000000 in
set_option maxRecDepth 100000 in
theorem kJ5_append_3fe6fA (l : Launch) (G : gx_T) (L : List Nat) (f : Nat → va_E) (h b cap n ch : Nat) (ml : Int32) (t : Nat → Int32) (hh : h ∈ L) (fh : f h = .inr (1, [.ref b, .int 0, .int ml, .int (nI n)])) (hb : b ∈ L) (fb : f b = .inl (G.2.1 0, cap, .inl t)) (hcap : cap ≤ 1000) (hn : n < cap) (hch : ch < 128) : gx_M l G yJ5_append_3fe6f cJ5_append_3fe6f 2 (some (.object "java/lang/AbstractStringBuilder")) ({ frames := 4, cells := 1, slots := 400, locals := 110 } : Room) [.ref h, .int (nI ch)] (va_pl L f) (fun v u => v = some (.ref h) ∧ ∃ f1 : Nat → va_E, u = va_pl L f1 ∧ f1 h = .inr (1, [.ref b, .int 0, .int ml, .int (nI (n + 1))]) ∧ f1 b = .inl (G.2.1 0, cap, .inl (upd t n (nI ch))) ∧ ∀ a, a ≠ h → a ≠ b → f1 a = f a) := by
  refine gx_start (by decide +kernel) (Nat.le_of_ble_eq_true rfl) ?_
  intro p e s m args below meth c A ls C hr hnm hW hl
  have gX := C.x
  have gB := C.b
  have hl : lv_has ls 2 [(0, .ref h), (1, .int (nI ch))] := hl
  refine lv_aload_n gX gB dJ5_append_3fe6f_0 rfl (lv_at hl 0 rfl) ?_
  refine lv_aload_n gX gB dJ5_append_3fe6f_1 rfl (lv_at hl 0 rfl) ?_
  refine gx_get C hW fJ5_79 (gx_pl hh fh) rfl dJ5_append_3fe6f_2 ?_
  refine lv_iconst (v := 1) gX gB dJ5_append_3fe6f_5 (by decide) ?_
  refine lv_iadd gX gB dJ5_append_3fe6f_6 ?_
  refine gx_topi (show ((nI n) + 1) = nI (n + 1) from nI_1 n) ?_
  refine gx_callVK (wr := []) (rest := []) C hW sJ5_100 (kJ5_ensureCapacityInternal_d00dfA l G L f h b cap (n + 1) ml (nI n) t hh fh hb fb hcap hn) (gx_pl hh fh) rfl rfl ⟨(Nat.le_of_ble_eq_true rfl), (Nat.le_of_ble_eq_true rfl)⟩ hl.1 rfl (Nat.le_of_ble_eq_true rfl) dJ5_append_3fe6f_7 ⟨(Nat.le_of_ble_eq_true rfl), (Nat.le_of_ble_eq_true rfl)⟩ (fun v9 u9 H locs hp hW => ?_)
  obtain ⟨rfl, hu⟩ := hp
  rw [hu] at hW
  have hW : gx_W G A s (va_pl L f) H locs := hW
  refine W.eq (g2 := F0 m 10 ls []) rfl ?_
  refine W.widen (k := 1) (n := 400) (Nat.le_of_ble_eq_true rfl) (Nat.le_of_ble_eq_true rfl) ?_
  refine lv_aload_n gX gB dJ5_append_3fe6f_10 rfl (lv_at hl 0 rfl) ?_
  refine gx_callU (wr := []) (rest := []) C hW sJ5_83 (kJ5_isLatin1_aae02 l G L f h b ml (nI n) hh fh) (gx_pl hh fh) rfl rfl ⟨(Nat.le_of_ble_eq_true rfl), (Nat.le_of_ble_eq_true rfl)⟩ hl.1 rfl (Nat.le_of_ble_eq_true rfl) dJ5_append_3fe6f_11 ⟨(Nat.le_of_ble_eq_true rfl), (Nat.le_of_ble_eq_true rfl)⟩ (fun v9 u9 H locs hp hW => ?_)
  obtain ⟨rfl, hu⟩ := hp
  rw [hu] at hW
  have hW : gx_W G A s (va_pl L f) H locs := hW
  refine W.eq (g2 := F0 m 14 ls [.int 1]) rfl ?_
  refine W.widen (k := 1) (n := 400) (Nat.le_of_ble_eq_true rfl) (Nat.le_of_ble_eq_true rfl) ?_
  refine lv_if_eq (tgt := 45) gX gB dJ5_append_3fe6f_14 (by decide) (fun h9 => absurd (show 1 = (0 : Int32) from h9) (by decide)) (fun _ => ?_)
  refine lv_iload_n gX gB dJ5_append_3fe6f_17 rfl (lv_at hl 1 rfl) ?_
  refine gx_callS (wr := []) (rest := []) C hW sJ5_191 (kJ1_canEncode_fc78d l G (va_pl L f) (nI ch) (nI_le (show ch ≤ 255 by omega) (by decide))) rfl ⟨(Nat.le_of_ble_eq_true rfl), (Nat.le_of_ble_eq_true rfl)⟩ hl.1 rfl (Nat.le_of_ble_eq_true rfl) dJ5_append_3fe6f_18 ⟨(Nat.le_of_ble_eq_true rfl), (Nat.le_of_ble_eq_true rfl)⟩ (fun v9 u9 H locs hp hW => ?_)
  obtain ⟨rfl, hu⟩ := hp
  rw [hu] at hW
  have hW : gx_W G A s (va_pl L f) H locs := hW
  refine W.eq (g2 := F0 m 21 ls [.int 1]) rfl ?_
  refine W.widen (k := 1) (n := 400) (Nat.le_of_ble_eq_true rfl) (Nat.le_of_ble_eq_true rfl) ?_
  refine lv_if_eq (tgt := 45) gX gB dJ5_append_3fe6f_21 (by decide) (fun h9 => absurd (show 1 = (0 : Int32) from h9) (by decide)) (fun _ => ?_)
  refine lv_aload_n gX gB dJ5_append_3fe6f_24 rfl (lv_at hl 0 rfl) ?_
  refine gx_get C hW fJ5_15 (gx_pl hh fh) rfl dJ5_append_3fe6f_25 ?_
  refine lv_aload_n gX gB dJ5_append_3fe6f_28 rfl (lv_at hl 0 rfl) ?_
  refine lv_dup gX gB dJ5_append_3fe6f_29 rfl ?_
  refine gx_get C hW fJ5_79 (gx_pl hh fh) rfl dJ5_append_3fe6f_30 ?_
  refine lv_dup_x1 gX gB dJ5_append_3fe6f_33 rfl rfl ?_
  refine lv_iconst (v := 1) gX gB dJ5_append_3fe6f_34 (by decide) ?_
  refine lv_iadd gX gB dJ5_append_3fe6f_35 ?_
  refine gx_topi (show ((nI n) + 1) = nI (n + 1) from nI_1 n) ?_
  refine gx_put C hW clJ4 fJ5_79 hh fh (Or.inl rfl) rfl rfl (Nat.le_of_ble_eq_true rfl) dJ5_append_3fe6f_36 (fun H locs hW => ?_)
  obtain ⟨f11, hf11⟩ : ∃ zz, zz = va_up f h (.inr (1, [.ref b, .int 0, .int ml, .int (nI (n + 1))])) := ⟨_, rfl⟩
  have hW : gx_W G A s (va_pl L f11) H locs := by rw [hf11]; exact hW
  have f11_h : f11 h = .inr (1, [.ref b, .int 0, .int ml, .int (nI (n + 1))]) := by rw [hf11]; exact va_up_self _ _ _
  have f11_b : f11 b = .inl (G.2.1 0, cap, .inl t) := by rw [hf11, va_up_ne _ _ (gx_ne fb fh (by simp))]; exact fb
  refine lv_iload_n gX gB dJ5_append_3fe6f_39 rfl (lv_at hl 1 rfl) ?_
  refine lv_i2b gX gB dJ5_append_3fe6f_40 rfl ?_
  refine gx_topi (show ((nI ch).toInt8.toInt32) = nI ch from i2b_nI hch) ?_
  refine gx_bast C hW hb f11_b (j := n) rfl (by omega) (by omega) dJ5_append_3fe6f_41 (fun H locs hW => ?_)
  rw [nar_nI hch] at hW
  obtain ⟨f12, hf12⟩ : ∃ zz, zz = va_up f11 b (.inl (G.2.1 0, cap, .inl (upd t n (nI ch)))) := ⟨_, rfl⟩
  have hW : gx_W G A s (va_pl L f12) H locs := by rw [hf12]; exact hW
  have f12_h : f12 h = .inr (1, [.ref b, .int 0, .int ml, .int (nI (n + 1))]) := by rw [hf12, va_up_ne _ _ (gx_ne f11_h f11_b (by simp))]; exact f11_h
  have f12_b : f12 b = .inl (G.2.1 0, cap, .inl (upd t n (nI ch))) := by rw [hf12]; exact va_up_self _ _ _
  refine lv_goto (tgt := 75) gX gB dJ5_append_3fe6f_42 (by decide) ?_
  refine lv_aload_n gX gB dJ5_append_3fe6f_75 rfl (lv_at hl 0 rfl) ?_
  exact gx_aret C hr (Or.inl ⟨_, rfl⟩) hW (⟨rfl, f12, rfl, f12_h, f12_b, fun a k1 k2 => by rw [hf12, va_up_ne _ _ k2, hf11, va_up_ne _ _ k1]⟩) (Nat.le_of_ble_eq_true rfl) (Nat.le_of_ble_eq_true rfl) dJ5_append_3fe6f_76
set_option maxHeartbeats 4000000 in
set_option maxRecDepth 100000 in
theorem kJ5_append_3fe6fB (l : Launch) (G : gx_T) (L : List Nat) (f : Nat → va_E) (h b cap : Nat) (ml : Int32) (t : Nat → Int32) (hh : h ∈ L) (fh : f h = .inr (1, [.ref b, .int 0, .int ml, .int (nI cap)])) (hb : b ∈ L) (fb : f b = .inl (G.2.1 0, cap, .inl t)) (hcap : cap ≤ 190) (hfi : ∀ j : Nat, j < cap → fits .byte (.int (t j)) = true) (ch : Nat) (hch : ch < 128) : gx_M l G yJ5_append_3fe6f cJ5_append_3fe6f 2 (some (.object "java/lang/AbstractStringBuilder")) ({ frames := 4, cells := 1, slots := 400, locals := 110 } : Room) [.ref h, .int (nI ch)] (va_pl L f) (fun v u => v = some (.ref h) ∧ ∃ (q : Nat) (f1 : Nat → va_E), q ∉ L ∧ u = va_pl (L ++ [q]) f1 ∧ f1 h = .inr (1, [.ref q, .int 0, .int ml, .int (nI (cap + 1))]) ∧ f1 q = .inl (G.2.1 0, cap + max 1 (cap + 2), .inl (upd (va_cpy t (fun _ => 0) 0 0 cap) cap (nI ch))) ∧ ∀ a, a ≠ h → a ≠ q → f1 a = f a) := by
  refine gx_start (by decide +kernel) (Nat.le_of_ble_eq_true rfl) ?_
  intro p e s m args below meth c A ls C hr hnm hW hl
  have gX := C.x
  have gB := C.b
  have hl : lv_has ls 2 [(0, .ref h), (1, .int (nI ch))] := hl
  refine lv_aload_n gX gB dJ5_append_3fe6f_0 rfl (lv_at hl 0 rfl) ?_
  refine lv_aload_n gX gB dJ5_append_3fe6f_1 rfl (lv_at hl 0 rfl) ?_
  refine gx_get C hW fJ5_79 (gx_pl hh fh) rfl dJ5_append_3fe6f_2 ?_
  refine lv_iconst (v := 1) gX gB dJ5_append_3fe6f_5 (by decide) ?_
  refine lv_iadd gX gB dJ5_append_3fe6f_6 ?_
  refine gx_topi (show ((nI cap) + 1) = nI (cap + 1) from nI_1 cap) ?_
  refine gx_callVK (wr := []) (rest := []) C hW sJ5_100 (kJ5_ensureCapacityInternal_d00dfB l G L f h b cap ml t hh fh hb fb hcap hfi) (gx_pl hh fh) rfl rfl ⟨(Nat.le_of_ble_eq_true rfl), (Nat.le_of_ble_eq_true rfl)⟩ hl.1 rfl (Nat.le_of_ble_eq_true rfl) dJ5_append_3fe6f_7 ⟨(Nat.le_of_ble_eq_true rfl), (Nat.le_of_ble_eq_true rfl)⟩ (fun v9 u9 H locs hp hW => ?_)
  obtain ⟨rfl, q, f9, hq, hu, e1, e2, e3⟩ := hp
  rw [hu] at hW
  have hW : gx_W G A s (va_pl (L ++ [q]) f9) H locs := hW
  refine W.eq (g2 := F0 m 10 ls []) rfl ?_
  refine W.widen (k := 1) (n := 400) (Nat.le_of_ble_eq_true rfl) (Nat.le_of_ble_eq_true rfl) ?_
  refine lv_aload_n gX gB dJ5_append_3fe6f_10 rfl (lv_at hl 0 rfl) ?_
  refine gx_callU (wr := []) (rest := []) C hW sJ5_83 (kJ5_isLatin1_aae02 l G (L ++ [q]) f9 h q ml (nI cap) (List.mem_append_left _ hh) e1) (gx_pl (List.mem_append_left _ hh) e1) rfl rfl ⟨(Nat.le_of_ble_eq_true rfl), (Nat.le_of_ble_eq_true rfl)⟩ hl.1 rfl (Nat.le_of_ble_eq_true rfl) dJ5_append_3fe6f_11 ⟨(Nat.le_of_ble_eq_true rfl), (Nat.le_of_ble_eq_true rfl)⟩ (fun v9 u9 H locs hp hW => ?_)
  obtain ⟨rfl, hu⟩ := hp
  rw [hu] at hW
  have hW : gx_W G A s (va_pl (L ++ [q]) f9) H locs := hW
  refine W.eq (g2 := F0 m 14 ls [.int 1]) rfl ?_
  refine W.widen (k := 1) (n := 400) (Nat.le_of_ble_eq_true rfl) (Nat.le_of_ble_eq_true rfl) ?_
  refine lv_if_eq (tgt := 45) gX gB dJ5_append_3fe6f_14 (by decide) (fun h9 => absurd (show 1 = (0 : Int32) from h9) (by decide)) (fun _ => ?_)
  refine lv_iload_n gX gB dJ5_append_3fe6f_17 rfl (lv_at hl 1 rfl) ?_
  refine gx_callS (wr := []) (rest := []) C hW sJ5_191 (kJ1_canEncode_fc78d l G (va_pl (L ++ [q]) f9) (nI ch) (nI_le (show ch ≤ 255 by omega) (by decide))) rfl ⟨(Nat.le_of_ble_eq_true rfl), (Nat.le_of_ble_eq_true rfl)⟩ hl.1 rfl (Nat.le_of_ble_eq_true rfl) dJ5_append_3fe6f_18 ⟨(Nat.le_of_ble_eq_true rfl), (Nat.le_of_ble_eq_true rfl)⟩ (fun v9 u9 H locs hp hW => ?_)
  obtain ⟨rfl, hu⟩ := hp
  rw [hu] at hW
  have hW : gx_W G A s (va_pl (L ++ [q]) f9) H locs := hW
  refine W.eq (g2 := F0 m 21 ls [.int 1]) rfl ?_
  refine W.widen (k := 1) (n := 400) (Nat.le_of_ble_eq_true rfl) (Nat.le_of_ble_eq_true rfl) ?_
  refine lv_if_eq (tgt := 45) gX gB dJ5_append_3fe6f_21 (by decide) (fun h9 => absurd (show 1 = (0 : Int32) from h9) (by decide)) (fun _ => ?_)
  refine lv_aload_n gX gB dJ5_append_3fe6f_24 rfl (lv_at hl 0 rfl) ?_
  refine gx_get C hW fJ5_15 (gx_pl (List.mem_append_left _ hh) e1) rfl dJ5_append_3fe6f_25 ?_
  refine lv_aload_n gX gB dJ5_append_3fe6f_28 rfl (lv_at hl 0 rfl) ?_
  refine lv_dup gX gB dJ5_append_3fe6f_29 rfl ?_
  refine gx_get C hW fJ5_79 (gx_pl (List.mem_append_left _ hh) e1) rfl dJ5_append_3fe6f_30 ?_
  refine lv_dup_x1 gX gB dJ5_append_3fe6f_33 rfl rfl ?_
  refine lv_iconst (v := 1) gX gB dJ5_append_3fe6f_34 (by decide) ?_
  refine lv_iadd gX gB dJ5_append_3fe6f_35 ?_
  refine gx_topi (show ((nI cap) + 1) = nI (cap + 1) from nI_1 cap) ?_
  refine gx_put C hW clJ4 fJ5_79 (List.mem_append_left _ hh) e1 (Or.inl rfl) rfl rfl (Nat.le_of_ble_eq_true rfl) dJ5_append_3fe6f_36 (fun H locs hW => ?_)
  obtain ⟨f13, hf13⟩ : ∃ zz, zz = va_up f9 h (.inr (1, [.ref q, .int 0, .int ml, .int (nI (cap + 1))])) := ⟨_, rfl⟩
  have hW : gx_W G A s (va_pl (L ++ [q]) f13) H locs := by rw [hf13]; exact hW
  have f13_h : f13 h = .inr (1, [.ref q, .int 0, .int ml, .int (nI (cap + 1))]) := by rw [hf13]; exact va_up_self _ _ _
  have f13_q : f13 q = .inl (G.2.1 0, cap + max 1 (cap + 2), .inl (va_cpy t (fun _ => 0) 0 0 cap)) := by rw [hf13, va_up_ne _ _ (gx_ne e2 e1 (by simp))]; exact e2
  refine lv_iload_n gX gB dJ5_append_3fe6f_39 rfl (lv_at hl 1 rfl) ?_
  refine lv_i2b gX gB dJ5_append_3fe6f_40 rfl ?_
  refine gx_topi (show ((nI ch).toInt8.toInt32) = nI ch from i2b_nI hch) ?_
  refine gx_bast C hW (List.mem_append_right _ List.mem_cons_self) f13_q (j := cap) rfl (by omega) (by omega) dJ5_append_3fe6f_41 (fun H locs hW => ?_)
  rw [nar_nI hch] at hW
  obtain ⟨f14, hf14⟩ : ∃ zz, zz = va_up f13 q (.inl (G.2.1 0, cap + max 1 (cap + 2), .inl (upd (va_cpy t (fun _ => 0) 0 0 cap) cap (nI ch)))) := ⟨_, rfl⟩
  have hW : gx_W G A s (va_pl (L ++ [q]) f14) H locs := by rw [hf14]; exact hW
  have f14_h : f14 h = .inr (1, [.ref q, .int 0, .int ml, .int (nI (cap + 1))]) := by rw [hf14, va_up_ne _ _ (gx_ne f13_h f13_q (by simp))]; exact f13_h
  have f14_q : f14 q = .inl (G.2.1 0, cap + max 1 (cap + 2), .inl (upd (va_cpy t (fun _ => 0) 0 0 cap) cap (nI ch))) := by rw [hf14]; exact va_up_self _ _ _
  refine lv_goto (tgt := 75) gX gB dJ5_append_3fe6f_42 (by decide) ?_
  refine lv_aload_n gX gB dJ5_append_3fe6f_75 rfl (lv_at hl 0 rfl) ?_
  exact gx_aret C hr (Or.inl ⟨_, rfl⟩) hW (⟨rfl, q, f14, hq, rfl, f14_h, f14_q, fun a k1 k2 => by rw [hf14, va_up_ne _ _ k2, hf13, va_up_ne _ _ k1]; exact e3 a k1 k2⟩) (Nat.le_of_ble_eq_true rfl) (Nat.le_of_ble_eq_true rfl) dJ5_append_3fe6f_76
