/-! STRINGBUILDER: ensureCapacityInternal. -/
theorem nI_subLe {a b : Nat} (h : a ≤ b) (hb : b < 2 ^ 30) : nI a - nI b ≤ 0 := by
  rw [Int32.le_iff_toInt_le, pk_sub_toInt (by omega) hb]
  show (a : Int) - b ≤ 0
  omega
theorem nI_subGt {a b : Nat} (h : b < a) (ha : a < 2 ^ 30) : ¬ nI a - nI b ≤ 0 := by
  rw [Int32.le_iff_toInt_le, pk_sub_toInt ha (by omega)]
  show ¬ (a : Int) - b ≤ 0
  omega
set_option maxHeartbeats 4000000 in
set_option maxRecDepth 100000 in
theorem kJ5_ensureCapacityInternal_d00dfA (l : Launch) (G : gx_T) (L : List Nat) (f : Nat → va_E) (h b cap k : Nat) (ml n : Int32) (t : Nat → Int32) (hh : h ∈ L) (fh : f h = .inr (1, [.ref b, .int 0, .int ml, .int n])) (hb : b ∈ L) (fb : f b = .inl (G.2.1 0, cap, .inl t)) (hcap : cap ≤ 1000) (hc : k ≤ cap) : gx_M l G yJ5_ensureCapacityInternal_d00df cJ5_ensureCapacityInternal_d00df 3 none ({ frames := 3, cells := 1, slots := 400, locals := 88 } : Room) [.ref h, .int (nI k)] (va_pl L f) (fun v u => v = none ∧ u = va_pl L f) := by
  refine gx_start (by decide +kernel) (Nat.le_of_ble_eq_true rfl) ?_
  intro p e s m args below meth c A ls C hr hnm hW hl
  have gX := C.x
  have gB := C.b
  have hl : lv_has ls 3 [(0, .ref h), (1, .int (nI k))] := hl
  refine lv_aload_n gX gB dJ5_ensureCapacityInternal_d00df_0 rfl (lv_at hl 0 rfl) ?_
  refine gx_get C hW fJ5_15 (gx_pl hh fh) rfl dJ5_ensureCapacityInternal_d00df_1 ?_
  refine gx_alen C hW 0 rfl (gx_pl hb fb) dJ5_ensureCapacityInternal_d00df_4 ?_
  refine lv_aload_n gX gB dJ5_ensureCapacityInternal_d00df_5 rfl (lv_at hl 0 rfl) ?_
  refine gx_get C hW fJ5_22 (gx_pl hh fh) rfl dJ5_ensureCapacityInternal_d00df_6 ?_
  refine lv_ishr gX gB dJ5_ensureCapacityInternal_d00df_9 ?_
  refine gx_topi (show ((nI cap) >>> (0 &&& 31)) = nI cap from sr_0 _) ?_
  refine lv_istore_n (lv' := [(2, .int (nI cap)), (0, .ref h), (1, .int (nI k))]) gX gB dJ5_ensureCapacityInternal_d00df_10 rfl hl (by decide) rfl (fun ls hl => ?_)
  refine lv_iload_n gX gB dJ5_ensureCapacityInternal_d00df_11 rfl (lv_at hl 2 rfl) ?_
  refine lv_iload_n gX gB dJ5_ensureCapacityInternal_d00df_12 rfl (lv_at hl 0 rfl) ?_
  refine lv_isub gX gB dJ5_ensureCapacityInternal_d00df_13 ?_
  refine lv_if_le (tgt := 38) gX gB dJ5_ensureCapacityInternal_d00df_14 (by decide) (fun _ => ?_) (fun h9 => absurd (show ((nI k) - (nI cap)) ≤ (0 : Int32) from nI_subLe hc (by omega)) h9)
  exact gx_vret C hr hW (⟨rfl, rfl⟩) (Nat.le_of_ble_eq_true rfl) (Nat.le_of_ble_eq_true rfl) dJ5_ensureCapacityInternal_d00df_38
set_option maxHeartbeats 4000000 in
set_option maxRecDepth 100000 in
theorem kJ5_ensureCapacityInternal_d00dfB (l : Launch) (G : gx_T) (L : List Nat) (f : Nat → va_E) (h b cap : Nat) (ml : Int32) (t : Nat → Int32) (hh : h ∈ L) (fh : f h = .inr (1, [.ref b, .int 0, .int ml, .int (nI cap)])) (hb : b ∈ L) (fb : f b = .inl (G.2.1 0, cap, .inl t)) (hcap : cap ≤ 190) (hfi : ∀ j : Nat, j < cap → fits .byte (.int (t j)) = true) : gx_M l G yJ5_ensureCapacityInternal_d00df cJ5_ensureCapacityInternal_d00df 3 none ({ frames := 3, cells := 1, slots := 400, locals := 88 } : Room) [.ref h, .int (nI (cap + 1))] (va_pl L f) (fun v u => v = none ∧ ∃ (q : Nat) (f1 : Nat → va_E), q ∉ L ∧ u = va_pl (L ++ [q]) f1 ∧ f1 h = .inr (1, [.ref q, .int 0, .int ml, .int (nI cap)]) ∧ f1 q = .inl (G.2.1 0, cap + max 1 (cap + 2), .inl (va_cpy t (fun _ => 0) 0 0 cap)) ∧ ∀ a, a ≠ h → a ≠ q → f1 a = f a) := by
  refine gx_start (by decide +kernel) (Nat.le_of_ble_eq_true rfl) ?_
  intro p e s m args below meth c A ls C hr hnm hW hl
  have gX := C.x
  have gB := C.b
  have hl : lv_has ls 3 [(0, .ref h), (1, .int (nI (cap + 1)))] := hl
  refine lv_aload_n gX gB dJ5_ensureCapacityInternal_d00df_0 rfl (lv_at hl 0 rfl) ?_
  refine gx_get C hW fJ5_15 (gx_pl hh fh) rfl dJ5_ensureCapacityInternal_d00df_1 ?_
  refine gx_alen C hW 0 rfl (gx_pl hb fb) dJ5_ensureCapacityInternal_d00df_4 ?_
  refine lv_aload_n gX gB dJ5_ensureCapacityInternal_d00df_5 rfl (lv_at hl 0 rfl) ?_
  refine gx_get C hW fJ5_22 (gx_pl hh fh) rfl dJ5_ensureCapacityInternal_d00df_6 ?_
  refine lv_ishr gX gB dJ5_ensureCapacityInternal_d00df_9 ?_
  refine gx_topi (show ((nI cap) >>> (0 &&& 31)) = nI cap from sr_0 _) ?_
  refine lv_istore_n (lv' := [(2, .int (nI cap)), (0, .ref h), (1, .int (nI (cap + 1)))]) gX gB dJ5_ensureCapacityInternal_d00df_10 rfl hl (by decide) rfl (fun ls hl => ?_)
  refine lv_iload_n gX gB dJ5_ensureCapacityInternal_d00df_11 rfl (lv_at hl 2 rfl) ?_
  refine lv_iload_n gX gB dJ5_ensureCapacityInternal_d00df_12 rfl (lv_at hl 0 rfl) ?_
  refine lv_isub gX gB dJ5_ensureCapacityInternal_d00df_13 ?_
  refine lv_if_le (tgt := 38) gX gB dJ5_ensureCapacityInternal_d00df_14 (by decide) (fun h9 => absurd (show ((nI (cap + 1)) - (nI cap)) ≤ (0 : Int32) from h9) (nI_subGt (Nat.lt_succ_self cap) (by omega))) (fun _ => ?_)
  refine lv_aload_n gX gB dJ5_ensureCapacityInternal_d00df_17 rfl (lv_at hl 1 rfl) ?_
  refine lv_aload_n gX gB dJ5_ensureCapacityInternal_d00df_18 rfl (lv_at hl 1 rfl) ?_
  refine gx_get C hW fJ5_15 (gx_pl hh fh) rfl dJ5_ensureCapacityInternal_d00df_19 ?_
  refine lv_aload_n gX gB dJ5_ensureCapacityInternal_d00df_22 rfl (lv_at hl 1 rfl) ?_
  refine lv_iload_n gX gB dJ5_ensureCapacityInternal_d00df_23 rfl (lv_at hl 2 rfl) ?_
  refine gx_callVK (wr := []) (rest := [.ref b, .ref h]) C hW sJ5_104 (kJ5_newCapacity_0f7a4 l G L f h b cap ml t hh fh hb fb (by omega)) (gx_pl hh fh) rfl rfl ⟨(Nat.le_of_ble_eq_true rfl), (Nat.le_of_ble_eq_true rfl)⟩ hl.1 rfl (Nat.le_of_ble_eq_true rfl) dJ5_ensureCapacityInternal_d00df_24 ⟨(Nat.le_of_ble_eq_true rfl), (Nat.le_of_ble_eq_true rfl)⟩ (fun v9 u9 H locs hp hW => ?_)
  obtain ⟨rfl, hu⟩ := hp
  rw [hu] at hW
  have hW : gx_W G A s (va_pl L f) H locs := hW
  refine W.eq (g2 := F0 m 27 ls [.int (nI (cap + max 1 (cap + 2))), .ref b, .ref h]) rfl ?_
  refine W.widen (k := 0) (n := 0) (Nat.le_of_ble_eq_true rfl) (Nat.le_of_ble_eq_true rfl) ?_
  refine lv_aload_n gX gB dJ5_ensureCapacityInternal_d00df_27 rfl (lv_at hl 1 rfl) ?_
  refine gx_get C hW fJ5_22 (gx_pl hh fh) rfl dJ5_ensureCapacityInternal_d00df_28 ?_
  refine lv_ishl gX gB dJ5_ensureCapacityInternal_d00df_31 ?_
  refine gx_topi (show ((nI (cap + max 1 (cap + 2))) <<< (0 &&& 31)) = nI (cap + max 1 (cap + 2)) from sh_0 _) ?_
  refine gx_callS (wr := []) (rest := [.ref h]) C hW sJ5_108 (kJ7_copyOf_9075b l G L f b cap (cap + max 1 (cap + 2)) t hb fb (by omega) (by omega) hfi) rfl ⟨(Nat.le_of_ble_eq_true rfl), (Nat.le_of_ble_eq_true rfl)⟩ hl.1 rfl (Nat.le_of_ble_eq_true rfl) dJ5_ensureCapacityInternal_d00df_32 ⟨(Nat.le_of_ble_eq_true rfl), (Nat.le_of_ble_eq_true rfl)⟩ (fun v9 u9 H locs hp hW => ?_)
  obtain ⟨q, hq, rfl, hu⟩ := hp
  rw [hu] at hW
  have hW : gx_W G A s (va_pl (L ++ [q]) (va_up f q (.inl (G.2.1 0, cap + max 1 (cap + 2), .inl (va_cpy t (fun _ => 0) 0 0 cap))))) H locs := hW
  refine W.eq (g2 := F0 m 35 ls [.ref q, .ref h]) rfl ?_
  refine W.widen (k := 1) (n := 400) (Nat.le_of_ble_eq_true rfl) (Nat.le_of_ble_eq_true rfl) ?_
  have hhq : h ≠ q := fun zz => hq (by rw [← zz]; exact hh)
  refine gx_put C hW clJ4 fJ5_15 (List.mem_append_left _ hh) ((va_up_ne _ _ hhq).trans fh) (Or.inl rfl) rfl rfl (Nat.le_of_ble_eq_true rfl) dJ5_ensureCapacityInternal_d00df_35 (fun H locs hW => ?_)
  obtain ⟨f11, hf11⟩ : ∃ zz, zz = va_up (va_up f q (.inl (G.2.1 0, cap + max 1 (cap + 2), .inl (va_cpy t (fun _ => 0) 0 0 cap)))) h (.inr (1, [.ref q, .int 0, .int ml, .int (nI cap)])) := ⟨_, rfl⟩
  have hW : gx_W G A s (va_pl (L ++ [q]) f11) H locs := by rw [hf11]; exact hW
  have f11_h : f11 h = .inr (1, [.ref q, .int 0, .int ml, .int (nI cap)]) := by rw [hf11]; exact va_up_self _ _ _
  have f11_q : f11 q = .inl (G.2.1 0, cap + max 1 (cap + 2), .inl (va_cpy t (fun _ => 0) 0 0 cap)) := by rw [hf11, va_up_ne _ _ (fun zz => hhq zz.symm)]; exact (va_up_self _ _ _)
  exact gx_vret C hr hW (⟨rfl, q, f11, hq, rfl, f11_h, f11_q, fun a k1 k2 => by rw [hf11, va_up_ne _ _ k1, va_up_ne _ _ k2]⟩) (Nat.le_of_ble_eq_true rfl) (Nat.le_of_ble_eq_true rfl) dJ5_ensureCapacityInternal_d00df_38
