/-! STRINGBUILDER: newCapacity, copyOf. -/
theorem sh_0 (x : Int32) : x <<< ((0 : Int32) &&& 31) = x := by
  rw [show ((0 : Int32) &&& 31) = 0 by decide]
  simp
theorem sr_0 (x : Int32) : x >>> ((0 : Int32) &&& 31) = x := by
  rw [show ((0 : Int32) &&& 31) = 0 by decide]
  simp
theorem nI_subN {a : Nat} (h : a ≤ a + 1) : nI (a + 1) - nI a = nI 1 := by
  rw [← nI_add a 1, Int32.add_comm, Int32.add_sub_cancel]
set_option maxHeartbeats 4000000 in
set_option maxRecDepth 100000 in
theorem kJ5_newCapacity_0f7a4 (l : Launch) (G : gx_T) (L : List Nat) (f : Nat → va_E) (h b cap : Nat) (ml : Int32) (t : Nat → Int32) (hh : h ∈ L) (fh : f h = .inr (1, [.ref b, .int 0, .int ml, .int (nI cap)])) (hb : b ∈ L) (fb : f b = .inl (G.2.1 0, cap, .inl t)) (hcap : cap ≤ 1000) : gx_M l G yJ5_newCapacity_0f7a4 cJ5_newCapacity_0f7a4 6 (some .int) ({ frames := 2, cells := 0, slots := 0, locals := 63 } : Room) [.ref h, .int (nI (cap + 1))] (va_pl L f) (fun v u => v = some (.int (nI (cap + max 1 (cap + 2)))) ∧ u = va_pl L f) := by
  refine gx_start (by decide +kernel) (Nat.le_of_ble_eq_true rfl) ?_
  intro p e s m args below meth c A ls C hr hnm hW hl
  have gX := C.x
  have gB := C.b
  have hl : lv_has ls 6 [(0, .ref h), (1, .int (nI (cap + 1)))] := hl
  refine lv_aload_n gX gB dJ5_newCapacity_0f7a4_0 rfl (lv_at hl 0 rfl) ?_
  refine gx_get C hW fJ5_15 (gx_pl hh fh) rfl dJ5_newCapacity_0f7a4_1 ?_
  refine gx_alen C hW 0 rfl (gx_pl hb fb) dJ5_newCapacity_0f7a4_4 ?_
  refine lv_istore_n (lv' := [(2, .int (nI cap)), (0, .ref h), (1, .int (nI (cap + 1)))]) gX gB dJ5_newCapacity_0f7a4_5 rfl hl (by decide) rfl (fun ls hl => ?_)
  refine lv_iload_n gX gB dJ5_newCapacity_0f7a4_6 rfl (lv_at hl 2 rfl) ?_
  refine lv_aload_n gX gB dJ5_newCapacity_0f7a4_7 rfl (lv_at hl 1 rfl) ?_
  refine gx_get C hW fJ5_22 (gx_pl hh fh) rfl dJ5_newCapacity_0f7a4_8 ?_
  refine lv_ishl gX gB dJ5_newCapacity_0f7a4_11 ?_
  refine gx_topi (show ((nI (cap + 1)) <<< (0 &&& 31)) = nI (cap + 1) from sh_0 _) ?_
  refine lv_istore_n (lv' := [(3, .int (nI (cap + 1))), (2, .int (nI cap)), (0, .ref h), (1, .int (nI (cap + 1)))]) gX gB dJ5_newCapacity_0f7a4_12 rfl hl (by decide) rfl (fun ls hl => ?_)
  refine lv_iload_n gX gB dJ5_newCapacity_0f7a4_13 rfl (lv_at hl 0 rfl) ?_
  refine lv_iload_n gX gB dJ5_newCapacity_0f7a4_14 rfl (lv_at hl 1 rfl) ?_
  refine lv_isub gX gB dJ5_newCapacity_0f7a4_15 ?_
  refine gx_topi (show ((nI (cap + 1)) - (nI cap)) = nI 1 from nI_subN (Nat.le_succ _)) ?_
  refine lv_istore (lv' := [(4, .int (nI 1)), (3, .int (nI (cap + 1))), (2, .int (nI cap)), (0, .ref h), (1, .int (nI (cap + 1)))]) gX gB dJ5_newCapacity_0f7a4_16 hl (by decide) rfl (fun ls hl => ?_)
  refine lv_iload_n gX gB dJ5_newCapacity_0f7a4_18 rfl (lv_at hl 2 rfl) ?_
  refine lv_iload gX gB dJ5_newCapacity_0f7a4_19 (lv_at hl 0 rfl) ?_
  refine lv_iload_n gX gB dJ5_newCapacity_0f7a4_21 rfl (lv_at hl 2 rfl) ?_
  refine lv_iconst (v := 2) gX gB dJ5_newCapacity_0f7a4_22 (by decide) ?_
  refine lv_aload_n gX gB dJ5_newCapacity_0f7a4_23 rfl (lv_at hl 3 rfl) ?_
  refine gx_get C hW fJ5_22 (gx_pl hh fh) rfl dJ5_newCapacity_0f7a4_24 ?_
  refine lv_ishl gX gB dJ5_newCapacity_0f7a4_27 ?_
  refine gx_topi (show ((2 : Int32) <<< ((0 : Int32) &&& 31)) = 2 from sh_0 _) ?_
  refine lv_iadd gX gB dJ5_newCapacity_0f7a4_28 ?_
  refine gx_topi (show ((nI cap) + 2) = nI (cap + 2) from nI_add cap 2) ?_
  refine gx_callS (wr := []) (rest := []) C hW sJ5_114 (kJ8_newLength_cabcc l G (va_pl L f) cap 1 (cap + 2) (by omega) (by omega) (by omega) (by omega)) rfl ⟨(Nat.le_of_ble_eq_true rfl), (Nat.le_of_ble_eq_true rfl)⟩ hl.1 rfl (Nat.le_of_ble_eq_true rfl) dJ5_newCapacity_0f7a4_29 ⟨(Nat.le_of_ble_eq_true rfl), (Nat.le_of_ble_eq_true rfl)⟩ (fun v9 u9 H locs hp hW => ?_)
  obtain ⟨rfl, hu⟩ := hp
  rw [hu] at hW
  have hW : gx_W G A s (va_pl L f) H locs := hW
  refine W.eq (g2 := F0 m 32 ls [.int (nI (cap + max 1 (cap + 2)))]) rfl ?_
  refine W.widen (k := 0) (n := 0) (Nat.le_of_ble_eq_true rfl) (Nat.le_of_ble_eq_true rfl) ?_
  refine lv_istore (lv' := [(5, .int (nI (cap + max 1 (cap + 2)))), (4, .int (nI 1)), (3, .int (nI (cap + 1))), (2, .int (nI cap)), (0, .ref h), (1, .int (nI (cap + 1)))]) gX gB dJ5_newCapacity_0f7a4_32 hl (by decide) rfl (fun ls hl => ?_)
  refine lv_iload gX gB dJ5_newCapacity_0f7a4_34 (lv_at hl 0 rfl) ?_
  refine gx_ldci (v := 2147483647) C (tq_1 190 (by decide +kernel) rfl) dJ5_newCapacity_0f7a4_36 ?_
  refine lv_icmp_ne (tgt := 51) gX gB dJ5_newCapacity_0f7a4_38 (by decide) (fun _ => ?_) (fun h9 => absurd h9 (show ¬ (nI (cap + max 1 (cap + 2))) = (2147483647 : Int32) from fun zz => absurd ((nI_eq (b := 2147483647) (by omega) (by decide)).mp zz) (by omega)))
  refine lv_iload gX gB dJ5_newCapacity_0f7a4_51 (lv_at hl 0 rfl) ?_
  refine lv_aload_n gX gB dJ5_newCapacity_0f7a4_53 rfl (lv_at hl 4 rfl) ?_
  refine gx_get C hW fJ5_22 (gx_pl hh fh) rfl dJ5_newCapacity_0f7a4_54 ?_
  refine lv_ishr gX gB dJ5_newCapacity_0f7a4_57 ?_
  refine gx_topi (show ((nI (cap + max 1 (cap + 2))) >>> (0 &&& 31)) = nI (cap + max 1 (cap + 2)) from sr_0 _) ?_
  exact gx_iret C hr hW (⟨rfl, rfl⟩) (Nat.le_of_ble_eq_true rfl) (Nat.le_of_ble_eq_true rfl) dJ5_newCapacity_0f7a4_58
