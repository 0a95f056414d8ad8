/-! THE LAW: its loop. -/
theorem lw_31 (s : Int32) : ∃ n, n < 32 ∧ s &&& 31 = nI n := by
  have e : (s.toUInt32 &&& Int32.toUInt32 31).toNat = s.toUInt32.toNat % 2 ^ 5 := by
    rw [UInt32.toNat_and, show (Int32.toUInt32 31).toNat = 2 ^ 5 - 1 from by decide, Nat.and_two_pow_sub_one_eq_mod]
  refine ⟨s.toUInt32.toNat % 2 ^ 5, by omega, ?_⟩
  rw [← Int32.toBitVec_inj, ← BitVec.toNat_inj]
  show (s.toUInt32 &&& Int32.toUInt32 31).toNat = (BitVec.ofNat 32 (s.toUInt32.toNat % 2 ^ 5)).toNat
  rw [e, BitVec.toNat_ofNat]
  omega
theorem lw_9 {L i : Nat} (hL : L ≤ 4608) (hi : i ≤ 4608) : nI L - 9 < nI i ↔ L < i + 9 := by
  rw [Int32.lt_iff_toInt_lt, Int32.toInt_sub, nI_toInt (by omega), nI_toInt (by omega), show (9 : Int32).toInt = 9 by decide, Int.bmod_eq_of_le (by omega) (by omega)]
  omega
set_option maxHeartbeats 8000000 in
set_option maxRecDepth 100000 in
theorem lw_loop {l : Launch} (hfl : l.flags = flags0) {p : Program} {e : Env} {s : State} {m : MethodId} {below : List Frame} {meth : Method} {c : Code} {A : Nat → Prop} {G : gx_T} {b0 Ls : Nat} {xs : Nat → Int32} {x ow oD : Nat} {ad : Nat → Nat} {Q : State → Prop} (C : gx_C G p s m #[Value.ref b0] meth c cL_law 9 RL A) (hX : va_X b0 Ls xs s s.heap) (hbl : b0 < s.heap.size) (hbA : ¬ A b0) (hLs : Ls ≤ 4608) (kk : ∀ (ws : va_W) (H : Heap) (locs : List Loc) (ls : Array Slot) (i : Nat), i ≤ 4608 → gx_W G A s ws H locs → W p l e room_1 s m #[Value.ref b0] below meth c H locs (24 + 8 * i) (544 + 223 * i) Q (F0 m 1773 ls [.int 1])) : ∀ (fu i : Nat), Ls - i < fu → i ≤ Ls → ∀ (ws : va_W) (H : Heap) (locs : List Loc) (ls : Array Slot), lw_inv G x ow oD ad ws → gx_W G A s ws H locs → lv_has ls 9 [(5, .int (nI i)), (4, .ref oD), (3, .ref ow), (2, .ref (ad 0)), (1, .ref x), (0, .ref b0)] → W p l e room_1 s m #[Value.ref b0] below meth c H locs (24 + 8 * i) (544 + 223 * i) Q (F0 m 28 ls []) := by
  have gX := C.x
  have gB := C.b
  intro fu
  induction fu with
  | zero => intro i h; exact absurd h (Nat.not_lt_zero _)
  | succ fu ih =>
    intro i hfu hi ws H locs ls hinv hW hl
    refine lv_iload gX gB dL_law_28 (lv_at hl 0 rfl) ?_
    refine lv_aload_n gX gB dL_law_30 rfl (lv_at hl 5 rfl) ?_
    refine va_slen C.x C.b hX hbl hbA hW.2.2 dL_law_31 ?_
    refine lv_bipush (v := 9) gX gB dL_law_32 (by decide) ?_
    refine lv_isub gX gB dL_law_34 ?_
    refine gx_topi (show Int32.ofNat Ls - 9 = nI Ls - 9 from rfl) ?_
    refine lv_icmp_gt (tgt := 1772) gX gB dL_law_35 (by decide) (fun c35 => ?_) (fun c35 => ?_)
    · refine lv_iconst (v := 1) gX gB dL_law_1772 (by decide) ?_
      exact kk ws H locs ls i (by omega) hW
    · have h9 : i + 9 ≤ Ls := Nat.le_of_not_lt (fun z => c35 ((lw_9 hLs (by omega)).mpr z))
      have step : ∀ (ws2 : va_W) (H2 : Heap) (locs2 : List Loc) (ls2 : Array Slot), lw_inv G x ow oD ad ws2 → gx_W G A s ws2 H2 locs2 → lv_has ls2 9 [(5, .int (nI i)), (4, .ref oD), (3, .ref ow), (2, .ref (ad 0)), (1, .ref x), (0, .ref b0)] → W p l e room_1 s m #[Value.ref b0] below meth c H2 locs2 (24 + 8 * i + 64) (544 + 223 * i + 2000) Q (F0 m 1766 ls2 []) := by
        intro ws2 H2 locs2 ls2 hinv2 hW2 hl2
        refine lv_iinc (v := nI (i + 9)) (lv' := [(5, .int (nI (i + 9))), (4, .ref oD), (3, .ref ow), (2, .ref (ad 0)), (1, .ref x), (0, .ref b0)]) gX gB dL_law_1766 hl2 (k := 0) rfl (by exact nI_add i 9) (by decide) rfl (fun ls3 hl3 => ?_)
        refine lv_goto (tgt := 28) gX gB dL_law_1769 (by decide) ?_
        refine W.widen (k := 24 + 8 * (i + 9)) (n := 544 + 223 * (i + 9)) (by omega) (by omega) ?_
        exact ih (i + 9) (by omega) (by omega) ws2 H2 locs2 ls3 hinv2 hW2 hl3
      have hR : 100 ≤ room_1.frames ∧ 4000 ≤ room_1.locals ∧ (24 + 8 * i) + 64 ≤ room_1.cells ∧ (544 + 223 * i) + 2000 ≤ room_1.slots := ⟨Nat.le_of_ble_eq_true rfl, Nat.le_of_ble_eq_true rfl, (by show 24 + 8 * i + 64 ≤ 748425; omega), (by show 544 + 223 * i + 2000 ≤ 6850829; omega)⟩
      refine lv_aload_n gX gB dL_law_38 rfl (lv_at hl 5 rfl) ?_
      refine lv_iload gX gB dL_law_39 (lv_at hl 0 rfl) ?_
      refine va_sld C.x C.b hX hbl hbA hW.2.2 (nI_in (by omega) (by omega)) dL_law_41 ?_
      refine gx_topi (show xs (nI i).toNatClampNeg = xs i from by rw [nI_clamp (by omega)]) ?_
      refine lv_bipush (v := 31) gX gB dL_law_42 (by decide) ?_
      refine lv_iand gX gB dL_law_44 ?_
      obtain ⟨j, hj, ej⟩ := lw_31 (xs i)
      refine gx_topi ej ?_
      match j, hj with
      | 0, _ =>
        refine lv_tableIn (tgt := 128) gX gB dL_law_45 (by decide) (by decide) (show _ = some (83 : Int) from rfl) (by decide) ?_
        exact lc_part hfl C hX hbl hbA h9 hLs hR hinv hW hl step
      | 1, _ =>
        refine lv_tableIn (tgt := 354) gX gB dL_law_45 (by decide) (by decide) (show _ = some (309 : Int) from rfl) (by decide) ?_
        exact lc_foot hfl C hX hbl hbA h9 hLs hR hinv hW hl step
      | 2, _ =>
        refine lv_tableIn (tgt := 493) gX gB dL_law_45 (by decide) (by decide) (show _ = some (448 : Int) from rfl) (by decide) ?_
        exact lc_drawer hfl C hX hbl hbA h9 hLs hR hinv hW hl step
      | 3, _ =>
        refine lv_tableIn (tgt := 600) gX gB dL_law_45 (by decide) (by decide) (show _ = some (555 : Int) from rfl) (by decide) ?_
        exact lc_person hfl C hX hbl hbA h9 hLs hR hinv hW hl step
      | 4, _ =>
        refine lv_tableIn (tgt := 785) gX gB dL_law_45 (by decide) (by decide) (show _ = some (740 : Int) from rfl) (by decide) ?_
        exact lc_centre hfl C hX hbl hbA h9 hLs hR hinv hW hl step
      | 5, _ =>
        refine lv_tableIn (tgt := 852) gX gB dL_law_45 (by decide) (by decide) (show _ = some (807 : Int) from rfl) (by decide) ?_
        exact lc_side hfl C hX hbl hbA h9 hLs hR hinv hW hl step
      | 6, _ =>
        refine lv_tableIn (tgt := 908) gX gB dL_law_45 (by decide) (by decide) (show _ = some (863 : Int) from rfl) (by decide) ?_
        exact lc_tips hfl C hX hbl hbA h9 hLs hR hinv hW hl step
      | 7, _ =>
        refine lv_tableIn (tgt := 964) gX gB dL_law_45 (by decide) (by decide) (show _ = some (919 : Int) from rfl) (by decide) ?_
        exact lc_moment hfl C hX hbl hbA h9 hLs hR hinv hW hl step
      | 8, _ =>
        refine lv_tableIn (tgt := 1031) gX gB dL_law_45 (by decide) (by decide) (show _ = some (986 : Int) from rfl) (by decide) ?_
        exact lc_most hfl C hX hbl hbA h9 hLs hR hinv hW hl step
      | 9, _ =>
        refine lv_tableIn (tgt := 1075) gX gB dL_law_45 (by decide) (by decide) (show _ = some (1030 : Int) from rfl) (by decide) ?_
        exact lc_unit hfl C hX hbl hbA h9 hLs hR hinv hW hl step
      | 10, _ =>
        refine lv_tableIn (tgt := 1100) gX gB dL_law_45 (by decide) (by decide) (show _ = some (1055 : Int) from rfl) (by decide) ?_
        exact lc_rules hfl C hX hbl hbA h9 hLs hR hinv hW hl step
      | 11, _ =>
        refine lv_tableIn (tgt := 1113) gX gB dL_law_45 (by decide) (by decide) (show _ = some (1068 : Int) from rfl) (by decide) ?_
        exact lc_test hfl C hX hbl hbA h9 hLs hR hinv hW hl step
      | 12, _ =>
        refine lv_tableIn (tgt := 1181) gX gB dL_law_45 (by decide) (by decide) (show _ = some (1136 : Int) from rfl) (by decide) ?_
        exact lc_anchor hfl C hX hbl hbA h9 hLs hR hinv hW hl step
      | 13, _ =>
        refine lv_tableIn (tgt := 1232) gX gB dL_law_45 (by decide) (by decide) (show _ = some (1187 : Int) from rfl) (by decide) ?_
        exact lc_wobble hfl C hX hbl hbA h9 hLs hR hinv hW hl step
      | 14, _ =>
        refine lv_tableIn (tgt := 1479) gX gB dL_law_45 (by decide) (by decide) (show _ = some (1434 : Int) from rfl) (by decide) ?_
        exact lc_bend hfl C hX hbl hbA h9 hLs hR hinv hW hl step
      | 15, _ =>
        refine lv_tableIn (tgt := 1632) gX gB dL_law_45 (by decide) (by decide) (show _ = some (1587 : Int) from rfl) (by decide) ?_
        exact lc_creep hfl C hX hbl hbA h9 hLs hR hinv hW hl step
      | 16, _ =>
        refine lv_tableIn (tgt := 1709) gX gB dL_law_45 (by decide) (by decide) (show _ = some (1664 : Int) from rfl) (by decide) ?_
        exact lc_gap hfl C hX hbl hbA h9 hLs hR hinv hW hl step
      | j + 17, hj =>
        refine lv_tableOut (tgt := 1766) gX gB dL_law_45 (Or.inr (by rw [nI_toInt (by omega)]; omega)) (by decide) ?_
        refine W.widen (k := 24 + 8 * i + 64) (n := 544 + 223 * i + 2000) (by omega) (by omega) ?_
        exact step ws H locs ls hinv hW hl
