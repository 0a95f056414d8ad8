/-! ARRAYS: copyOf of bytes. -/
section GJ
variable {G : gx_T} {p : Program} {l : Launch} {e : Env} {R : Room} {s : State} {m : MethodId} {args : Array Value} {below : List Frame} {meth : Method} {c : Code} {H : Heap} {locs : List Loc} {cells slots : Nat} {Q : State → Prop}
variable {cc : ByteArray} {nL pc : Nat} {own : String} {A : Nat → Prop} {ls : Array Slot} {rest : List Value} {ws : va_W} {a n j idx : Nat} {L : List Nat} {f : Nat → va_E}
theorem gx_acopyB (C : gx_C G p s m args meth c cc nL own A) (hW : gx_W G A s (va_pl L f) H locs) {a0 n0 n1 k : Nat} {g0 g1 : Nat → Int32} (hL0 : a0 ∈ L) (ha0 : f a0 = .inl (G.2.1 0, n0, .inl g0)) (hL : a ∈ L) (ha : f a = .inl (G.2.1 0, n1, .inl g1)) {i : Int32} (hi : i = nI k) (h0 : k ≤ n0) (h1 : k ≤ n1) (hk : k < 2 ^ 31) (hel : ∀ j : Nat, j < k → fits .byte (.int (g0 j)) = true) (hl1 : Cond.methodLink own idx arraycopyName ∈ lw_all) (hsize : ls.size = nL) (hf : 1 ≤ R.frames) (hl : (rest.map fun v => v.category).sum + (nativeFrameWords "java/lang/System" "arraycopy" 5 + 11) ≤ R.locals) (d : decode cc pc = .ok (.invokestatic idx, 3))
    (kk : ∀ (H1 : Heap) (locs1 : List Loc), gx_W G A s (va_pl L (va_up f a (.inl (G.2.1 0, n1, .inl (va_cpy g0 g1 0 0 k))))) H1 locs1 → W p l e R s m args below meth c H1 locs1 cells slots Q (F0 m (pc + 3) ls rest)) : W p l e R s m args below meth c H locs cells slots Q (F0 m pc ls (.int i :: .int 0 :: .ref a :: .int 0 :: .ref a0 :: rest)) := by
  subst hi
  obtain ⟨q0, hq0⟩ := gx_pl hL0 ha0
  obtain ⟨q1, hq1⟩ := gx_pl hL ha
  have e0 : (0 : Int32).toNatClampNeg = 0 := by decide
  have ek : (nI k).toNatClampNeg = k := nI_clamp hk
  refine va_copyi C.x C.b (C.1.2.2.1.trans hsize.symm) C.hown (C.ts _ hl1) (C.ts _ (tq_1 206 (by decide +kernel) rfl)) (C.ts _ (tq_1 205 (by decide +kernel) rfl)) (C.ts _ (tq_1 19 (by decide +kernel) rfl)) C.2.2.2.1 hW.1 hW.2.1 hW.2.2 q0 q1 0 0 hq0 hq1 rfl rfl rfl (by decide) (by decide) (nI_pos hk) (by rw [e0, ek]; omega) (by rw [e0, ek]; omega) (fun j hj => ?_) hf hl d (fun H1 locs1 k1 k2 k3 => kk H1 locs1 ?_)
  · rw [ek] at hj
    rw [e0, Nat.zero_add]
    exact hel j hj
  · rw [(gx_setP hW.2.1 hL hq1 _).2, e0, ek] at k1 k2
    exact ⟨k1, k2, k3⟩
end GJ
set_option maxHeartbeats 4000000 in
set_option maxRecDepth 100000 in
theorem kJ7_copyOf_9075b (l : Launch) (G : gx_T) (L : List Nat) (f : Nat → va_E) (a n N : Nat) (t : Nat → Int32) (ha : a ∈ L) (fa : f a = .inl (G.2.1 0, n, .inl t)) (hnN : n < N) (hN : N ≤ 400) (hfi : ∀ j : Nat, j < n → fits .byte (.int (t j)) = true) : gx_M l G yJ7_copyOf_9075b cJ7_copyOf_9075b 3 (some (.array .byte)) ({ frames := 1, cells := 1, slots := 400, locals := 60 } : Room) [.ref a, .int (nI N)] (va_pl L f) (fun v u => ∃ q : Nat, q ∉ L ∧ v = some (.ref q) ∧ u = va_pl (L ++ [q]) (va_up f q (.inl (G.2.1 0, N, .inl (va_cpy t (fun _ => 0) 0 0 n))))) := by
  refine gx_start (by decide +kernel) (Nat.le_of_ble_eq_true rfl) ?_
  intro p e s m args below meth c A ls C hr hnm hW hl
  have gX := C.x
  have gB := C.b
  have hl : lv_has ls 3 [(0, .ref a), (1, .int (nI N))] := hl
  refine lv_iload_n gX gB dJ7_copyOf_9075b_0 rfl (lv_at hl 1 rfl) ?_
  refine lv_aload_n gX gB dJ7_copyOf_9075b_1 rfl (lv_at hl 0 rfl) ?_
  refine gx_alen C hW 0 rfl (gx_pl ha fa) dJ7_copyOf_9075b_2 ?_
  refine lv_icmp_ne (tgt := 14) gX gB dJ7_copyOf_9075b_3 (by decide) (fun _ => ?_) (fun h9 => absurd h9 (show ¬ (nI N) = (nI n) from fun zz => absurd ((nI_eq (by omega) (by omega)).mp zz) (by omega)))
  refine lv_iload_n gX gB dJ7_copyOf_9075b_14 rfl (lv_at hl 1 rfl) ?_
  refine gx_newa (ty := .byte) (n := N) (a0 := (N, .inl (fun _ => 0))) C hW rfl (tq_1 98 (by decide +kernel) rfl) 0 rfl (fun _ => rfl) rfl (by omega) (by first | exact Nat.le_of_ble_eq_true rfl | (dsimp only; omega) | omega) (by first | exact Nat.le_of_ble_eq_true rfl | (dsimp only; omega) | omega) dJ7_copyOf_9075b_15 (fun q H hW0 => ?_)
  obtain ⟨hq, hW⟩ := gx_pushP hW0
  refine W.widen (k := 1) (n := 0 + N) (by first | exact Nat.le_of_ble_eq_true rfl | (dsimp only; omega) | omega) (by first | exact Nat.le_of_ble_eq_true rfl | (dsimp only; omega) | omega) ?_
  obtain ⟨f11, hf11⟩ : ∃ zz, zz = va_up f q (.inl (G.2.1 0, N, .inl (fun _ => 0))) := ⟨_, rfl⟩
  have hW := hW
  rw [← hf11] at hW
  have m11_a : a ∈ L ++ [q] := List.mem_append_left _ (ha)
  have f11_a : f11 a = .inl (G.2.1 0, n, .inl t) := by rw [hf11, va_up_ne _ _ (fun zz => hq (by rw [← zz]; exact ha))]; exact fa
  have m11_q : q ∈ L ++ [q] := List.mem_append_right _ List.mem_cons_self
  have f11_q : f11 q = .inl (G.2.1 0, N, .inl (fun _ => 0)) := by rw [hf11]; exact va_up_self _ _ _
  refine lv_astore_n (lv' := [(2, .ref q), (0, .ref a), (1, .int (nI N))]) gX gB dJ7_copyOf_9075b_17 rfl hl (by decide) rfl (fun ls hl => ?_)
  refine lv_aload_n gX gB dJ7_copyOf_9075b_18 rfl (lv_at hl 1 rfl) ?_
  refine lv_iconst (v := 0) gX gB dJ7_copyOf_9075b_19 (by decide) ?_
  refine lv_aload_n gX gB dJ7_copyOf_9075b_20 rfl (lv_at hl 0 rfl) ?_
  refine lv_iconst (v := 0) gX gB dJ7_copyOf_9075b_21 (by decide) ?_
  refine lv_aload_n gX gB dJ7_copyOf_9075b_22 rfl (lv_at hl 1 rfl) ?_
  refine gx_alen C hW 0 rfl (gx_pl m11_a f11_a) dJ7_copyOf_9075b_23 ?_
  refine lv_iload_n gX gB dJ7_copyOf_9075b_24 rfl (lv_at hl 2 rfl) ?_
  refine gx_mmin C (tq_1 201 (by decide +kernel) rfl) hl.1 (by first | exact Nat.le_of_ble_eq_true rfl | (dsimp only; omega) | omega) (by first | exact Nat.le_of_ble_eq_true rfl | (dsimp only; omega) | omega) (by first | exact Nat.le_of_ble_eq_true rfl | (dsimp only; omega) | omega) (by first | exact Nat.le_of_ble_eq_true rfl | (dsimp only; omega) | omega) dJ7_copyOf_9075b_25 ?_
  refine gx_topi (show (if (nI N) < (nI n) then (nI N) else (nI n)) = nI n from if_neg (nI_nlt (Nat.le_of_lt hnN) (by omega))) ?_
  refine gx_acopyB (k := n) C hW m11_a f11_a m11_q f11_q rfl (Nat.le_refl n) (Nat.le_of_lt hnN) (by omega) hfi (tq_1 204 (by decide +kernel) rfl) hl.1 (Nat.le_of_ble_eq_true rfl) (Nat.le_of_ble_eq_true rfl) dJ7_copyOf_9075b_28 (fun H locs hW => ?_)
  refine lv_aload_n gX gB dJ7_copyOf_9075b_31 rfl (lv_at hl 0 rfl) ?_
  exact gx_aret C hr (Or.inr ⟨_, rfl⟩) hW (⟨q, hq, rfl, by rw [hf11, bx_uu]⟩) (by first | exact Nat.le_of_ble_eq_true rfl | (dsimp only; omega) | omega) (by first | exact Nat.le_of_ble_eq_true rfl | (dsimp only; omega) | omega) dJ7_copyOf_9075b_32
