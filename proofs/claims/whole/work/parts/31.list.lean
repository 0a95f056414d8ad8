/-! ARRAYLIST, raw: its row grows, elements come, all go. -/
theorem gx_el.up {L : List Nat} {f : Nat → va_E} {x q : Nat} {e1 : va_E} (h : gx_el L f x) (hq : x ≠ q) : gx_el L (va_up f q e1) x := by
  obtain ⟨h1, ci, N, vs, K, T, h2, h3, h4⟩ := h
  exact ⟨h1, ci, N, vs, K, T, by rw [va_up_ne _ _ hq]; exact h2, h3, h4⟩
theorem gx_el.push {L : List Nat} {f : Nat → va_E} {x q : Nat} {e1 : va_E} (h : gx_el L f x) (hq : q ∉ L) : gx_el (L ++ [q]) (va_up f q e1) x := by
  obtain ⟨h1, h2⟩ := h.up (q := q) (e1 := e1) (fun z => hq (by rw [← z]; exact h.1))
  exact ⟨List.mem_append_left _ h1, h2⟩
theorem gx_el.notA {L : List Nat} {f : Nat → va_E} {x : Nat} {e0 : ClassId × vp_A} (h : gx_el L f x) {b : Nat} (hb : f b = .inl e0) : x ≠ b := by
  obtain ⟨-, ci, N, vs, K, T, h2, -, -⟩ := h
  intro z
  rw [z, hb] at h2
  cases h2
set_option maxHeartbeats 4000000 in
set_option maxRecDepth 100000 in
theorem kJ7_copyOf_6403c (l : Launch) (G : gx_T) (L : List Nat) (f : Nat → va_E) (a n k : Nat) (g : Nat → Option Nat) (ha : a ∈ L) (fa : f a = .inl (G.2.1 3, n, .inr (.inr (.inr (.inr g))))) (hnk : n ≤ k) (hk : k ≤ 24) (hel : ∀ j : Nat, j < n → ∀ y : Nat, g j = some y → gx_el L f y) : gx_M l G yJ7_copyOf_6403c cJ7_copyOf_6403c 4 (some (.array (.object "java/lang/Object"))) ({ frames := 1, cells := 1, slots := 24, locals := 60 } : Room) [.ref a, .int (nI k), .ref (G.2.2 1)] (va_pl L f) (fun v u => ∃ q : Nat, q ∉ L ∧ v = some (.ref q) ∧ u = va_pl (L ++ [q]) (va_up f q (.inl (G.2.1 3, k, .inr (.inr (.inr (.inr (va_cpy g (fun _ => none) 0 0 n)))))))) := by
  refine gx_start (by decide +kernel) (Nat.le_of_ble_eq_true rfl) ?_
  intro p e s m args below meth c A ls C hr hnm hW hl
  have gX := C.x
  have gB := C.b
  have hl : lv_has ls 4 [(0, .ref a), (1, .int (nI k)), (2, .ref (G.2.2 1))] := hl
  refine lv_aload_n gX gB dJ7_copyOf_6403c_0 rfl (lv_at hl 2 rfl) ?_
  refine gx_ldcM C (tq_2 143 (by decide +kernel) rfl) dJ7_copyOf_6403c_1 ?_
  refine lv_acmp_ne (rx := some (G.2.2 1)) (ry := some (G.2.2 1)) (tgt := 13) gX gB dJ7_copyOf_6403c_3 (by decide) (fun h9 => absurd (rfl) h9) (fun _ => ?_)
  refine lv_iload_n gX gB dJ7_copyOf_6403c_6 rfl (lv_at hl 1 rfl) ?_
  refine gx_newq C hW (tq_2 145 (by decide +kernel) rfl) rfl (by omega) (Nat.le_of_ble_eq_true rfl) (by show 0 + k ≤ 24; omega) dJ7_copyOf_6403c_7 (fun q H hq hW => ?_)
  refine W.widen (k := 1) (n := 24) (Nat.le_of_ble_eq_true rfl) (by omega) ?_
  obtain ⟨f1, hf1⟩ : ∃ zz, zz = va_up f q (.inl (G.2.1 3, k, .inr (.inr (.inr (.inr (fun _ => none)))))) := ⟨_, rfl⟩
  rw [← hf1] at hW
  have hqa : a ≠ q := fun zz => hq (by rw [← zz]; exact ha)
  have fa1 : f1 a = .inl (G.2.1 3, n, .inr (.inr (.inr (.inr g)))) := by rw [hf1, va_up_ne _ _ hqa]; exact fa
  have fq1 : f1 q = .inl (G.2.1 3, k, .inr (.inr (.inr (.inr (fun _ => none))))) := by rw [hf1]; exact va_up_self _ _ _
  have ha1 : a ∈ L ++ [q] := List.mem_append_left _ ha
  have hq1 : q ∈ L ++ [q] := List.mem_append_right _ List.mem_cons_self
  refine lv_goto (tgt := 24) gX gB dJ7_copyOf_6403c_10 (by decide) ?_
  refine lv_astore_n (lv' := [(3, .ref q), (0, .ref a), (1, .int (nI k)), (2, .ref (G.2.2 1))]) gX gB dJ7_copyOf_6403c_24 rfl hl (by decide) rfl (fun ls hl => ?_)
  refine lv_aload_n gX gB dJ7_copyOf_6403c_25 rfl (lv_at hl 1 rfl) ?_
  refine lv_iconst (v := 0) gX gB dJ7_copyOf_6403c_26 (by decide) ?_
  refine lv_aload_n gX gB dJ7_copyOf_6403c_27 rfl (lv_at hl 0 rfl) ?_
  refine lv_iconst (v := 0) gX gB dJ7_copyOf_6403c_28 (by decide) ?_
  refine lv_aload_n gX gB dJ7_copyOf_6403c_29 rfl (lv_at hl 1 rfl) ?_
  refine gx_alen C hW 3 rfl (gx_pl ha1 fa1) dJ7_copyOf_6403c_30 ?_
  refine lv_iload_n gX gB dJ7_copyOf_6403c_31 rfl (lv_at hl 2 rfl) ?_
  refine gx_mmin C (tq_1 201 (by decide +kernel) rfl) hl.1 (Nat.le_of_ble_eq_true rfl) (Nat.le_of_ble_eq_true rfl) (Nat.le_of_ble_eq_true rfl) (Nat.le_of_ble_eq_true rfl) dJ7_copyOf_6403c_32 ?_
  refine gx_topi (show (if (nI k) < (nI n) then (nI k) else (nI n)) = nI n from if_neg (nI_nlt hnk (by omega))) ?_
  refine gx_acopy (k := n) C hW ha1 fa1 hq1 fq1 rfl (Nat.le_refl n) hnk (by omega) (fun j hj y hy => by rw [hf1]; exact (hel j hj y hy).push hq) (tq_1 204 (by decide +kernel) rfl) hl.1 (Nat.le_of_ble_eq_true rfl) (Nat.le_of_ble_eq_true rfl) dJ7_copyOf_6403c_35 (fun H locs hW => ?_)
  refine lv_aload_n gX gB dJ7_copyOf_6403c_38 rfl (lv_at hl 0 rfl) ?_
  exact gx_aret C hr (Or.inr ⟨_, rfl⟩) hW (⟨q, hq, rfl, by rw [hf1, bx_uu]⟩) (Nat.le_of_ble_eq_true rfl) (Nat.le_of_ble_eq_true rfl) dJ7_copyOf_6403c_39
set_option maxHeartbeats 4000000 in
set_option maxRecDepth 100000 in
theorem kJ7_copyOf_1904c (l : Launch) (G : gx_T) (L : List Nat) (f : Nat → va_E) (a n k : Nat) (g : Nat → Option Nat) (ha : a ∈ L) (fa : f a = .inl (G.2.1 3, n, .inr (.inr (.inr (.inr g))))) (hnk : n ≤ k) (hk : k ≤ 24) (hel : ∀ j : Nat, j < n → ∀ y : Nat, g j = some y → gx_el L f y) : gx_M l G yJ7_copyOf_1904c cJ7_copyOf_1904c 2 (some (.array (.object "java/lang/Object"))) ({ frames := 2, cells := 1, slots := 24, locals := 83 } : Room) [.ref a, .int (nI k)] (va_pl L f) (fun v u => ∃ q : Nat, q ∉ L ∧ v = some (.ref q) ∧ u = va_pl (L ++ [q]) (va_up f q (.inl (G.2.1 3, k, .inr (.inr (.inr (.inr (va_cpy g (fun _ => none) 0 0 n)))))))) := by
  refine gx_start (by decide +kernel) (Nat.le_of_ble_eq_true rfl) ?_
  intro p e s m args below meth c A ls C hr hnm hW hl
  have gX := C.x
  have gB := C.b
  have hl : lv_has ls 2 [(0, .ref a), (1, .int (nI k))] := hl
  refine lv_aload_n gX gB dJ7_copyOf_1904c_0 rfl (lv_at hl 0 rfl) ?_
  refine lv_iload_n gX gB dJ7_copyOf_1904c_1 rfl (lv_at hl 1 rfl) ?_
  refine lv_aload_n gX gB dJ7_copyOf_1904c_2 rfl (lv_at hl 0 rfl) ?_
  refine gx_getC C hW (gx_pl ha fa) (tq_2 121 (by decide +kernel) rfl) hl.1 (Nat.le_of_ble_eq_true rfl) (Nat.le_of_ble_eq_true rfl) dJ7_copyOf_1904c_3 ?_
  refine gx_callS (wr := []) (rest := []) C hW sJ7_300 (kJ7_copyOf_6403c l G L f a n k g ha fa hnk hk hel) rfl ⟨(Nat.le_of_ble_eq_true rfl), (Nat.le_of_ble_eq_true rfl)⟩ hl.1 rfl (Nat.le_of_ble_eq_true rfl) dJ7_copyOf_1904c_6 ⟨(Nat.le_of_ble_eq_true rfl), (Nat.le_of_ble_eq_true rfl)⟩ (fun v9 u9 H locs hp hW => ?_)
  obtain ⟨q, hq, rfl, hu⟩ := hp
  rw [hu] at hW
  have hW : gx_W G A s (va_pl (L ++ [q]) (va_up f q (.inl (G.2.1 3, k, .inr (.inr (.inr (.inr (va_cpy g (fun _ => none) 0 0 n)))))))) H locs := hW
  refine W.eq (g2 := F0 m 9 ls [.ref q]) rfl ?_
  refine W.widen (k := 1) (n := 24) (Nat.le_of_ble_eq_true rfl) (Nat.le_of_ble_eq_true rfl) ?_
  exact gx_aret C hr (Or.inr ⟨_, rfl⟩) hW (⟨q, hq, rfl, rfl⟩) (Nat.le_of_ble_eq_true rfl) (Nat.le_of_ble_eq_true rfl) dJ7_copyOf_1904c_9
set_option maxHeartbeats 4000000 in
set_option maxRecDepth 100000 in
theorem kJx4a65c_grow_92f840 (l : Launch) (G : gx_T) (L : List Nat) (f : Nat → va_E) (h : Nat) (mc : Int32) (hh : h ∈ L) (fh : f h = .inr (4, [.int mc, .ref (G.2.2 0), .int 0])) : gx_M l G yJx4a65c_grow_92f84 cJx4a65c_grow_92f84 4 (some (.array (.object "java/lang/Object"))) ({ frames := 3, cells := 1, slots := 24, locals := 120 } : Room) [.ref h, .int 1] (va_pl L f) (fun v u => ∃ q : Nat, q ∉ L ∧ v = some (.ref q) ∧ u = va_pl (L ++ [q]) (va_up (va_up f q (.inl (G.2.1 3, 10, .inr (.inr (.inr (.inr (fun _ => none))))))) h (.inr (4, [.int mc, .ref q, .int 0])))) := by
  refine gx_start (by decide +kernel) (Nat.le_of_ble_eq_true rfl) ?_
  intro p e s m args below meth c A ls C hr hnm hW hl
  have gX := C.x
  have gB := C.b
  have hl : lv_has ls 4 [(0, .ref h), (1, .int 1)] := hl
  refine lv_aload_n gX gB dJx4a65c_grow_92f84_0 rfl (lv_at hl 0 rfl) ?_
  refine gx_get C hW fJx4a65c_9 (gx_pl hh fh) rfl dJx4a65c_grow_92f84_1 ?_
  refine gx_lenE C hW dJx4a65c_grow_92f84_4 ?_
  refine lv_istore_n (lv' := [(2, .int 0), (0, .ref h), (1, .int 1)]) gX gB dJx4a65c_grow_92f84_5 rfl hl (by decide) rfl (fun ls hl => ?_)
  refine lv_iload_n gX gB dJx4a65c_grow_92f84_6 rfl (lv_at hl 0 rfl) ?_
  refine lv_if_gt (tgt := 20) gX gB dJx4a65c_grow_92f84_7 (by decide) (fun h9 => absurd (show (0 : Int32) < 0 from h9) (by decide)) (fun _ => ?_)
  refine lv_aload_n gX gB dJx4a65c_grow_92f84_10 rfl (lv_at hl 1 rfl) ?_
  refine gx_get C hW fJx4a65c_9 (gx_pl hh fh) rfl dJx4a65c_grow_92f84_11 ?_
  refine gx_getsE C hW (tq_1 52 (by decide +kernel) rfl) dJx4a65c_grow_92f84_14 ?_
  refine lv_acmp_eq (rx := some (G.2.2 0)) (ry := some (G.2.2 0)) (tgt := 45) gX gB dJx4a65c_grow_92f84_17 (by decide) (fun _ => ?_) (fun h9 => absurd (rfl) h9)
  refine lv_aload_n gX gB dJx4a65c_grow_92f84_45 rfl (lv_at hl 1 rfl) ?_
  refine lv_bipush (v := 10) gX gB dJx4a65c_grow_92f84_46 (by decide) ?_
  refine lv_iload_n gX gB dJx4a65c_grow_92f84_48 rfl (lv_at hl 2 rfl) ?_
  refine gx_mmax C (tq_2 146 (by decide +kernel) rfl) hl.1 (Nat.le_of_ble_eq_true rfl) (Nat.le_of_ble_eq_true rfl) (Nat.le_of_ble_eq_true rfl) (Nat.le_of_ble_eq_true rfl) dJx4a65c_grow_92f84_49 ?_
  refine gx_topi (show (if (10 : Int32) < 1 then (1 : Int32) else 10) = nI 10 from by decide) ?_
  refine gx_newq C hW (tq_2 147 (by decide +kernel) rfl) rfl (by decide) (Nat.le_of_ble_eq_true rfl) (Nat.le_of_ble_eq_true rfl) dJx4a65c_grow_92f84_52 (fun q H hq hW => ?_)
  refine W.widen (k := 1) (n := 24) (Nat.le_of_ble_eq_true rfl) (Nat.le_of_ble_eq_true rfl) ?_
  obtain ⟨f1, hf1⟩ : ∃ zz, zz = va_up f q (.inl (G.2.1 3, 10, .inr (.inr (.inr (.inr (fun _ => none)))))) := ⟨_, rfl⟩
  rw [← hf1] at hW
  have hqh : h ≠ q := fun zz => hq (by rw [← zz]; exact hh)
  have fh1 : f1 h = .inr (4, [.int mc, .ref (G.2.2 0), .int 0]) := by rw [hf1, va_up_ne _ _ hqh]; exact fh
  have hh1 : h ∈ L ++ [q] := List.mem_append_left _ hh
  refine lv_dup_x1 gX gB dJx4a65c_grow_92f84_55 rfl rfl ?_
  refine gx_put C hW clJx4a65c fJx4a65c_9 hh1 fh1 (Or.inl rfl) rfl rfl (Nat.le_of_ble_eq_true rfl) dJx4a65c_grow_92f84_56 (fun H locs hW => ?_)
  obtain ⟨f11, hf11⟩ : ∃ zz, zz = va_up f1 h (.inr (4, [.int mc, .ref q, .int 0])) := ⟨_, rfl⟩
  have hW : gx_W G A s (va_pl (L ++ [q]) f11) H locs := by rw [hf11]; exact hW
  have f11_h : f11 h = .inr (4, [.int mc, .ref q, .int 0]) := by rw [hf11]; exact va_up_self _ _ _
  exact gx_aret C hr (Or.inr ⟨_, rfl⟩) hW (⟨q, hq, rfl, by rw [hf11, hf1]⟩) (Nat.le_of_ble_eq_true rfl) (Nat.le_of_ble_eq_true rfl) dJx4a65c_grow_92f84_59
set_option maxHeartbeats 4000000 in
set_option maxRecDepth 100000 in
theorem kJx4a65c_grow_92f84F (l : Launch) (G : gx_T) (L : List Nat) (f : Nat → va_E) (h b n : Nat) (mc : Int32) (g : Nat → Option Nat) (hh : h ∈ L) (fh : f h = .inr (4, [.int mc, .ref b, .int (nI n)])) (hb : b ∈ L) (fb : f b = .inl (G.2.1 3, n, .inr (.inr (.inr (.inr g))))) (h0 : 0 < n) (hn : n ≤ 16) (hel : ∀ j : Nat, j < n → ∀ y : Nat, g j = some y → gx_el L f y) : gx_M l G yJx4a65c_grow_92f84 cJx4a65c_grow_92f84 4 (some (.array (.object "java/lang/Object"))) ({ frames := 3, cells := 1, slots := 24, locals := 120 } : Room) [.ref h, .int (nI (n + 1))] (va_pl L f) (fun v u => ∃ q : Nat, q ∉ L ∧ v = some (.ref q) ∧ u = va_pl (L ++ [q]) (va_up (va_up f q (.inl (G.2.1 3, (n + max 1 (n / 2)), .inr (.inr (.inr (.inr (va_cpy g (fun _ => none) 0 0 n))))))) h (.inr (4, [.int mc, .ref q, .int (nI n)])))) := by
  refine gx_start (by decide +kernel) (Nat.le_of_ble_eq_true rfl) ?_
  intro p e s m args below meth c A ls C hr hnm hW hl
  have gX := C.x
  have gB := C.b
  have hl : lv_has ls 4 [(0, .ref h), (1, .int (nI (n + 1)))] := hl
  refine lv_aload_n gX gB dJx4a65c_grow_92f84_0 rfl (lv_at hl 0 rfl) ?_
  refine gx_get C hW fJx4a65c_9 (gx_pl hh fh) rfl dJx4a65c_grow_92f84_1 ?_
  refine gx_alen C hW 3 rfl (gx_pl hb fb) dJx4a65c_grow_92f84_4 ?_
  refine lv_istore_n (lv' := [(2, .int (nI n)), (0, .ref h), (1, .int (nI (n + 1)))]) gX gB dJx4a65c_grow_92f84_5 rfl hl (by decide) rfl (fun ls hl => ?_)
  refine lv_iload_n gX gB dJx4a65c_grow_92f84_6 rfl (lv_at hl 0 rfl) ?_
  refine lv_if_gt (tgt := 20) gX gB dJx4a65c_grow_92f84_7 (by decide) (fun _ => ?_) (fun h9 => absurd (show (0 : Int32) < (nI n) from (nI_ltI (a := 0) (b := n) (by decide) (by omega)).mpr h0) h9)
  refine lv_iload_n gX gB dJx4a65c_grow_92f84_20 rfl (lv_at hl 0 rfl) ?_
  refine lv_iload_n gX gB dJx4a65c_grow_92f84_21 rfl (lv_at hl 2 rfl) ?_
  refine lv_iload_n gX gB dJx4a65c_grow_92f84_22 rfl (lv_at hl 0 rfl) ?_
  refine lv_isub gX gB dJx4a65c_grow_92f84_23 ?_
  refine gx_topi (show ((nI (n + 1)) - (nI n)) = nI 1 from (pk_sub (a := n + 1) (b := n) (by omega)).trans (congrArg nI (by omega))) ?_
  refine lv_iload_n gX gB dJx4a65c_grow_92f84_24 rfl (lv_at hl 0 rfl) ?_
  refine lv_iconst (v := 1) gX gB dJx4a65c_grow_92f84_25 (by decide) ?_
  refine lv_ishr gX gB dJx4a65c_grow_92f84_26 ?_
  refine gx_topi (show ((nI n) >>> (1 &&& 31)) = nI (n / 2) from pk_shrN (by omega) ((1 : Int32) &&& 31) 1 (by decide)) ?_
  refine gx_callS (wr := []) (rest := []) C hW sJx4a65c_73 (kJ8_newLength_cabcc l G (va_pl L f) n 1 (n / 2) (by omega) (by omega) (by omega) (by omega)) rfl ⟨(Nat.le_of_ble_eq_true rfl), (Nat.le_of_ble_eq_true rfl)⟩ hl.1 rfl (Nat.le_of_ble_eq_true rfl) dJx4a65c_grow_92f84_27 ⟨(Nat.le_of_ble_eq_true rfl), (Nat.le_of_ble_eq_true rfl)⟩ (fun v9 u9 H locs hp hW => ?_)
  obtain ⟨rfl, hu⟩ := hp
  rw [hu] at hW
  have hW : gx_W G A s (va_pl L f) H locs := hW
  refine W.eq (g2 := F0 m 30 ls [.int (nI (n + max 1 (n / 2)))]) rfl ?_
  refine W.widen (k := 0) (n := 0) (Nat.le_of_ble_eq_true rfl) (Nat.le_of_ble_eq_true rfl) ?_
  refine lv_istore_n (lv' := [(3, .int (nI (n + max 1 (n / 2)))), (2, .int (nI n)), (0, .ref h), (1, .int (nI (n + 1)))]) gX gB dJx4a65c_grow_92f84_30 rfl hl (by decide) rfl (fun ls hl => ?_)
  refine lv_aload_n gX gB dJx4a65c_grow_92f84_31 rfl (lv_at hl 2 rfl) ?_
  refine lv_aload_n gX gB dJx4a65c_grow_92f84_32 rfl (lv_at hl 2 rfl) ?_
  refine gx_get C hW fJx4a65c_9 (gx_pl hh fh) rfl dJx4a65c_grow_92f84_33 ?_
  refine lv_iload_n gX gB dJx4a65c_grow_92f84_36 rfl (lv_at hl 0 rfl) ?_
  refine gx_callS (wr := []) (rest := [.ref h]) C hW sJx4a65c_66 (kJ7_copyOf_1904c l G L f b n (n + max 1 (n / 2)) g hb fb (by omega) (by omega) hel) rfl ⟨(Nat.le_of_ble_eq_true rfl), (Nat.le_of_ble_eq_true rfl)⟩ hl.1 rfl (Nat.le_of_ble_eq_true rfl) dJx4a65c_grow_92f84_37 ⟨(Nat.le_of_ble_eq_true rfl), (Nat.le_of_ble_eq_true rfl)⟩ (fun v9 u9 H locs hp hW => ?_)
  obtain ⟨q, hq, rfl, hu⟩ := hp
  rw [hu] at hW
  obtain ⟨f1, hf1⟩ : ∃ zz, zz = va_up f q (.inl (G.2.1 3, (n + max 1 (n / 2)), .inr (.inr (.inr (.inr (va_cpy g (fun _ => none) 0 0 n)))))) := ⟨_, rfl⟩
  rw [← hf1] at hW
  have hW : gx_W G A s (va_pl (L ++ [q]) f1) H locs := hW
  have hqh : h ≠ q := fun zz => hq (by rw [← zz]; exact hh)
  have fh1 : f1 h = .inr (4, [.int mc, .ref b, .int (nI n)]) := by rw [hf1, va_up_ne _ _ hqh]; exact fh
  have hh1 : h ∈ L ++ [q] := List.mem_append_left _ hh
  refine W.eq (g2 := F0 m 40 ls [.ref q, .ref h]) rfl ?_
  refine W.widen (k := 1) (n := 24) (Nat.le_of_ble_eq_true rfl) (Nat.le_of_ble_eq_true rfl) ?_
  refine lv_dup_x1 gX gB dJx4a65c_grow_92f84_40 rfl rfl ?_
  refine gx_put C hW clJx4a65c fJx4a65c_9 hh1 fh1 (Or.inl rfl) rfl rfl (Nat.le_of_ble_eq_true rfl) dJx4a65c_grow_92f84_41 (fun H locs hW => ?_)
  obtain ⟨f12, hf12⟩ : ∃ zz, zz = va_up f1 h (.inr (4, [.int mc, .ref q, .int (nI n)])) := ⟨_, rfl⟩
  have hW : gx_W G A s (va_pl (L ++ [q]) f12) H locs := by rw [hf12]; exact hW
  have f12_h : f12 h = .inr (4, [.int mc, .ref q, .int (nI n)]) := by rw [hf12]; exact va_up_self _ _ _
  exact gx_aret C hr (Or.inr ⟨_, rfl⟩) hW (⟨q, hq, rfl, by rw [hf12, hf1]⟩) (Nat.le_of_ble_eq_true rfl) (Nat.le_of_ble_eq_true rfl) dJx4a65c_grow_92f84_44
set_option maxHeartbeats 4000000 in
set_option maxRecDepth 100000 in
theorem kJx4a65c_grow_d58770 (l : Launch) (G : gx_T) (L : List Nat) (f : Nat → va_E) (h : Nat) (mc : Int32) (hh : h ∈ L) (fh : f h = .inr (4, [.int mc, .ref (G.2.2 0), .int 0])) : gx_M l G yJx4a65c_grow_d5877 cJx4a65c_grow_d5877 1 (some (.array (.object "java/lang/Object"))) ({ frames := 4, cells := 1, slots := 24, locals := 143 } : Room) [.ref h] (va_pl L f) (fun v u => ∃ q : Nat, q ∉ L ∧ v = some (.ref q) ∧ u = va_pl (L ++ [q]) (va_up (va_up f q (.inl (G.2.1 3, 10, .inr (.inr (.inr (.inr (fun _ => none))))))) h (.inr (4, [.int mc, .ref q, .int 0])))) := by
  refine gx_start (by decide +kernel) (Nat.le_of_ble_eq_true rfl) ?_
  intro p e s m args below meth c A ls C hr hnm hW hl
  have gX := C.x
  have gB := C.b
  have hl : lv_has ls 1 [(0, .ref h)] := hl
  refine lv_aload_n gX gB dJx4a65c_grow_d5877_0 rfl (lv_at hl 0 rfl) ?_
  refine lv_aload_n gX gB dJx4a65c_grow_d5877_1 rfl (lv_at hl 0 rfl) ?_
  refine gx_get C hW fJx4a65c_48 (gx_pl hh fh) rfl dJx4a65c_grow_d5877_2 ?_
  refine lv_iconst (v := 1) gX gB dJx4a65c_grow_d5877_5 (by decide) ?_
  refine lv_iadd gX gB dJx4a65c_grow_d5877_6 ?_
  refine gx_topi (show (0 + 1) = 1 from by decide) ?_
  refine gx_callV (wr := []) (rest := []) C hW sJx4a65c_69 (kJx4a65c_grow_92f840 l G L f h mc hh fh) (gx_pl hh fh) rfl rfl ⟨(Nat.le_of_ble_eq_true rfl), (Nat.le_of_ble_eq_true rfl)⟩ hl.1 rfl (Nat.le_of_ble_eq_true rfl) dJx4a65c_grow_d5877_7 ⟨(Nat.le_of_ble_eq_true rfl), (Nat.le_of_ble_eq_true rfl)⟩ (fun v9 u9 H locs hp hW => ?_)
  obtain ⟨q, hq, rfl, hu⟩ := hp
  rw [hu] at hW
  have hW : gx_W G A s (va_pl (L ++ [q]) (va_up (va_up f q (.inl (G.2.1 3, 10, .inr (.inr (.inr (.inr (fun _ => none))))))) h (.inr (4, [.int mc, .ref q, .int 0])))) H locs := hW
  refine W.eq (g2 := F0 m 10 ls [.ref q]) rfl ?_
  refine W.widen (k := 1) (n := 24) (Nat.le_of_ble_eq_true rfl) (Nat.le_of_ble_eq_true rfl) ?_
  exact gx_aret C hr (Or.inr ⟨_, rfl⟩) hW (⟨q, hq, rfl, rfl⟩) (Nat.le_of_ble_eq_true rfl) (Nat.le_of_ble_eq_true rfl) dJx4a65c_grow_d5877_10
set_option maxHeartbeats 4000000 in
set_option maxRecDepth 100000 in
theorem kJx4a65c_grow_d5877F (l : Launch) (G : gx_T) (L : List Nat) (f : Nat → va_E) (h b n : Nat) (mc : Int32) (g : Nat → Option Nat) (hh : h ∈ L) (fh : f h = .inr (4, [.int mc, .ref b, .int (nI n)])) (hb : b ∈ L) (fb : f b = .inl (G.2.1 3, n, .inr (.inr (.inr (.inr g))))) (h0 : 0 < n) (hn : n ≤ 16) (hel : ∀ j : Nat, j < n → ∀ y : Nat, g j = some y → gx_el L f y) : gx_M l G yJx4a65c_grow_d5877 cJx4a65c_grow_d5877 1 (some (.array (.object "java/lang/Object"))) ({ frames := 4, cells := 1, slots := 24, locals := 143 } : Room) [.ref h] (va_pl L f) (fun v u => ∃ q : Nat, q ∉ L ∧ v = some (.ref q) ∧ u = va_pl (L ++ [q]) (va_up (va_up f q (.inl (G.2.1 3, (n + max 1 (n / 2)), .inr (.inr (.inr (.inr (va_cpy g (fun _ => none) 0 0 n))))))) h (.inr (4, [.int mc, .ref q, .int (nI n)])))) := by
  refine gx_start (by decide +kernel) (Nat.le_of_ble_eq_true rfl) ?_
  intro p e s m args below meth c A ls C hr hnm hW hl
  have gX := C.x
  have gB := C.b
  have hl : lv_has ls 1 [(0, .ref h)] := hl
  refine lv_aload_n gX gB dJx4a65c_grow_d5877_0 rfl (lv_at hl 0 rfl) ?_
  refine lv_aload_n gX gB dJx4a65c_grow_d5877_1 rfl (lv_at hl 0 rfl) ?_
  refine gx_get C hW fJx4a65c_48 (gx_pl hh fh) rfl dJx4a65c_grow_d5877_2 ?_
  refine lv_iconst (v := 1) gX gB dJx4a65c_grow_d5877_5 (by decide) ?_
  refine lv_iadd gX gB dJx4a65c_grow_d5877_6 ?_
  refine gx_topi (show ((nI n) + 1) = nI (n + 1) from nI_1 n) ?_
  refine gx_callV (wr := []) (rest := []) C hW sJx4a65c_69 (kJx4a65c_grow_92f84F l G L f h b n mc g hh fh hb fb h0 hn hel) (gx_pl hh fh) rfl rfl ⟨(Nat.le_of_ble_eq_true rfl), (Nat.le_of_ble_eq_true rfl)⟩ hl.1 rfl (Nat.le_of_ble_eq_true rfl) dJx4a65c_grow_d5877_7 ⟨(Nat.le_of_ble_eq_true rfl), (Nat.le_of_ble_eq_true rfl)⟩ (fun v9 u9 H locs hp hW => ?_)
  obtain ⟨q, hq, rfl, hu⟩ := hp
  rw [hu] at hW
  have hW : gx_W G A s (va_pl (L ++ [q]) (va_up (va_up f q (.inl (G.2.1 3, (n + max 1 (n / 2)), .inr (.inr (.inr (.inr (va_cpy g (fun _ => none) 0 0 n))))))) h (.inr (4, [.int mc, .ref q, .int (nI n)])))) H locs := hW
  refine W.eq (g2 := F0 m 10 ls [.ref q]) rfl ?_
  refine W.widen (k := 1) (n := 24) (Nat.le_of_ble_eq_true rfl) (Nat.le_of_ble_eq_true rfl) ?_
  exact gx_aret C hr (Or.inr ⟨_, rfl⟩) hW (⟨q, hq, rfl, rfl⟩) (Nat.le_of_ble_eq_true rfl) (Nat.le_of_ble_eq_true rfl) dJx4a65c_grow_d5877_10
