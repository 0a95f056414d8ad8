/-! ARRAYLIST: add and clear; a list as a list of addresses. -/
theorem gx_up4 {f : Nat → va_E} {q h : Nat} {x y x' y' : va_E} (hh : h ≠ q) : va_up (va_up (va_up (va_up f q x) h y) q x') h y' = va_up (va_up f q x') h y' := by
  funext k
  unfold va_up
  by_cases h1 : k = h <;> by_cases h2 : k = q <;> simp_all
theorem gx_up3 {f : Nat → va_E} {q h : Nat} {x y y' : va_E} (hh : h ≠ q) : va_up (va_up (va_up f h y) q x) h y' = va_up (va_up f q x) h y' := by
  funext k
  unfold va_up
  by_cases h1 : k = h <;> by_cases h2 : k = q <;> simp_all
set_option maxHeartbeats 4000000 in
set_option maxRecDepth 100000 in
theorem kJx4a65c_add_72be8N (l : Launch) (G : gx_T) (L : List Nat) (f : Nat → va_E) (h b n k : Nat) (mc : Int32) (g : Nat → Option Nat) (hh : h ∈ L) (fh : f h = .inr (4, [.int mc, .ref b, .int (nI k)])) (hb : b ∈ L) (fb : f b = .inl (G.2.1 3, n, .inr (.inr (.inr (.inr g))))) (hk : k < n) (hn : n ≤ 24) (v ci0 N0 : Nat) (vs : List Value) (K0 : String) (T0 : u_T) (hv : v ∈ L) (fv : f v = .inr (ci0, vs)) (hc0 : vwCl[ci0]? = some (K0, T0, N0)) (hw0 : Cond.castable K0 "java/lang/Object" ∈ gx_nW) (hvh : v ≠ h) : gx_M l G yJx4a65c_add_72be8 cJx4a65c_add_72be8 4 none ({ frames := 5, cells := 1, slots := 24, locals := 163 } : Room) [.ref h, .ref v, .ref b, .int (nI k)] (va_pl L f) (fun w u => w = none ∧ u = va_pl L (va_up (va_up f b (.inl (G.2.1 3, n, .inr (.inr (.inr (.inr (va_up g k (some v)))))))) h (.inr (4, [.int mc, .ref b, .int (nI (k + 1))])))) := by
  refine gx_start (by decide +kernel) (Nat.le_of_ble_eq_true rfl) ?_
  intro p e s m args below meth c A ls C hr hnm hW hl
  have gX := C.x
  have gB := C.b
  have hl : lv_has ls 4 [(0, .ref h), (1, .ref v), (2, .ref b), (3, .int (nI k))] := hl
  refine lv_iload_n gX gB dJx4a65c_add_72be8_0 rfl (lv_at hl 3 rfl) ?_
  refine lv_aload_n gX gB dJx4a65c_add_72be8_1 rfl (lv_at hl 2 rfl) ?_
  refine gx_alen C hW 3 rfl (gx_pl hb fb) dJx4a65c_add_72be8_2 ?_
  refine lv_icmp_ne (tgt := 11) gX gB dJx4a65c_add_72be8_3 (by decide) (fun _ => ?_) (fun h9 => absurd h9 (show ¬ (nI k) = (nI n) from fun z => absurd ((nI_eq (by omega) (by omega)).mp z) (by omega)))
  refine lv_aload_n gX gB dJx4a65c_add_72be8_11 rfl (lv_at hl 2 rfl) ?_
  refine lv_iload_n gX gB dJx4a65c_add_72be8_12 rfl (lv_at hl 3 rfl) ?_
  refine lv_aload_n gX gB dJx4a65c_add_72be8_13 rfl (lv_at hl 1 rfl) ?_
  refine gx_aast C hW hb fb hv fv hc0 hw0 rfl hk (by omega) dJx4a65c_add_72be8_14 (fun H locs hW => ?_)
  obtain ⟨f1, hf1⟩ : ∃ zz, zz = va_up f b (.inl (G.2.1 3, n, .inr (.inr (.inr (.inr (va_up g k (some v))))))) := ⟨_, rfl⟩
  rw [← hf1] at hW
  have hbh : h ≠ b := gx_ne fh fb (by simp)
  have fh1 : f1 h = .inr (4, [.int mc, .ref b, .int (nI k)]) := by rw [hf1, va_up_ne _ _ hbh]; exact fh
  refine lv_aload_n gX gB dJx4a65c_add_72be8_15 rfl (lv_at hl 0 rfl) ?_
  refine lv_iload_n gX gB dJx4a65c_add_72be8_16 rfl (lv_at hl 3 rfl) ?_
  refine lv_iconst (v := 1) gX gB dJx4a65c_add_72be8_17 (by decide) ?_
  refine lv_iadd gX gB dJx4a65c_add_72be8_18 ?_
  refine gx_topi (show ((nI k) + 1) = nI (k + 1) from nI_1 k) ?_
  refine gx_put C hW clJx4a65c fJx4a65c_48 hh fh1 (Or.inl rfl) rfl rfl (Nat.le_of_ble_eq_true rfl) dJx4a65c_add_72be8_19 (fun H locs hW => ?_)
  obtain ⟨f11, hf11⟩ : ∃ zz, zz = va_up f1 h (.inr (4, [.int mc, .ref b, .int (nI (k + 1))])) := ⟨_, rfl⟩
  have hW : gx_W G A s (va_pl L f11) H locs := by rw [hf11]; exact hW
  have f11_h : f11 h = .inr (4, [.int mc, .ref b, .int (nI (k + 1))]) := by rw [hf11]; exact va_up_self _ _ _
  exact gx_vret C hr hW (⟨rfl, by rw [hf11, hf1]⟩) (Nat.le_of_ble_eq_true rfl) (Nat.le_of_ble_eq_true rfl) dJx4a65c_add_72be8_22
set_option maxHeartbeats 4000000 in
set_option maxRecDepth 100000 in
theorem kJx4a65c_add_72be80 (l : Launch) (G : gx_T) (L : List Nat) (f : Nat → va_E) (h : Nat) (mc : Int32) (hh : h ∈ L) (fh : f h = .inr (4, [.int mc, .ref (G.2.2 0), .int 0])) (v ci0 N0 : Nat) (vs : List Value) (K0 : String) (T0 : u_T) (hv : v ∈ L) (fv : f v = .inr (ci0, vs)) (hc0 : vwCl[ci0]? = some (K0, T0, N0)) (hw0 : Cond.castable K0 "java/lang/Object" ∈ gx_nW) (hvh : v ≠ h) : gx_M l G yJx4a65c_add_72be8 cJx4a65c_add_72be8 4 none ({ frames := 5, cells := 1, slots := 24, locals := 163 } : Room) [.ref h, .ref v, .ref (G.2.2 0), .int 0] (va_pl L f) (fun w u => ∃ q : Nat, q ∉ L ∧ w = none ∧ u = va_pl (L ++ [q]) (va_up (va_up f q (.inl (G.2.1 3, 10, .inr (.inr (.inr (.inr (va_up (fun _ => none) 0 (some v)))))))) h (.inr (4, [.int mc, .ref q, .int (nI 1)])))) := by
  refine gx_start (by decide +kernel) (Nat.le_of_ble_eq_true rfl) ?_
  intro p e s m args below meth c A ls C hr hnm hW hl
  have gX := C.x
  have gB := C.b
  have hl : lv_has ls 4 [(0, .ref h), (1, .ref v), (2, .ref (G.2.2 0)), (3, .int 0)] := hl
  refine lv_iload_n gX gB dJx4a65c_add_72be8_0 rfl (lv_at hl 3 rfl) ?_
  refine lv_aload_n gX gB dJx4a65c_add_72be8_1 rfl (lv_at hl 2 rfl) ?_
  refine gx_lenE C hW dJx4a65c_add_72be8_2 ?_
  refine lv_icmp_ne (tgt := 11) gX gB dJx4a65c_add_72be8_3 (by decide) (fun h9 => absurd (show ¬ 0 = (0 : Int32) from h9) (fun z => absurd rfl z)) (fun _ => ?_)
  refine lv_aload_n gX gB dJx4a65c_add_72be8_6 rfl (lv_at hl 0 rfl) ?_
  refine gx_callV (wr := []) (rest := []) C hW sJx4a65c_129 (kJx4a65c_grow_d58770 l G L f h mc hh fh) (gx_pl hh fh) rfl rfl ⟨(Nat.le_of_ble_eq_true rfl), (Nat.le_of_ble_eq_true rfl)⟩ hl.1 rfl (Nat.le_of_ble_eq_true rfl) dJx4a65c_add_72be8_7 ⟨(Nat.le_of_ble_eq_true rfl), (Nat.le_of_ble_eq_true rfl)⟩ (fun v9 u9 H locs hp hW => ?_)
  obtain ⟨q, hq, rfl, hu⟩ := hp
  rw [hu] at hW
  obtain ⟨f1, hf1⟩ : ∃ zz, zz = va_up (va_up f q (.inl (G.2.1 3, 10, .inr (.inr (.inr (.inr (fun _ => none))))))) h (.inr (4, [.int mc, .ref q, .int 0])) := ⟨_, rfl⟩
  rw [← hf1] at hW
  have hW : gx_W G A s (va_pl (L ++ [q]) f1) H locs := hW
  have hqh : h ≠ q := fun zz => hq (by rw [← zz]; exact hh)
  have hqv : v ≠ q := fun zz => hq (by rw [← zz]; exact hv)
  have fh1 : f1 h = .inr (4, [.int mc, .ref q, .int 0]) := by rw [hf1]; exact va_up_self _ _ _
  have fq1 : f1 q = .inl (G.2.1 3, 10, .inr (.inr (.inr (.inr (fun _ => none))))) := by rw [hf1, va_up_ne _ _ hqh.symm]; exact va_up_self _ _ _
  have fv1 : f1 v = .inr (ci0, vs) := by rw [hf1, va_up_ne _ _ hvh, va_up_ne _ _ hqv]; exact fv
  have hh1 : h ∈ L ++ [q] := List.mem_append_left _ hh
  have hv1 : v ∈ L ++ [q] := List.mem_append_left _ hv
  have hq1 : q ∈ L ++ [q] := List.mem_append_right _ List.mem_cons_self
  refine W.eq (g2 := F0 m 10 ls [.ref q]) rfl ?_
  refine W.widen (k := 1) (n := 24) (Nat.le_of_ble_eq_true rfl) (Nat.le_of_ble_eq_true rfl) ?_
  refine lv_astore_n (lv' := [(2, .ref q), (0, .ref h), (1, .ref v), (3, .int 0)]) gX gB dJx4a65c_add_72be8_10 rfl hl (by decide) rfl (fun ls hl => ?_)
  refine lv_aload_n gX gB dJx4a65c_add_72be8_11 rfl (lv_at hl 0 rfl) ?_
  refine lv_iload_n gX gB dJx4a65c_add_72be8_12 rfl (lv_at hl 3 rfl) ?_
  refine lv_aload_n gX gB dJx4a65c_add_72be8_13 rfl (lv_at hl 2 rfl) ?_
  refine gx_aast (j := 0) C hW hq1 fq1 hv1 fv1 hc0 hw0 rfl (by omega) (by omega) dJx4a65c_add_72be8_14 (fun H locs hW => ?_)
  obtain ⟨f2, hf2⟩ : ∃ zz, zz = va_up f1 q (.inl (G.2.1 3, 10, .inr (.inr (.inr (.inr (va_up (fun _ => none) 0 (some v))))))) := ⟨_, rfl⟩
  rw [← hf2] at hW
  have fh2 : f2 h = .inr (4, [.int mc, .ref q, .int 0]) := by rw [hf2, va_up_ne _ _ hqh]; exact fh1
  refine lv_aload_n gX gB dJx4a65c_add_72be8_15 rfl (lv_at hl 1 rfl) ?_
  refine lv_iload_n gX gB dJx4a65c_add_72be8_16 rfl (lv_at hl 3 rfl) ?_
  refine lv_iconst (v := 1) gX gB dJx4a65c_add_72be8_17 (by decide) ?_
  refine lv_iadd gX gB dJx4a65c_add_72be8_18 ?_
  refine gx_topi (show (0 + 1) = nI 1 from by decide) ?_
  refine gx_put C hW clJx4a65c fJx4a65c_48 hh1 fh2 (Or.inl rfl) rfl rfl (Nat.le_of_ble_eq_true rfl) dJx4a65c_add_72be8_19 (fun H locs hW => ?_)
  obtain ⟨f12, hf12⟩ : ∃ zz, zz = va_up f2 h (.inr (4, [.int mc, .ref q, .int (nI 1)])) := ⟨_, rfl⟩
  have hW : gx_W G A s (va_pl (L ++ [q]) f12) H locs := by rw [hf12]; exact hW
  have f12_h : f12 h = .inr (4, [.int mc, .ref q, .int (nI 1)]) := by rw [hf12]; exact va_up_self _ _ _
  exact gx_vret C hr hW (⟨q, hq, rfl, by rw [hf12, hf2, hf1, gx_up4 hqh]⟩) (Nat.le_of_ble_eq_true rfl) (Nat.le_of_ble_eq_true rfl) dJx4a65c_add_72be8_22
set_option maxHeartbeats 4000000 in
set_option maxRecDepth 100000 in
theorem kJx4a65c_add_72be8F (l : Launch) (G : gx_T) (L : List Nat) (f : Nat → va_E) (h b n : Nat) (mc : Int32) (g : Nat → Option Nat) (hh : h ∈ L) (fh : f h = .inr (4, [.int mc, .ref b, .int (nI n)])) (hb : b ∈ L) (fb : f b = .inl (G.2.1 3, n, .inr (.inr (.inr (.inr g))))) (h0 : 0 < n) (hn : n ≤ 16) (hel : ∀ j : Nat, j < n → ∀ y : Nat, g j = some y → gx_el L f y) (v ci0 N0 : Nat) (vs : List Value) (K0 : String) (T0 : u_T) (hv : v ∈ L) (fv : f v = .inr (ci0, vs)) (hc0 : vwCl[ci0]? = some (K0, T0, N0)) (hw0 : Cond.castable K0 "java/lang/Object" ∈ gx_nW) (hvh : v ≠ h) : gx_M l G yJx4a65c_add_72be8 cJx4a65c_add_72be8 4 none ({ frames := 5, cells := 1, slots := 24, locals := 163 } : Room) [.ref h, .ref v, .ref b, .int (nI n)] (va_pl L f) (fun w u => ∃ q : Nat, q ∉ L ∧ w = none ∧ u = va_pl (L ++ [q]) (va_up (va_up f q (.inl (G.2.1 3, (n + max 1 (n / 2)), .inr (.inr (.inr (.inr (va_up (va_cpy g (fun _ => none) 0 0 n) n (some v)))))))) h (.inr (4, [.int mc, .ref q, .int (nI (n + 1))])))) := by
  refine gx_start (by decide +kernel) (Nat.le_of_ble_eq_true rfl) ?_
  intro p e s m args below meth c A ls C hr hnm hW hl
  have gX := C.x
  have gB := C.b
  have hl : lv_has ls 4 [(0, .ref h), (1, .ref v), (2, .ref b), (3, .int (nI n))] := hl
  refine lv_iload_n gX gB dJx4a65c_add_72be8_0 rfl (lv_at hl 3 rfl) ?_
  refine lv_aload_n gX gB dJx4a65c_add_72be8_1 rfl (lv_at hl 2 rfl) ?_
  refine gx_alen C hW 3 rfl (gx_pl hb fb) dJx4a65c_add_72be8_2 ?_
  refine lv_icmp_ne (tgt := 11) gX gB dJx4a65c_add_72be8_3 (by decide) (fun h9 => absurd (show ¬ (nI n) = (nI n) from h9) (fun z => absurd rfl z)) (fun _ => ?_)
  refine lv_aload_n gX gB dJx4a65c_add_72be8_6 rfl (lv_at hl 0 rfl) ?_
  refine gx_callV (wr := []) (rest := []) C hW sJx4a65c_129 (kJx4a65c_grow_d5877F l G L f h b n mc g hh fh hb fb h0 hn hel) (gx_pl hh fh) rfl rfl ⟨(Nat.le_of_ble_eq_true rfl), (Nat.le_of_ble_eq_true rfl)⟩ hl.1 rfl (Nat.le_of_ble_eq_true rfl) dJx4a65c_add_72be8_7 ⟨(Nat.le_of_ble_eq_true rfl), (Nat.le_of_ble_eq_true rfl)⟩ (fun v9 u9 H locs hp hW => ?_)
  obtain ⟨q, hq, rfl, hu⟩ := hp
  rw [hu] at hW
  obtain ⟨f1, hf1⟩ : ∃ zz, zz = va_up (va_up f q (.inl (G.2.1 3, (n + max 1 (n / 2)), .inr (.inr (.inr (.inr (va_cpy g (fun _ => none) 0 0 n))))))) h (.inr (4, [.int mc, .ref q, .int (nI n)])) := ⟨_, rfl⟩
  rw [← hf1] at hW
  have hW : gx_W G A s (va_pl (L ++ [q]) f1) H locs := hW
  have hqh : h ≠ q := fun zz => hq (by rw [← zz]; exact hh)
  have hqv : v ≠ q := fun zz => hq (by rw [← zz]; exact hv)
  have fh1 : f1 h = .inr (4, [.int mc, .ref q, .int (nI n)]) := by rw [hf1]; exact va_up_self _ _ _
  have fq1 : f1 q = .inl (G.2.1 3, (n + max 1 (n / 2)), .inr (.inr (.inr (.inr (va_cpy g (fun _ => none) 0 0 n))))) := by rw [hf1, va_up_ne _ _ hqh.symm]; exact va_up_self _ _ _
  have fv1 : f1 v = .inr (ci0, vs) := by rw [hf1, va_up_ne _ _ hvh, va_up_ne _ _ hqv]; exact fv
  have hh1 : h ∈ L ++ [q] := List.mem_append_left _ hh
  have hv1 : v ∈ L ++ [q] := List.mem_append_left _ hv
  have hq1 : q ∈ L ++ [q] := List.mem_append_right _ List.mem_cons_self
  refine W.eq (g2 := F0 m 10 ls [.ref q]) rfl ?_
  refine W.widen (k := 1) (n := 24) (Nat.le_of_ble_eq_true rfl) (Nat.le_of_ble_eq_true rfl) ?_
  refine lv_astore_n (lv' := [(2, .ref q), (0, .ref h), (1, .ref v), (3, .int (nI n))]) gX gB dJx4a65c_add_72be8_10 rfl hl (by decide) rfl (fun ls hl => ?_)
  refine lv_aload_n gX gB dJx4a65c_add_72be8_11 rfl (lv_at hl 0 rfl) ?_
  refine lv_iload_n gX gB dJx4a65c_add_72be8_12 rfl (lv_at hl 3 rfl) ?_
  refine lv_aload_n gX gB dJx4a65c_add_72be8_13 rfl (lv_at hl 2 rfl) ?_
  refine gx_aast (j := n) C hW hq1 fq1 hv1 fv1 hc0 hw0 rfl (by omega) (by omega) dJx4a65c_add_72be8_14 (fun H locs hW => ?_)
  obtain ⟨f2, hf2⟩ : ∃ zz, zz = va_up f1 q (.inl (G.2.1 3, (n + max 1 (n / 2)), .inr (.inr (.inr (.inr (va_up (va_cpy g (fun _ => none) 0 0 n) n (some v))))))) := ⟨_, rfl⟩
  rw [← hf2] at hW
  have fh2 : f2 h = .inr (4, [.int mc, .ref q, .int (nI n)]) := by rw [hf2, va_up_ne _ _ hqh]; exact fh1
  refine lv_aload_n gX gB dJx4a65c_add_72be8_15 rfl (lv_at hl 1 rfl) ?_
  refine lv_iload_n gX gB dJx4a65c_add_72be8_16 rfl (lv_at hl 3 rfl) ?_
  refine lv_iconst (v := 1) gX gB dJx4a65c_add_72be8_17 (by decide) ?_
  refine lv_iadd gX gB dJx4a65c_add_72be8_18 ?_
  refine gx_topi (show ((nI n) + 1) = nI (n + 1) from nI_1 n) ?_
  refine gx_put C hW clJx4a65c fJx4a65c_48 hh1 fh2 (Or.inl rfl) rfl rfl (Nat.le_of_ble_eq_true rfl) dJx4a65c_add_72be8_19 (fun H locs hW => ?_)
  obtain ⟨f13, hf13⟩ : ∃ zz, zz = va_up f2 h (.inr (4, [.int mc, .ref q, .int (nI (n + 1))])) := ⟨_, rfl⟩
  have hW : gx_W G A s (va_pl (L ++ [q]) f13) H locs := by rw [hf13]; exact hW
  have f13_h : f13 h = .inr (4, [.int mc, .ref q, .int (nI (n + 1))]) := by rw [hf13]; exact va_up_self _ _ _
  exact gx_vret C hr hW (⟨q, hq, rfl, by rw [hf13, hf2, hf1, gx_up4 hqh]⟩) (Nat.le_of_ble_eq_true rfl) (Nat.le_of_ble_eq_true rfl) dJx4a65c_add_72be8_22
/-- the list at q holds the objects xs; its row: none (the empty one of old) or the cell b -/
def ls_at (G : gx_T) (L : List Nat) (f : Nat → va_E) (q : Nat) (b : Option Nat) (xs : List Nat) : Prop := q ∈ L ∧ ∃ mc : Int32, match b with
  | none => xs = [] ∧ f q = .inr (4, [.int mc, .ref (G.2.2 0), .int 0])
  | some b => b ∈ L ∧ f q = .inr (4, [.int mc, .ref b, .int (nI xs.length)]) ∧ ∃ (n : Nat) (g : Nat → Option Nat), f b = .inl (G.2.1 3, n, .inr (.inr (.inr (.inr g)))) ∧ xs.length ≤ n ∧ 0 < n ∧ n ≤ 24 ∧ ∀ i (h : i < xs.length), g i = some xs[i]
theorem ls_at.kept {G : gx_T} {L L' : List Nat} {f f' : Nat → va_E} {q : Nat} {b : Option Nat} {xs : List Nat} (h : ls_at G L f q b xs) (hL : ∀ a ∈ L, a ∈ L') (hq : f' q = f q) (hb : ∀ b9, b = some b9 → f' b9 = f b9) : ls_at G L' f' q b xs := by
  obtain ⟨h1, mc, h2⟩ := h
  refine ⟨hL _ h1, mc, ?_⟩
  cases b with
  | none => exact ⟨h2.1, by rw [hq]; exact h2.2⟩
  | some b =>
    obtain ⟨h3, h4, n, g, h5, h6⟩ := h2
    exact ⟨hL _ h3, by rw [hq]; exact h4, n, g, by rw [hb b rfl]; exact h5, h6⟩
theorem ls_at.head {G : gx_T} {L : List Nat} {f : Nat → va_E} {q : Nat} {b : Option Nat} {xs : List Nat} (h : ls_at G L f q b xs) : ∃ (mc : Int32) (r : Nat), f q = .inr (4, [.int mc, .ref r, .int (nI xs.length)]) := by
  obtain ⟨-, mc, h2⟩ := h
  cases b with
  | none => exact ⟨mc, _, by rw [h2.2, h2.1]; rfl⟩
  | some b => exact ⟨mc, b, h2.2.1⟩
/-- what add leaves -/
def ls_added (G : gx_T) (L : List Nat) (f : Nat → va_E) (h : Nat) (b : Option Nat) (xs : List Nat) (v : Nat) (u : va_W) : Prop := ∃ (L' : List Nat) (f' : Nat → va_E) (b' : Nat), u = va_pl L' f' ∧ ls_at G L' f' h (some b') (xs ++ [v]) ∧ ((b = some b' ∧ L' = L) ∨ (b' ∉ L ∧ L' = L ++ [b'])) ∧ ∀ a ∈ L, a ≠ h → some a ≠ b → f' a = f a
theorem ls_snoc {g : Nat → Option Nat} {xs : List Nat} {v : Nat} (h : ∀ i (h : i < xs.length), g i = some xs[i]) : ∀ i (h : i < (xs ++ [v]).length), va_up g xs.length (some v) i = some (xs ++ [v])[i] := by
  intro i hi
  rw [List.length_append, List.length_singleton] at hi
  unfold va_up
  by_cases e : i = xs.length
  · subst e
    simp
  · rw [if_neg e, h i (by omega), List.getElem_append_left (by omega)]
set_option maxHeartbeats 4000000 in
set_option maxRecDepth 100000 in
theorem kJx4a65c_add_9ea2d0 (l : Launch) (G : gx_T) (L : List Nat) (f : Nat → va_E) (h : Nat) (mc : Int32) (hh : h ∈ L) (fh : f h = .inr (4, [.int mc, .ref (G.2.2 0), .int 0])) (v ci0 N0 : Nat) (vs : List Value) (K0 : String) (T0 : u_T) (hv : v ∈ L) (fv : f v = .inr (ci0, vs)) (hc0 : vwCl[ci0]? = some (K0, T0, N0)) (hw0 : Cond.castable K0 "java/lang/Object" ∈ gx_nW) (hvh : v ≠ h) : gx_M l G yJx4a65c_add_9ea2d cJx4a65c_add_9ea2d 2 (some .boolean) ({ frames := 6, cells := 1, slots := 24, locals := 186 } : Room) [.ref h, .ref v] (va_pl L f) (fun w u => w = some (.int 1) ∧ ls_added G L f h none [] v u) := by
  refine gx_start (by decide +kernel) (Nat.le_of_ble_eq_true rfl) ?_
  intro p e s m args below meth c A ls C hr hnm hW hl
  have gX := C.x
  have gB := C.b
  have hl : lv_has ls 2 [(0, .ref h), (1, .ref v)] := hl
  refine lv_aload_n gX gB dJx4a65c_add_9ea2d_0 rfl (lv_at hl 0 rfl) ?_
  refine lv_dup gX gB dJx4a65c_add_9ea2d_1 rfl ?_
  refine gx_get C hW fJx4a65c_63 (gx_pl hh fh) rfl dJx4a65c_add_9ea2d_2 ?_
  refine lv_iconst (v := 1) gX gB dJx4a65c_add_9ea2d_5 (by decide) ?_
  refine lv_iadd gX gB dJx4a65c_add_9ea2d_6 ?_
  refine gx_put C hW clJx4a65c fJx4a65c_63 hh fh (Or.inl rfl) rfl rfl (Nat.le_of_ble_eq_true rfl) dJx4a65c_add_9ea2d_7 (fun H locs hW => ?_)
  obtain ⟨f14, hf14⟩ : ∃ zz, zz = va_up f h (.inr (4, [.int (mc + 1), .ref (G.2.2 0), .int 0])) := ⟨_, rfl⟩
  have hW : gx_W G A s (va_pl L f14) H locs := by rw [hf14]; exact hW
  have f14_h : f14 h = .inr (4, [.int (mc + 1), .ref (G.2.2 0), .int 0]) := by rw [hf14]; exact va_up_self _ _ _
  refine lv_aload_n gX gB dJx4a65c_add_9ea2d_10 rfl (lv_at hl 0 rfl) ?_
  refine lv_aload_n gX gB dJx4a65c_add_9ea2d_11 rfl (lv_at hl 1 rfl) ?_
  refine lv_aload_n gX gB dJx4a65c_add_9ea2d_12 rfl (lv_at hl 0 rfl) ?_
  refine gx_get C hW fJx4a65c_9 (gx_pl hh f14_h) rfl dJx4a65c_add_9ea2d_13 ?_
  refine lv_aload_n gX gB dJx4a65c_add_9ea2d_16 rfl (lv_at hl 0 rfl) ?_
  refine gx_get C hW fJx4a65c_48 (gx_pl hh f14_h) rfl dJx4a65c_add_9ea2d_17 ?_
  have fv2 : f14 v = .inr (ci0, vs) := by rw [hf14, va_up_ne _ _ hvh]; exact fv
  refine gx_callV (wr := []) (rest := []) C hW sJx4a65c_131 (kJx4a65c_add_72be80 l G L f14 h (mc + 1) hh f14_h v ci0 N0 vs K0 T0 hv fv2 hc0 hw0 hvh) (gx_pl hh f14_h) rfl rfl ⟨(Nat.le_of_ble_eq_true rfl), (Nat.le_of_ble_eq_true rfl)⟩ hl.1 rfl (Nat.le_of_ble_eq_true rfl) dJx4a65c_add_9ea2d_20 ⟨(Nat.le_of_ble_eq_true rfl), (Nat.le_of_ble_eq_true rfl)⟩ (fun v9 u9 H locs hp hW => ?_)
  obtain ⟨q, hq, rfl, hu⟩ := hp
  rw [hu] at hW
  rw [← hu] at hW
  have hW : gx_W G A s u9 H locs := hW
  refine W.eq (g2 := F0 m 23 ls []) rfl ?_
  refine W.widen (k := 1) (n := 24) (Nat.le_of_ble_eq_true rfl) (Nat.le_of_ble_eq_true rfl) ?_
  refine lv_iconst (v := 1) gX gB dJx4a65c_add_9ea2d_23 (by decide) ?_
  exact gx_zret C hr (by decide) hW (⟨rfl, L ++ [q], _, q, hu, ⟨List.mem_append_left _ hh, mc + 1, List.mem_append_right _ List.mem_cons_self, va_up_self _ _ _, 10, _, (va_up_ne _ _ (fun zz => hq (by rw [zz]; exact hh))).trans (va_up_self _ _ _), Nat.le_of_ble_eq_true rfl, by decide, by decide, ls_snoc (xs := []) (fun i hi => absurd hi (Nat.not_lt_zero _))⟩, Or.inr ⟨hq, rfl⟩, fun a ha h1 h2 => by rw [va_up_ne _ _ h1, va_up_ne _ _ (fun zz => hq (by rw [← zz]; exact ha)), hf14, va_up_ne _ _ h1]⟩) (Nat.le_of_ble_eq_true rfl) (Nat.le_of_ble_eq_true rfl) dJx4a65c_add_9ea2d_24
set_option maxHeartbeats 4000000 in
set_option maxRecDepth 100000 in
theorem kJx4a65c_add_9ea2dN (l : Launch) (G : gx_T) (L : List Nat) (f : Nat → va_E) (h b n : Nat) (mc : Int32) (g : Nat → Option Nat) (xs : List Nat) (hh : h ∈ L) (fh : f h = .inr (4, [.int mc, .ref b, .int (nI xs.length)])) (hb : b ∈ L) (fb : f b = .inl (G.2.1 3, n, .inr (.inr (.inr (.inr g))))) (hk : xs.length < n) (hn : n ≤ 24) (hgx : ∀ i (h : i < xs.length), g i = some xs[i]) (v ci0 N0 : Nat) (vs : List Value) (K0 : String) (T0 : u_T) (hv : v ∈ L) (fv : f v = .inr (ci0, vs)) (hc0 : vwCl[ci0]? = some (K0, T0, N0)) (hw0 : Cond.castable K0 "java/lang/Object" ∈ gx_nW) (hvh : v ≠ h) : gx_M l G yJx4a65c_add_9ea2d cJx4a65c_add_9ea2d 2 (some .boolean) ({ frames := 6, cells := 1, slots := 24, locals := 186 } : Room) [.ref h, .ref v] (va_pl L f) (fun w u => w = some (.int 1) ∧ ls_added G L f h (some b) xs v u) := by
  refine gx_start (by decide +kernel) (Nat.le_of_ble_eq_true rfl) ?_
  intro p e s m args below meth c A ls C hr hnm hW hl
  have gX := C.x
  have gB := C.b
  have hl : lv_has ls 2 [(0, .ref h), (1, .ref v)] := hl
  refine lv_aload_n gX gB dJx4a65c_add_9ea2d_0 rfl (lv_at hl 0 rfl) ?_
  refine lv_dup gX gB dJx4a65c_add_9ea2d_1 rfl ?_
  refine gx_get C hW fJx4a65c_63 (gx_pl hh fh) rfl dJx4a65c_add_9ea2d_2 ?_
  refine lv_iconst (v := 1) gX gB dJx4a65c_add_9ea2d_5 (by decide) ?_
  refine lv_iadd gX gB dJx4a65c_add_9ea2d_6 ?_
  refine gx_put C hW clJx4a65c fJx4a65c_63 hh fh (Or.inl rfl) rfl rfl (Nat.le_of_ble_eq_true rfl) dJx4a65c_add_9ea2d_7 (fun H locs hW => ?_)
  obtain ⟨f15, hf15⟩ : ∃ zz, zz = va_up f h (.inr (4, [.int (mc + 1), .ref b, .int (nI xs.length)])) := ⟨_, rfl⟩
  have hW : gx_W G A s (va_pl L f15) H locs := by rw [hf15]; exact hW
  have f15_h : f15 h = .inr (4, [.int (mc + 1), .ref b, .int (nI xs.length)]) := by rw [hf15]; exact va_up_self _ _ _
  have f15_b : f15 b = .inl (G.2.1 3, n, .inr (.inr (.inr (.inr g)))) := by rw [hf15, va_up_ne _ _ (gx_ne fb fh (by simp))]; exact fb
  refine lv_aload_n gX gB dJx4a65c_add_9ea2d_10 rfl (lv_at hl 0 rfl) ?_
  refine lv_aload_n gX gB dJx4a65c_add_9ea2d_11 rfl (lv_at hl 1 rfl) ?_
  refine lv_aload_n gX gB dJx4a65c_add_9ea2d_12 rfl (lv_at hl 0 rfl) ?_
  refine gx_get C hW fJx4a65c_9 (gx_pl hh f15_h) rfl dJx4a65c_add_9ea2d_13 ?_
  refine lv_aload_n gX gB dJx4a65c_add_9ea2d_16 rfl (lv_at hl 0 rfl) ?_
  refine gx_get C hW fJx4a65c_48 (gx_pl hh f15_h) rfl dJx4a65c_add_9ea2d_17 ?_
  have fv2 : f15 v = .inr (ci0, vs) := by rw [hf15, va_up_ne _ _ hvh]; exact fv
  refine gx_callV (wr := []) (rest := []) C hW sJx4a65c_131 (kJx4a65c_add_72be8N l G L f15 h b n xs.length (mc + 1) g hh f15_h hb f15_b hk hn v ci0 N0 vs K0 T0 hv fv2 hc0 hw0 hvh) (gx_pl hh f15_h) rfl rfl ⟨(Nat.le_of_ble_eq_true rfl), (Nat.le_of_ble_eq_true rfl)⟩ hl.1 rfl (Nat.le_of_ble_eq_true rfl) dJx4a65c_add_9ea2d_20 ⟨(Nat.le_of_ble_eq_true rfl), (Nat.le_of_ble_eq_true rfl)⟩ (fun v9 u9 H locs hp hW => ?_)
  obtain ⟨rfl, hu⟩ := hp
  rw [hu] at hW
  rw [← hu] at hW
  have hW : gx_W G A s u9 H locs := hW
  refine W.eq (g2 := F0 m 23 ls []) rfl ?_
  refine W.widen (k := 1) (n := 24) (Nat.le_of_ble_eq_true rfl) (Nat.le_of_ble_eq_true rfl) ?_
  refine lv_iconst (v := 1) gX gB dJx4a65c_add_9ea2d_23 (by decide) ?_
  exact gx_zret C hr (by decide) hW (⟨rfl, L, _, b, hu, ⟨hh, mc + 1, hb, (va_up_self _ _ _).trans (by rw [List.length_append]; rfl), n, _, (va_up_ne _ _ (gx_ne fb fh (by simp))).trans (va_up_self _ _ _), by rw [List.length_append, List.length_singleton]; omega, by omega, hn, ls_snoc hgx⟩, Or.inl ⟨rfl, rfl⟩, fun a ha h1 h2 => by rw [va_up_ne _ _ h1, va_up_ne _ _ (fun zz => h2 (by rw [zz])), hf15, va_up_ne _ _ h1]⟩) (Nat.le_of_ble_eq_true rfl) (Nat.le_of_ble_eq_true rfl) dJx4a65c_add_9ea2d_24
set_option maxHeartbeats 4000000 in
set_option maxRecDepth 100000 in
theorem kJx4a65c_add_9ea2dF (l : Launch) (G : gx_T) (L : List Nat) (f : Nat → va_E) (h b n : Nat) (mc : Int32) (g : Nat → Option Nat) (xs : List Nat) (hh : h ∈ L) (fh : f h = .inr (4, [.int mc, .ref b, .int (nI n)])) (hb : b ∈ L) (fb : f b = .inl (G.2.1 3, n, .inr (.inr (.inr (.inr g))))) (h0 : 0 < n) (hn : n ≤ 16) (hxn : xs.length = n) (hgx : ∀ i (h : i < n), g i = some (xs[i]'(by omega))) (hxh : ∀ x ∈ xs, x ≠ h) (hel : ∀ j : Nat, j < n → ∀ y : Nat, g j = some y → gx_el L f y) (v ci0 N0 : Nat) (vs : List Value) (K0 : String) (T0 : u_T) (hv : v ∈ L) (fv : f v = .inr (ci0, vs)) (hc0 : vwCl[ci0]? = some (K0, T0, N0)) (hw0 : Cond.castable K0 "java/lang/Object" ∈ gx_nW) (hvh : v ≠ h) : gx_M l G yJx4a65c_add_9ea2d cJx4a65c_add_9ea2d 2 (some .boolean) ({ frames := 6, cells := 1, slots := 24, locals := 186 } : Room) [.ref h, .ref v] (va_pl L f) (fun w u => w = some (.int 1) ∧ ls_added G L f h (some b) xs v u) := by
  refine gx_start (by decide +kernel) (Nat.le_of_ble_eq_true rfl) ?_
  intro p e s m args below meth c A ls C hr hnm hW hl
  have gX := C.x
  have gB := C.b
  have hl : lv_has ls 2 [(0, .ref h), (1, .ref v)] := hl
  refine lv_aload_n gX gB dJx4a65c_add_9ea2d_0 rfl (lv_at hl 0 rfl) ?_
  refine lv_dup gX gB dJx4a65c_add_9ea2d_1 rfl ?_
  refine gx_get C hW fJx4a65c_63 (gx_pl hh fh) rfl dJx4a65c_add_9ea2d_2 ?_
  refine lv_iconst (v := 1) gX gB dJx4a65c_add_9ea2d_5 (by decide) ?_
  refine lv_iadd gX gB dJx4a65c_add_9ea2d_6 ?_
  refine gx_put C hW clJx4a65c fJx4a65c_63 hh fh (Or.inl rfl) rfl rfl (Nat.le_of_ble_eq_true rfl) dJx4a65c_add_9ea2d_7 (fun H locs hW => ?_)
  obtain ⟨f16, hf16⟩ : ∃ zz, zz = va_up f h (.inr (4, [.int (mc + 1), .ref b, .int (nI n)])) := ⟨_, rfl⟩
  have hW : gx_W G A s (va_pl L f16) H locs := by rw [hf16]; exact hW
  have f16_h : f16 h = .inr (4, [.int (mc + 1), .ref b, .int (nI n)]) := by rw [hf16]; exact va_up_self _ _ _
  have f16_b : f16 b = .inl (G.2.1 3, n, .inr (.inr (.inr (.inr g)))) := by rw [hf16, va_up_ne _ _ (gx_ne fb fh (by simp))]; exact fb
  refine lv_aload_n gX gB dJx4a65c_add_9ea2d_10 rfl (lv_at hl 0 rfl) ?_
  refine lv_aload_n gX gB dJx4a65c_add_9ea2d_11 rfl (lv_at hl 1 rfl) ?_
  refine lv_aload_n gX gB dJx4a65c_add_9ea2d_12 rfl (lv_at hl 0 rfl) ?_
  refine gx_get C hW fJx4a65c_9 (gx_pl hh f16_h) rfl dJx4a65c_add_9ea2d_13 ?_
  refine lv_aload_n gX gB dJx4a65c_add_9ea2d_16 rfl (lv_at hl 0 rfl) ?_
  refine gx_get C hW fJx4a65c_48 (gx_pl hh f16_h) rfl dJx4a65c_add_9ea2d_17 ?_
  have fv2 : f16 v = .inr (ci0, vs) := by rw [hf16, va_up_ne _ _ hvh]; exact fv
  have hel2 : ∀ j : Nat, j < n → ∀ y : Nat, g j = some y → gx_el L f16 y := fun j hj y hy => by
    have k9 := hel j hj y hy
    have k8 : y ≠ h := by
      rw [hgx j hj] at hy
      cases hy
      exact hxh _ (List.getElem_mem _)
    rw [hf16]
    exact k9.up k8
  refine gx_callV (wr := []) (rest := []) C hW sJx4a65c_131 (kJx4a65c_add_72be8F l G L f16 h b n (mc + 1) g hh f16_h hb f16_b h0 hn hel2 v ci0 N0 vs K0 T0 hv fv2 hc0 hw0 hvh) (gx_pl hh f16_h) rfl rfl ⟨(Nat.le_of_ble_eq_true rfl), (Nat.le_of_ble_eq_true rfl)⟩ hl.1 rfl (Nat.le_of_ble_eq_true rfl) dJx4a65c_add_9ea2d_20 ⟨(Nat.le_of_ble_eq_true rfl), (Nat.le_of_ble_eq_true rfl)⟩ (fun v9 u9 H locs hp hW => ?_)
  obtain ⟨q, hq, rfl, hu⟩ := hp
  rw [hu] at hW
  rw [← hu] at hW
  have hW : gx_W G A s u9 H locs := hW
  refine W.eq (g2 := F0 m 23 ls []) rfl ?_
  refine W.widen (k := 1) (n := 24) (Nat.le_of_ble_eq_true rfl) (Nat.le_of_ble_eq_true rfl) ?_
  refine lv_iconst (v := 1) gX gB dJx4a65c_add_9ea2d_23 (by decide) ?_
  exact gx_zret C hr (by decide) hW (⟨rfl, L ++ [q], _, q, hu, ⟨List.mem_append_left _ hh, mc + 1, List.mem_append_right _ List.mem_cons_self, (va_up_self _ _ _).trans (by rw [List.length_append, hxn]; rfl), _, _, (va_up_ne _ _ (fun zz => hq (by rw [zz]; exact hh))).trans (va_up_self _ _ _), by rw [List.length_append, List.length_singleton]; omega, by omega, by omega, by subst hxn; exact ls_snoc (fun i hi => by rw [pk_cpy_in (Nat.zero_le _) (by omega)]; rw [Nat.sub_zero, Nat.zero_add]; exact hgx i hi)⟩, Or.inr ⟨hq, rfl⟩, fun a ha h1 h2 => by rw [va_up_ne _ _ h1, va_up_ne _ _ (fun zz => hq (by rw [← zz]; exact ha)), hf16, va_up_ne _ _ h1]⟩) (Nat.le_of_ble_eq_true rfl) (Nat.le_of_ble_eq_true rfl) dJx4a65c_add_9ea2d_24
