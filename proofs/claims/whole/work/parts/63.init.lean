/-! TRIALREADER(), STANDTESTS(). -/
set_option maxHeartbeats 4000000 in
set_option maxRecDepth 100000 in
theorem kX4_init (l : Launch) (G : gx_T) (L : List Nat) (f : Nat → va_E) (h X : Nat) (hh : h ∈ L) (fh : f h = .inr (9, [.null, .null, .int 0, .int 0])) : gx_M l G yX4_init cX4_init 2 none ({ frames := 4, cells := 1, slots := 3, locals := 80 } : Room) [.ref h, .ref X] (va_pl L f) (fun v u => v = none ∧ ∃ (q : Nat) (f1 : Nat → va_E), q ∉ L ∧ u = va_pl (L ++ [q]) f1 ∧ f1 h = .inr (9, [.ref X, .ref q, .int 0, .int 0]) ∧ f1 q = .inr (4, [.int 0, .ref (G.2.2 0), .int 0]) ∧ ∀ a, a ≠ h → a ≠ q → f1 a = f a) := by
  refine gx_start (by decide +kernel) (Nat.le_of_ble_eq_true rfl) ?_
  intro p e s m args below meth c A ls C hr hnm hW hl
  have gX := C.x
  have gB := C.b
  have hl : lv_has ls 2 [(0, .ref h), (1, .ref X)] := hl
  refine lv_aload_n gX gB dX4_init_0 rfl (lv_at hl 0 rfl) ?_
  refine gx_obj C (tq_2 29 (by decide +kernel) rfl) hl.1 dX4_init_1 (Nat.le_of_ble_eq_true rfl) (Nat.le_of_ble_eq_true rfl) ?_
  refine lv_aload_n gX gB dX4_init_4 rfl (lv_at hl 0 rfl) ?_
  refine lv_aload_n gX gB dX4_init_5 rfl (lv_at hl 1 rfl) ?_
  refine gx_put C hW clX4 fX4_9 hh fh (Or.inr ⟨hnm, rfl⟩) rfl rfl (Nat.le_of_ble_eq_true rfl) dX4_init_6 (fun H locs hW => ?_)
  obtain ⟨f11, hf11⟩ : ∃ zz, zz = va_up f h (.inr (9, [.ref X, .null, .int 0, .int 0])) := ⟨_, rfl⟩
  have hW : gx_W G A s (va_pl L f11) H locs := by rw [hf11]; exact hW
  have f11_h : f11 h = .inr (9, [.ref X, .null, .int 0, .int 0]) := by rw [hf11]; exact va_up_self _ _ _
  refine lv_aload_n gX gB dX4_init_9 rfl (lv_at hl 0 rfl) ?_
  refine gx_new (ci := 4) C hW clJx4a65c inJx4a65c rfl (tq_2 30 (by decide +kernel) rfl) (tq_1 41 (by decide +kernel) rfl) (tq_1 4 (by decide +kernel) rfl) dfJx4a65c (Nat.le_of_ble_eq_true rfl) (Nat.le_of_ble_eq_true rfl) dX4_init_10 (fun q H hq hW => ?_)
  refine W.widen (k := 1) (n := 3) (Nat.le_of_ble_eq_true rfl) (Nat.le_of_ble_eq_true rfl) ?_
  obtain ⟨f12, hf12⟩ : ∃ zz, zz = va_up f11 q (.inr (4, [.int 0, .null, .int 0])) := ⟨_, rfl⟩
  have hW := hW
  rw [← hf12] at hW
  have m12_h : h ∈ L ++ [q] := List.mem_append_left _ (hh)
  have f12_h : f12 h = .inr (9, [.ref X, .null, .int 0, .int 0]) := by rw [hf12, va_up_ne _ _ (fun zz => hq (by rw [← zz]; exact hh))]; exact f11_h
  have m12_q : q ∈ L ++ [q] := List.mem_append_right _ List.mem_cons_self
  have f12_q : f12 q = .inr (4, [.int 0, .null, .int 0]) := by rw [hf12]; exact va_up_self _ _ _
  have ne_h_q : h ≠ q := fun zz => hq (by rw [← zz]; exact hh)
  refine lv_dup gX gB dX4_init_13 rfl ?_
  refine gx_callI (wr := []) (rest := [.ref q, .ref h]) C hW sX4_17 (kJx4a65c_init_da8c8 l G (L ++ [q]) f12 q m12_q f12_q) rfl ⟨(Nat.le_of_ble_eq_true rfl), (Nat.le_of_ble_eq_true rfl)⟩ hl.1 rfl (Nat.le_of_ble_eq_true rfl) dX4_init_14 ⟨(Nat.le_of_ble_eq_true rfl), (Nat.le_of_ble_eq_true rfl)⟩ (fun v9 u9 H locs hp hW => ?_)
  obtain ⟨rfl, hu⟩ := hp
  rw [hu] at hW
  have hW : gx_W G A s (va_pl (L ++ [q]) (va_up f12 q (.inr (4, [.int 0, .ref (G.2.2 0), .int 0])))) H locs := hW
  refine W.eq (g2 := F0 m 17 ls [.ref q, .ref h]) rfl ?_
  refine W.widen (k := 1) (n := 3) (Nat.le_of_ble_eq_true rfl) (Nat.le_of_ble_eq_true rfl) ?_
  obtain ⟨f13, hf13⟩ : ∃ zz, zz = va_up f12 q (.inr (4, [.int 0, .ref (G.2.2 0), .int 0])) := ⟨_, rfl⟩
  have hW : gx_W G A s (va_pl (L ++ [q]) f13) H locs := by rw [hf13]; exact hW
  have f13_h : f13 h = .inr (9, [.ref X, .null, .int 0, .int 0]) := by rw [hf13, va_up_ne _ _ (ne_h_q)]; exact f12_h
  have f13_q : f13 q = .inr (4, [.int 0, .ref (G.2.2 0), .int 0]) := by rw [hf13]; exact va_up_self _ _ _
  refine gx_put C hW clX4 fX4_18 m12_h f13_h (Or.inr ⟨hnm, rfl⟩) rfl rfl (Nat.le_of_ble_eq_true rfl) dX4_init_17 (fun H locs hW => ?_)
  obtain ⟨f14, hf14⟩ : ∃ zz, zz = va_up f13 h (.inr (9, [.ref X, .ref q, .int 0, .int 0])) := ⟨_, rfl⟩
  have hW : gx_W G A s (va_pl (L ++ [q]) f14) H locs := by rw [hf14]; exact hW
  have f14_h : f14 h = .inr (9, [.ref X, .ref q, .int 0, .int 0]) := by rw [hf14]; exact va_up_self _ _ _
  have f14_q : f14 q = .inr (4, [.int 0, .ref (G.2.2 0), .int 0]) := by rw [hf14, va_up_ne _ _ (ne_h_q.symm)]; exact f13_q
  refine lv_aload_n gX gB dX4_init_20 rfl (lv_at hl 0 rfl) ?_
  refine lv_iconst (v := 0) gX gB dX4_init_21 (by decide) ?_
  refine gx_put C hW clX4 fX4_22 m12_h f14_h (Or.inl rfl) rfl rfl (Nat.le_of_ble_eq_true rfl) dX4_init_22 (fun H locs hW => ?_)
  obtain ⟨f15, hf15⟩ : ∃ zz, zz = va_up f14 h (.inr (9, [.ref X, .ref q, .int 0, .int 0])) := ⟨_, rfl⟩
  have hW : gx_W G A s (va_pl (L ++ [q]) f15) H locs := by rw [hf15]; exact hW
  have f15_h : f15 h = .inr (9, [.ref X, .ref q, .int 0, .int 0]) := by rw [hf15]; exact va_up_self _ _ _
  have f15_q : f15 q = .inr (4, [.int 0, .ref (G.2.2 0), .int 0]) := by rw [hf15, va_up_ne _ _ (ne_h_q.symm)]; exact f14_q
  refine lv_aload_n gX gB dX4_init_25 rfl (lv_at hl 0 rfl) ?_
  refine lv_iconst (v := 0) gX gB dX4_init_26 (by decide) ?_
  refine gx_put C hW clX4 fX4_26 m12_h f15_h (Or.inl rfl) rfl rfl (Nat.le_of_ble_eq_true rfl) dX4_init_27 (fun H locs hW => ?_)
  obtain ⟨f16, hf16⟩ : ∃ zz, zz = va_up f15 h (.inr (9, [.ref X, .ref q, .int 0, .int 0])) := ⟨_, rfl⟩
  have hW : gx_W G A s (va_pl (L ++ [q]) f16) H locs := by rw [hf16]; exact hW
  have f16_h : f16 h = .inr (9, [.ref X, .ref q, .int 0, .int 0]) := by rw [hf16]; exact va_up_self _ _ _
  have f16_q : f16 q = .inr (4, [.int 0, .ref (G.2.2 0), .int 0]) := by rw [hf16, va_up_ne _ _ (ne_h_q.symm)]; exact f15_q
  exact gx_vret C hr hW (⟨rfl, q, f16, hq, rfl, f16_h, f16_q, fun a k1 k2 => by rw [hf16, va_up_ne _ _ k1, hf15, va_up_ne _ _ k1, hf14, va_up_ne _ _ k1, hf13, va_up_ne _ _ k2, hf12, va_up_ne _ _ k2, hf11, va_up_ne _ _ k1]⟩) (Nat.le_of_ble_eq_true rfl) (Nat.le_of_ble_eq_true rfl) dX4_init_30
set_option maxHeartbeats 4000000 in
set_option maxRecDepth 100000 in
theorem kX5_init (l : Launch) (G : gx_T) (L : List Nat) (f : Nat → va_E) (x : Nat) (hx : x ∈ L) (fx : f x = .inr (10, [.null, .null, .null, .null, .null, .null, .null, .int 0])) : gx_M l G yX5_init cX5_init 1 none ({ frames := 4, cells := 8, slots := 50, locals := 80 } : Room) [.ref x] (va_pl L f) (fun v u => v = none ∧ ∃ (P F S X N T b : Nat) (L1 : List Nat) (f1 : Nat → va_E), u = va_pl L1 f1 ∧ (P ≠ F ∧ P ≠ S ∧ P ≠ T ∧ F ≠ S ∧ F ≠ T ∧ S ≠ T) ∧ x ∈ L1 ∧ f1 x = .inr (10, [.ref P, .ref F, .ref S, .ref X, .ref N, .ref T, .ref N, .int 0]) ∧ P ∈ L1 ∧ f1 P = .inr (4, [.int 0, .ref (G.2.2 0), .int 0]) ∧ F ∈ L1 ∧ f1 F = .inr (4, [.int 0, .ref (G.2.2 0), .int 0]) ∧ S ∈ L1 ∧ f1 S = .inr (4, [.int 0, .ref (G.2.2 0), .int 0]) ∧ T ∈ L1 ∧ f1 T = .inr (4, [.int 0, .ref (G.2.2 0), .int 0]) ∧ X ∈ L1 ∧ f1 X = .inr (1, [.ref b, .int 0, .int 0, .int 0]) ∧ b ∈ L1 ∧ f1 b = .inl (G.2.1 0, 16, .inl (fun _ => 0)) ∧ N ∈ L1 ∧ f1 N = .inr (6, [.long 0, .long 0, .long 0, .long 0, .int (-1), .long 0])) := by
  refine gx_start (by decide +kernel) (Nat.le_of_ble_eq_true rfl) ?_
  intro p e s m args below meth c A ls C hr hnm hW hl
  have gX := C.x
  have gB := C.b
  have hl : lv_has ls 1 [(0, .ref x)] := hl
  refine lv_aload_n gX gB dX5_init_0 rfl (lv_at hl 0 rfl) ?_
  refine gx_obj C (tq_1 37 (by decide +kernel) rfl) hl.1 dX5_init_1 (Nat.le_of_ble_eq_true rfl) (Nat.le_of_ble_eq_true rfl) ?_
  refine lv_aload_n gX gB dX5_init_4 rfl (lv_at hl 0 rfl) ?_
  refine gx_new (ci := 4) C hW clJx4a65c inJx4a65c rfl (tq_1 40 (by decide +kernel) rfl) (tq_1 41 (by decide +kernel) rfl) (tq_1 4 (by decide +kernel) rfl) dfJx4a65c (Nat.le_of_ble_eq_true rfl) (Nat.le_of_ble_eq_true rfl) dX5_init_5 (fun P H hP hW => ?_)
  refine W.widen (k := 1) (n := 3) (Nat.le_of_ble_eq_true rfl) (Nat.le_of_ble_eq_true rfl) ?_
  obtain ⟨f17, hf17⟩ : ∃ zz, zz = va_up f P (.inr (4, [.int 0, .null, .int 0])) := ⟨_, rfl⟩
  have hW := hW
  rw [← hf17] at hW
  have m17_x : x ∈ L ++ [P] := List.mem_append_left _ (hx)
  have f17_x : f17 x = .inr (10, [.null, .null, .null, .null, .null, .null, .null, .int 0]) := by rw [hf17, va_up_ne _ _ (fun zz => hP (by rw [← zz]; exact hx))]; exact fx
  have m17_P : P ∈ L ++ [P] := List.mem_append_right _ List.mem_cons_self
  have f17_P : f17 P = .inr (4, [.int 0, .null, .int 0]) := by rw [hf17]; exact va_up_self _ _ _
  have ne_x_P : x ≠ P := fun zz => hP (by rw [← zz]; exact hx)
  refine lv_dup gX gB dX5_init_8 rfl ?_
  refine gx_callI (wr := []) (rest := [.ref P, .ref x]) C hW sX5_9 (kJx4a65c_init_da8c8 l G (L ++ [P]) f17 P m17_P f17_P) rfl ⟨(Nat.le_of_ble_eq_true rfl), (Nat.le_of_ble_eq_true rfl)⟩ hl.1 rfl (Nat.le_of_ble_eq_true rfl) dX5_init_9 ⟨(Nat.le_of_ble_eq_true rfl), (Nat.le_of_ble_eq_true rfl)⟩ (fun v9 u9 H locs hp hW => ?_)
  obtain ⟨rfl, hu⟩ := hp
  rw [hu] at hW
  have hW : gx_W G A s (va_pl (L ++ [P]) (va_up f17 P (.inr (4, [.int 0, .ref (G.2.2 0), .int 0])))) H locs := hW
  refine W.eq (g2 := F0 m 12 ls [.ref P, .ref x]) rfl ?_
  refine W.widen (k := 1) (n := 3) (Nat.le_of_ble_eq_true rfl) (Nat.le_of_ble_eq_true rfl) ?_
  obtain ⟨f18, hf18⟩ : ∃ zz, zz = va_up f17 P (.inr (4, [.int 0, .ref (G.2.2 0), .int 0])) := ⟨_, rfl⟩
  have hW : gx_W G A s (va_pl (L ++ [P]) f18) H locs := by rw [hf18]; exact hW
  have f18_x : f18 x = .inr (10, [.null, .null, .null, .null, .null, .null, .null, .int 0]) := by rw [hf18, va_up_ne _ _ (ne_x_P)]; exact f17_x
  have f18_P : f18 P = .inr (4, [.int 0, .ref (G.2.2 0), .int 0]) := by rw [hf18]; exact va_up_self _ _ _
  refine gx_put C hW clX5 fX5_10 m17_x f18_x (Or.inr ⟨hnm, rfl⟩) rfl rfl (Nat.le_of_ble_eq_true rfl) dX5_init_12 (fun H locs hW => ?_)
  obtain ⟨f19, hf19⟩ : ∃ zz, zz = va_up f18 x (.inr (10, [.ref P, .null, .null, .null, .null, .null, .null, .int 0])) := ⟨_, rfl⟩
  have hW : gx_W G A s (va_pl (L ++ [P]) f19) H locs := by rw [hf19]; exact hW
  have f19_x : f19 x = .inr (10, [.ref P, .null, .null, .null, .null, .null, .null, .int 0]) := by rw [hf19]; exact va_up_self _ _ _
  have f19_P : f19 P = .inr (4, [.int 0, .ref (G.2.2 0), .int 0]) := by rw [hf19, va_up_ne _ _ (ne_x_P.symm)]; exact f18_P
  refine lv_aload_n gX gB dX5_init_15 rfl (lv_at hl 0 rfl) ?_
  refine gx_new (ci := 4) C hW clJx4a65c inJx4a65c rfl (tq_1 40 (by decide +kernel) rfl) (tq_1 41 (by decide +kernel) rfl) (tq_1 4 (by decide +kernel) rfl) dfJx4a65c (Nat.le_of_ble_eq_true rfl) (Nat.le_of_ble_eq_true rfl) dX5_init_16 (fun F H hF hW => ?_)
  refine W.widen (k := 2) (n := 6) (Nat.le_of_ble_eq_true rfl) (Nat.le_of_ble_eq_true rfl) ?_
  obtain ⟨f20, hf20⟩ : ∃ zz, zz = va_up f19 F (.inr (4, [.int 0, .null, .int 0])) := ⟨_, rfl⟩
  have hW := hW
  rw [← hf20] at hW
  have m20_x : x ∈ (L ++ [P]) ++ [F] := List.mem_append_left _ (m17_x)
  have f20_x : f20 x = .inr (10, [.ref P, .null, .null, .null, .null, .null, .null, .int 0]) := by rw [hf20, va_up_ne _ _ (fun zz => hF (by rw [← zz]; exact m17_x))]; exact f19_x
  have m20_P : P ∈ (L ++ [P]) ++ [F] := List.mem_append_left _ (m17_P)
  have f20_P : f20 P = .inr (4, [.int 0, .ref (G.2.2 0), .int 0]) := by rw [hf20, va_up_ne _ _ (fun zz => hF (by rw [← zz]; exact m17_P))]; exact f19_P
  have m20_F : F ∈ (L ++ [P]) ++ [F] := List.mem_append_right _ List.mem_cons_self
  have f20_F : f20 F = .inr (4, [.int 0, .null, .int 0]) := by rw [hf20]; exact va_up_self _ _ _
  have ne_x_F : x ≠ F := fun zz => hF (by rw [← zz]; exact m17_x)
  have ne_P_F : P ≠ F := fun zz => hF (by rw [← zz]; exact m17_P)
  refine lv_dup gX gB dX5_init_19 rfl ?_
  refine gx_callI (wr := []) (rest := [.ref F, .ref x]) C hW sX5_9 (kJx4a65c_init_da8c8 l G ((L ++ [P]) ++ [F]) f20 F m20_F f20_F) rfl ⟨(Nat.le_of_ble_eq_true rfl), (Nat.le_of_ble_eq_true rfl)⟩ hl.1 rfl (Nat.le_of_ble_eq_true rfl) dX5_init_20 ⟨(Nat.le_of_ble_eq_true rfl), (Nat.le_of_ble_eq_true rfl)⟩ (fun v9 u9 H locs hp hW => ?_)
  obtain ⟨rfl, hu⟩ := hp
  rw [hu] at hW
  have hW : gx_W G A s (va_pl ((L ++ [P]) ++ [F]) (va_up f20 F (.inr (4, [.int 0, .ref (G.2.2 0), .int 0])))) H locs := hW
  refine W.eq (g2 := F0 m 23 ls [.ref F, .ref x]) rfl ?_
  refine W.widen (k := 2) (n := 6) (Nat.le_of_ble_eq_true rfl) (Nat.le_of_ble_eq_true rfl) ?_
  obtain ⟨f21, hf21⟩ : ∃ zz, zz = va_up f20 F (.inr (4, [.int 0, .ref (G.2.2 0), .int 0])) := ⟨_, rfl⟩
  have hW : gx_W G A s (va_pl ((L ++ [P]) ++ [F]) f21) H locs := by rw [hf21]; exact hW
  have f21_x : f21 x = .inr (10, [.ref P, .null, .null, .null, .null, .null, .null, .int 0]) := by rw [hf21, va_up_ne _ _ (ne_x_F)]; exact f20_x
  have f21_P : f21 P = .inr (4, [.int 0, .ref (G.2.2 0), .int 0]) := by rw [hf21, va_up_ne _ _ (ne_P_F)]; exact f20_P
  have f21_F : f21 F = .inr (4, [.int 0, .ref (G.2.2 0), .int 0]) := by rw [hf21]; exact va_up_self _ _ _
  refine gx_put C hW clX5 fX5_16 m20_x f21_x (Or.inr ⟨hnm, rfl⟩) rfl rfl (Nat.le_of_ble_eq_true rfl) dX5_init_23 (fun H locs hW => ?_)
  obtain ⟨f22, hf22⟩ : ∃ zz, zz = va_up f21 x (.inr (10, [.ref P, .ref F, .null, .null, .null, .null, .null, .int 0])) := ⟨_, rfl⟩
  have hW : gx_W G A s (va_pl ((L ++ [P]) ++ [F]) f22) H locs := by rw [hf22]; exact hW
  have f22_x : f22 x = .inr (10, [.ref P, .ref F, .null, .null, .null, .null, .null, .int 0]) := by rw [hf22]; exact va_up_self _ _ _
  have f22_P : f22 P = .inr (4, [.int 0, .ref (G.2.2 0), .int 0]) := by rw [hf22, va_up_ne _ _ (ne_x_P.symm)]; exact f21_P
  have f22_F : f22 F = .inr (4, [.int 0, .ref (G.2.2 0), .int 0]) := by rw [hf22, va_up_ne _ _ (ne_x_F.symm)]; exact f21_F
  refine lv_aload_n gX gB dX5_init_26 rfl (lv_at hl 0 rfl) ?_
  refine gx_new (ci := 4) C hW clJx4a65c inJx4a65c rfl (tq_1 40 (by decide +kernel) rfl) (tq_1 41 (by decide +kernel) rfl) (tq_1 4 (by decide +kernel) rfl) dfJx4a65c (Nat.le_of_ble_eq_true rfl) (Nat.le_of_ble_eq_true rfl) dX5_init_27 (fun S H hS hW => ?_)
  refine W.widen (k := 3) (n := 9) (Nat.le_of_ble_eq_true rfl) (Nat.le_of_ble_eq_true rfl) ?_
  obtain ⟨f23, hf23⟩ : ∃ zz, zz = va_up f22 S (.inr (4, [.int 0, .null, .int 0])) := ⟨_, rfl⟩
  have hW := hW
  rw [← hf23] at hW
  have m23_x : x ∈ ((L ++ [P]) ++ [F]) ++ [S] := List.mem_append_left _ (m20_x)
  have f23_x : f23 x = .inr (10, [.ref P, .ref F, .null, .null, .null, .null, .null, .int 0]) := by rw [hf23, va_up_ne _ _ (fun zz => hS (by rw [← zz]; exact m20_x))]; exact f22_x
  have m23_P : P ∈ ((L ++ [P]) ++ [F]) ++ [S] := List.mem_append_left _ (m20_P)
  have f23_P : f23 P = .inr (4, [.int 0, .ref (G.2.2 0), .int 0]) := by rw [hf23, va_up_ne _ _ (fun zz => hS (by rw [← zz]; exact m20_P))]; exact f22_P
  have m23_F : F ∈ ((L ++ [P]) ++ [F]) ++ [S] := List.mem_append_left _ (m20_F)
  have f23_F : f23 F = .inr (4, [.int 0, .ref (G.2.2 0), .int 0]) := by rw [hf23, va_up_ne _ _ (fun zz => hS (by rw [← zz]; exact m20_F))]; exact f22_F
  have m23_S : S ∈ ((L ++ [P]) ++ [F]) ++ [S] := List.mem_append_right _ List.mem_cons_self
  have f23_S : f23 S = .inr (4, [.int 0, .null, .int 0]) := by rw [hf23]; exact va_up_self _ _ _
  have ne_x_S : x ≠ S := fun zz => hS (by rw [← zz]; exact m20_x)
  have ne_P_S : P ≠ S := fun zz => hS (by rw [← zz]; exact m20_P)
  have ne_F_S : F ≠ S := fun zz => hS (by rw [← zz]; exact m20_F)
  refine lv_dup gX gB dX5_init_30 rfl ?_
  refine gx_callI (wr := []) (rest := [.ref S, .ref x]) C hW sX5_9 (kJx4a65c_init_da8c8 l G (((L ++ [P]) ++ [F]) ++ [S]) f23 S m23_S f23_S) rfl ⟨(Nat.le_of_ble_eq_true rfl), (Nat.le_of_ble_eq_true rfl)⟩ hl.1 rfl (Nat.le_of_ble_eq_true rfl) dX5_init_31 ⟨(Nat.le_of_ble_eq_true rfl), (Nat.le_of_ble_eq_true rfl)⟩ (fun v9 u9 H locs hp hW => ?_)
  obtain ⟨rfl, hu⟩ := hp
  rw [hu] at hW
  have hW : gx_W G A s (va_pl (((L ++ [P]) ++ [F]) ++ [S]) (va_up f23 S (.inr (4, [.int 0, .ref (G.2.2 0), .int 0])))) H locs := hW
  refine W.eq (g2 := F0 m 34 ls [.ref S, .ref x]) rfl ?_
  refine W.widen (k := 3) (n := 9) (Nat.le_of_ble_eq_true rfl) (Nat.le_of_ble_eq_true rfl) ?_
  obtain ⟨f24, hf24⟩ : ∃ zz, zz = va_up f23 S (.inr (4, [.int 0, .ref (G.2.2 0), .int 0])) := ⟨_, rfl⟩
  have hW : gx_W G A s (va_pl (((L ++ [P]) ++ [F]) ++ [S]) f24) H locs := by rw [hf24]; exact hW
  have f24_x : f24 x = .inr (10, [.ref P, .ref F, .null, .null, .null, .null, .null, .int 0]) := by rw [hf24, va_up_ne _ _ (ne_x_S)]; exact f23_x
  have f24_P : f24 P = .inr (4, [.int 0, .ref (G.2.2 0), .int 0]) := by rw [hf24, va_up_ne _ _ (ne_P_S)]; exact f23_P
  have f24_F : f24 F = .inr (4, [.int 0, .ref (G.2.2 0), .int 0]) := by rw [hf24, va_up_ne _ _ (ne_F_S)]; exact f23_F
  have f24_S : f24 S = .inr (4, [.int 0, .ref (G.2.2 0), .int 0]) := by rw [hf24]; exact va_up_self _ _ _
  refine gx_put C hW clX5 fX5_19 m23_x f24_x (Or.inr ⟨hnm, rfl⟩) rfl rfl (Nat.le_of_ble_eq_true rfl) dX5_init_34 (fun H locs hW => ?_)
  obtain ⟨f25, hf25⟩ : ∃ zz, zz = va_up f24 x (.inr (10, [.ref P, .ref F, .ref S, .null, .null, .null, .null, .int 0])) := ⟨_, rfl⟩
  have hW : gx_W G A s (va_pl (((L ++ [P]) ++ [F]) ++ [S]) f25) H locs := by rw [hf25]; exact hW
  have f25_x : f25 x = .inr (10, [.ref P, .ref F, .ref S, .null, .null, .null, .null, .int 0]) := by rw [hf25]; exact va_up_self _ _ _
  have f25_P : f25 P = .inr (4, [.int 0, .ref (G.2.2 0), .int 0]) := by rw [hf25, va_up_ne _ _ (ne_x_P.symm)]; exact f24_P
  have f25_F : f25 F = .inr (4, [.int 0, .ref (G.2.2 0), .int 0]) := by rw [hf25, va_up_ne _ _ (ne_x_F.symm)]; exact f24_F
  have f25_S : f25 S = .inr (4, [.int 0, .ref (G.2.2 0), .int 0]) := by rw [hf25, va_up_ne _ _ (ne_x_S.symm)]; exact f24_S
  refine lv_aload_n gX gB dX5_init_37 rfl (lv_at hl 0 rfl) ?_
  refine gx_new (ci := 1) C hW clJ4 inJ4 rfl (tq_1 66 (by decide +kernel) rfl) (tq_1 67 (by decide +kernel) rfl) (tq_1 6 (by decide +kernel) rfl) dfJ4 (Nat.le_of_ble_eq_true rfl) (Nat.le_of_ble_eq_true rfl) dX5_init_38 (fun X H hX hW => ?_)
  refine W.widen (k := 4) (n := 13) (Nat.le_of_ble_eq_true rfl) (Nat.le_of_ble_eq_true rfl) ?_
  obtain ⟨f26, hf26⟩ : ∃ zz, zz = va_up f25 X (.inr (1, [.null, .int 0, .int 0, .int 0])) := ⟨_, rfl⟩
  have hW := hW
  rw [← hf26] at hW
  have m26_x : x ∈ (((L ++ [P]) ++ [F]) ++ [S]) ++ [X] := List.mem_append_left _ (m23_x)
  have f26_x : f26 x = .inr (10, [.ref P, .ref F, .ref S, .null, .null, .null, .null, .int 0]) := by rw [hf26, va_up_ne _ _ (fun zz => hX (by rw [← zz]; exact m23_x))]; exact f25_x
  have m26_P : P ∈ (((L ++ [P]) ++ [F]) ++ [S]) ++ [X] := List.mem_append_left _ (m23_P)
  have f26_P : f26 P = .inr (4, [.int 0, .ref (G.2.2 0), .int 0]) := by rw [hf26, va_up_ne _ _ (fun zz => hX (by rw [← zz]; exact m23_P))]; exact f25_P
  have m26_F : F ∈ (((L ++ [P]) ++ [F]) ++ [S]) ++ [X] := List.mem_append_left _ (m23_F)
  have f26_F : f26 F = .inr (4, [.int 0, .ref (G.2.2 0), .int 0]) := by rw [hf26, va_up_ne _ _ (fun zz => hX (by rw [← zz]; exact m23_F))]; exact f25_F
  have m26_S : S ∈ (((L ++ [P]) ++ [F]) ++ [S]) ++ [X] := List.mem_append_left _ (m23_S)
  have f26_S : f26 S = .inr (4, [.int 0, .ref (G.2.2 0), .int 0]) := by rw [hf26, va_up_ne _ _ (fun zz => hX (by rw [← zz]; exact m23_S))]; exact f25_S
  have m26_X : X ∈ (((L ++ [P]) ++ [F]) ++ [S]) ++ [X] := List.mem_append_right _ List.mem_cons_self
  have f26_X : f26 X = .inr (1, [.null, .int 0, .int 0, .int 0]) := by rw [hf26]; exact va_up_self _ _ _
  have ne_x_X : x ≠ X := fun zz => hX (by rw [← zz]; exact m23_x)
  have ne_P_X : P ≠ X := fun zz => hX (by rw [← zz]; exact m23_P)
  have ne_F_X : F ≠ X := fun zz => hX (by rw [← zz]; exact m23_F)
  have ne_S_X : S ≠ X := fun zz => hX (by rw [← zz]; exact m23_S)
  refine lv_dup gX gB dX5_init_41 rfl ?_
  refine gx_callI (wr := []) (rest := [.ref X, .ref x]) C hW sX5_24 (kJ4_init_da8c8 l G ((((L ++ [P]) ++ [F]) ++ [S]) ++ [X]) f26 X m26_X f26_X) rfl ⟨(Nat.le_of_ble_eq_true rfl), (Nat.le_of_ble_eq_true rfl)⟩ hl.1 rfl (Nat.le_of_ble_eq_true rfl) dX5_init_42 ⟨(Nat.le_of_ble_eq_true rfl), (Nat.le_of_ble_eq_true rfl)⟩ (fun v9 u9 H locs hp hW => ?_)
  obtain ⟨rfl, b, fX, hb, hu, e1, e2, e3⟩ := hp
  rw [hu] at hW
  have hW : gx_W G A s (va_pl (((((L ++ [P]) ++ [F]) ++ [S]) ++ [X]) ++ [b]) fX) H locs := hW
  refine W.eq (g2 := F0 m 45 ls [.ref X, .ref x]) rfl ?_
  refine W.widen (k := 5) (n := 29) (Nat.le_of_ble_eq_true rfl) (Nat.le_of_ble_eq_true rfl) ?_
  have ne_x_b : x ≠ b := fun zz => hb (by rw [← zz]; exact m26_x)
  have mX_x : x ∈ ((((L ++ [P]) ++ [F]) ++ [S]) ++ [X]) ++ [b] := List.mem_append_left _ (m26_x)
  have eX_x : fX x = .inr (10, [.ref P, .ref F, .ref S, .null, .null, .null, .null, .int 0]) := (e3 _ ne_x_X ne_x_b).trans f26_x
  have ne_P_b : P ≠ b := fun zz => hb (by rw [← zz]; exact m26_P)
  have mX_P : P ∈ ((((L ++ [P]) ++ [F]) ++ [S]) ++ [X]) ++ [b] := List.mem_append_left _ (m26_P)
  have eX_P : fX P = .inr (4, [.int 0, .ref (G.2.2 0), .int 0]) := (e3 _ ne_P_X ne_P_b).trans f26_P
  have ne_F_b : F ≠ b := fun zz => hb (by rw [← zz]; exact m26_F)
  have mX_F : F ∈ ((((L ++ [P]) ++ [F]) ++ [S]) ++ [X]) ++ [b] := List.mem_append_left _ (m26_F)
  have eX_F : fX F = .inr (4, [.int 0, .ref (G.2.2 0), .int 0]) := (e3 _ ne_F_X ne_F_b).trans f26_F
  have ne_S_b : S ≠ b := fun zz => hb (by rw [← zz]; exact m26_S)
  have mX_S : S ∈ ((((L ++ [P]) ++ [F]) ++ [S]) ++ [X]) ++ [b] := List.mem_append_left _ (m26_S)
  have eX_S : fX S = .inr (4, [.int 0, .ref (G.2.2 0), .int 0]) := (e3 _ ne_S_X ne_S_b).trans f26_S
  have ne_X_b : X ≠ b := fun zz => hb (by rw [← zz]; exact m26_X)
  have mX_X : X ∈ ((((L ++ [P]) ++ [F]) ++ [S]) ++ [X]) ++ [b] := List.mem_append_left _ (m26_X)
  refine gx_put C hW clX5 fX5_25 mX_x eX_x (Or.inr ⟨hnm, rfl⟩) rfl rfl (Nat.le_of_ble_eq_true rfl) dX5_init_45 (fun H locs hW => ?_)
  obtain ⟨f27, hf27⟩ : ∃ zz, zz = va_up fX x (.inr (10, [.ref P, .ref F, .ref S, .ref X, .null, .null, .null, .int 0])) := ⟨_, rfl⟩
  have hW : gx_W G A s (va_pl (((((L ++ [P]) ++ [F]) ++ [S]) ++ [X]) ++ [b]) f27) H locs := by rw [hf27]; exact hW
  have f27_x : f27 x = .inr (10, [.ref P, .ref F, .ref S, .ref X, .null, .null, .null, .int 0]) := by rw [hf27]; exact va_up_self _ _ _
  have f27_P : f27 P = .inr (4, [.int 0, .ref (G.2.2 0), .int 0]) := by rw [hf27, va_up_ne _ _ (ne_x_P.symm)]; exact eX_P
  have f27_F : f27 F = .inr (4, [.int 0, .ref (G.2.2 0), .int 0]) := by rw [hf27, va_up_ne _ _ (ne_x_F.symm)]; exact eX_F
  have f27_S : f27 S = .inr (4, [.int 0, .ref (G.2.2 0), .int 0]) := by rw [hf27, va_up_ne _ _ (ne_x_S.symm)]; exact eX_S
  have f27_X : f27 X = .inr (1, [.ref b, .int 0, .int 0, .int 0]) := by rw [hf27, va_up_ne _ _ (ne_x_X.symm)]; exact e1
  have f27_b : f27 b = .inl (G.2.1 0, 16, .inl (fun _ => 0)) := by rw [hf27, va_up_ne _ _ (ne_x_b.symm)]; exact e2
  refine lv_aload_n gX gB dX5_init_48 rfl (lv_at hl 0 rfl) ?_
  refine gx_new (ci := 6) C hW clX1 inX1 rfl (tq_1 99 (by decide +kernel) rfl) (tq_1 100 (by decide +kernel) rfl) (tq_1 9 (by decide +kernel) rfl) dfX1 (Nat.le_of_ble_eq_true rfl) (Nat.le_of_ble_eq_true rfl) dX5_init_49 (fun N H hN hW => ?_)
  refine W.widen (k := 6) (n := 35) (Nat.le_of_ble_eq_true rfl) (Nat.le_of_ble_eq_true rfl) ?_
  obtain ⟨f28, hf28⟩ : ∃ zz, zz = va_up f27 N (.inr (6, [.long 0, .long 0, .long 0, .long 0, .int 0, .long 0])) := ⟨_, rfl⟩
  have hW := hW
  rw [← hf28] at hW
  have m28_x : x ∈ (((((L ++ [P]) ++ [F]) ++ [S]) ++ [X]) ++ [b]) ++ [N] := List.mem_append_left _ (mX_x)
  have f28_x : f28 x = .inr (10, [.ref P, .ref F, .ref S, .ref X, .null, .null, .null, .int 0]) := by rw [hf28, va_up_ne _ _ (fun zz => hN (by rw [← zz]; exact mX_x))]; exact f27_x
  have m28_P : P ∈ (((((L ++ [P]) ++ [F]) ++ [S]) ++ [X]) ++ [b]) ++ [N] := List.mem_append_left _ (mX_P)
  have f28_P : f28 P = .inr (4, [.int 0, .ref (G.2.2 0), .int 0]) := by rw [hf28, va_up_ne _ _ (fun zz => hN (by rw [← zz]; exact mX_P))]; exact f27_P
  have m28_F : F ∈ (((((L ++ [P]) ++ [F]) ++ [S]) ++ [X]) ++ [b]) ++ [N] := List.mem_append_left _ (mX_F)
  have f28_F : f28 F = .inr (4, [.int 0, .ref (G.2.2 0), .int 0]) := by rw [hf28, va_up_ne _ _ (fun zz => hN (by rw [← zz]; exact mX_F))]; exact f27_F
  have m28_S : S ∈ (((((L ++ [P]) ++ [F]) ++ [S]) ++ [X]) ++ [b]) ++ [N] := List.mem_append_left _ (mX_S)
  have f28_S : f28 S = .inr (4, [.int 0, .ref (G.2.2 0), .int 0]) := by rw [hf28, va_up_ne _ _ (fun zz => hN (by rw [← zz]; exact mX_S))]; exact f27_S
  have m28_X : X ∈ (((((L ++ [P]) ++ [F]) ++ [S]) ++ [X]) ++ [b]) ++ [N] := List.mem_append_left _ (mX_X)
  have f28_X : f28 X = .inr (1, [.ref b, .int 0, .int 0, .int 0]) := by rw [hf28, va_up_ne _ _ (fun zz => hN (by rw [← zz]; exact mX_X))]; exact f27_X
  have m28_b : b ∈ (((((L ++ [P]) ++ [F]) ++ [S]) ++ [X]) ++ [b]) ++ [N] := List.mem_append_left _ ((List.mem_append_right _ List.mem_cons_self))
  have f28_b : f28 b = .inl (G.2.1 0, 16, .inl (fun _ => 0)) := by rw [hf28, va_up_ne _ _ (fun zz => hN (by rw [← zz]; exact (List.mem_append_right _ List.mem_cons_self)))]; exact f27_b
  have m28_N : N ∈ (((((L ++ [P]) ++ [F]) ++ [S]) ++ [X]) ++ [b]) ++ [N] := List.mem_append_right _ List.mem_cons_self
  have f28_N : f28 N = .inr (6, [.long 0, .long 0, .long 0, .long 0, .int 0, .long 0]) := by rw [hf28]; exact va_up_self _ _ _
  have ne_x_N : x ≠ N := fun zz => hN (by rw [← zz]; exact mX_x)
  have ne_P_N : P ≠ N := fun zz => hN (by rw [← zz]; exact mX_P)
  have ne_F_N : F ≠ N := fun zz => hN (by rw [← zz]; exact mX_F)
  have ne_S_N : S ≠ N := fun zz => hN (by rw [← zz]; exact mX_S)
  have ne_X_N : X ≠ N := fun zz => hN (by rw [← zz]; exact mX_X)
  have ne_b_N : b ≠ N := fun zz => hN (by rw [← zz]; exact (List.mem_append_right _ List.mem_cons_self))
  refine lv_dup gX gB dX5_init_52 rfl ?_
  refine lv_lconst (v := 0) gX gB dX5_init_53 (by decide) ?_
  refine lv_lconst (v := 0) gX gB dX5_init_54 (by decide) ?_
  refine lv_lconst (v := 0) gX gB dX5_init_55 (by decide) ?_
  refine lv_lconst (v := 0) gX gB dX5_init_56 (by decide) ?_
  refine gx_callIN (wr := []) (rest := [.ref N, .ref x]) C hW sX5_31n (kX1_init l G ((((((L ++ [P]) ++ [F]) ++ [S]) ++ [X]) ++ [b]) ++ [N]) f28 N 0 0 0 0 m28_N f28_N) rfl ⟨(Nat.le_of_ble_eq_true rfl), (Nat.le_of_ble_eq_true rfl)⟩ hl.1 rfl (Nat.le_of_ble_eq_true rfl) dX5_init_57 ⟨(Nat.le_of_ble_eq_true rfl), (Nat.le_of_ble_eq_true rfl)⟩ (fun v9 u9 H locs hp hW => ?_)
  obtain ⟨rfl, hu⟩ := hp
  rw [hu] at hW
  have hW : gx_W G A s (va_pl ((((((L ++ [P]) ++ [F]) ++ [S]) ++ [X]) ++ [b]) ++ [N]) (va_up f28 N (.inr (6, [.long 0, .long 0, .long 0, .long 0, .int (-1), .long 0])))) H locs := hW
  refine W.eq (g2 := F0 m 60 ls [.ref N, .ref x]) rfl ?_
  refine W.widen (k := 6) (n := 35) (Nat.le_of_ble_eq_true rfl) (Nat.le_of_ble_eq_true rfl) ?_
  obtain ⟨f29, hf29⟩ : ∃ zz, zz = va_up f28 N (.inr (6, [.long 0, .long 0, .long 0, .long 0, .int (-1), .long 0])) := ⟨_, rfl⟩
  have hW : gx_W G A s (va_pl ((((((L ++ [P]) ++ [F]) ++ [S]) ++ [X]) ++ [b]) ++ [N]) f29) H locs := by rw [hf29]; exact hW
  have f29_x : f29 x = .inr (10, [.ref P, .ref F, .ref S, .ref X, .null, .null, .null, .int 0]) := by rw [hf29, va_up_ne _ _ (ne_x_N)]; exact f28_x
  have f29_P : f29 P = .inr (4, [.int 0, .ref (G.2.2 0), .int 0]) := by rw [hf29, va_up_ne _ _ (ne_P_N)]; exact f28_P
  have f29_F : f29 F = .inr (4, [.int 0, .ref (G.2.2 0), .int 0]) := by rw [hf29, va_up_ne _ _ (ne_F_N)]; exact f28_F
  have f29_S : f29 S = .inr (4, [.int 0, .ref (G.2.2 0), .int 0]) := by rw [hf29, va_up_ne _ _ (ne_S_N)]; exact f28_S
  have f29_X : f29 X = .inr (1, [.ref b, .int 0, .int 0, .int 0]) := by rw [hf29, va_up_ne _ _ (ne_X_N)]; exact f28_X
  have f29_b : f29 b = .inl (G.2.1 0, 16, .inl (fun _ => 0)) := by rw [hf29, va_up_ne _ _ (ne_b_N)]; exact f28_b
  have f29_N : f29 N = .inr (6, [.long 0, .long 0, .long 0, .long 0, .int (-1), .long 0]) := by rw [hf29]; exact va_up_self _ _ _
  refine gx_put C hW clX5 fX5_34 m28_x f29_x (Or.inr ⟨hnm, rfl⟩) rfl rfl (Nat.le_of_ble_eq_true rfl) dX5_init_60 (fun H locs hW => ?_)
  obtain ⟨f30, hf30⟩ : ∃ zz, zz = va_up f29 x (.inr (10, [.ref P, .ref F, .ref S, .ref X, .ref N, .null, .null, .int 0])) := ⟨_, rfl⟩
  have hW : gx_W G A s (va_pl ((((((L ++ [P]) ++ [F]) ++ [S]) ++ [X]) ++ [b]) ++ [N]) f30) H locs := by rw [hf30]; exact hW
  have f30_x : f30 x = .inr (10, [.ref P, .ref F, .ref S, .ref X, .ref N, .null, .null, .int 0]) := by rw [hf30]; exact va_up_self _ _ _
  have f30_P : f30 P = .inr (4, [.int 0, .ref (G.2.2 0), .int 0]) := by rw [hf30, va_up_ne _ _ (ne_x_P.symm)]; exact f29_P
  have f30_F : f30 F = .inr (4, [.int 0, .ref (G.2.2 0), .int 0]) := by rw [hf30, va_up_ne _ _ (ne_x_F.symm)]; exact f29_F
  have f30_S : f30 S = .inr (4, [.int 0, .ref (G.2.2 0), .int 0]) := by rw [hf30, va_up_ne _ _ (ne_x_S.symm)]; exact f29_S
  have f30_X : f30 X = .inr (1, [.ref b, .int 0, .int 0, .int 0]) := by rw [hf30, va_up_ne _ _ (ne_x_X.symm)]; exact f29_X
  have f30_b : f30 b = .inl (G.2.1 0, 16, .inl (fun _ => 0)) := by rw [hf30, va_up_ne _ _ (ne_x_b.symm)]; exact f29_b
  have f30_N : f30 N = .inr (6, [.long 0, .long 0, .long 0, .long 0, .int (-1), .long 0]) := by rw [hf30, va_up_ne _ _ (ne_x_N.symm)]; exact f29_N
  refine lv_aload_n gX gB dX5_init_63 rfl (lv_at hl 0 rfl) ?_
  refine gx_new (ci := 4) C hW clJx4a65c inJx4a65c rfl (tq_1 40 (by decide +kernel) rfl) (tq_1 41 (by decide +kernel) rfl) (tq_1 4 (by decide +kernel) rfl) dfJx4a65c (Nat.le_of_ble_eq_true rfl) (Nat.le_of_ble_eq_true rfl) dX5_init_64 (fun T H hT hW => ?_)
  refine W.widen (k := 7) (n := 38) (Nat.le_of_ble_eq_true rfl) (Nat.le_of_ble_eq_true rfl) ?_
  obtain ⟨f31, hf31⟩ : ∃ zz, zz = va_up f30 T (.inr (4, [.int 0, .null, .int 0])) := ⟨_, rfl⟩
  have hW := hW
  rw [← hf31] at hW
  have m31_x : x ∈ ((((((L ++ [P]) ++ [F]) ++ [S]) ++ [X]) ++ [b]) ++ [N]) ++ [T] := List.mem_append_left _ (m28_x)
  have f31_x : f31 x = .inr (10, [.ref P, .ref F, .ref S, .ref X, .ref N, .null, .null, .int 0]) := by rw [hf31, va_up_ne _ _ (fun zz => hT (by rw [← zz]; exact m28_x))]; exact f30_x
  have m31_P : P ∈ ((((((L ++ [P]) ++ [F]) ++ [S]) ++ [X]) ++ [b]) ++ [N]) ++ [T] := List.mem_append_left _ (m28_P)
  have f31_P : f31 P = .inr (4, [.int 0, .ref (G.2.2 0), .int 0]) := by rw [hf31, va_up_ne _ _ (fun zz => hT (by rw [← zz]; exact m28_P))]; exact f30_P
  have m31_F : F ∈ ((((((L ++ [P]) ++ [F]) ++ [S]) ++ [X]) ++ [b]) ++ [N]) ++ [T] := List.mem_append_left _ (m28_F)
  have f31_F : f31 F = .inr (4, [.int 0, .ref (G.2.2 0), .int 0]) := by rw [hf31, va_up_ne _ _ (fun zz => hT (by rw [← zz]; exact m28_F))]; exact f30_F
  have m31_S : S ∈ ((((((L ++ [P]) ++ [F]) ++ [S]) ++ [X]) ++ [b]) ++ [N]) ++ [T] := List.mem_append_left _ (m28_S)
  have f31_S : f31 S = .inr (4, [.int 0, .ref (G.2.2 0), .int 0]) := by rw [hf31, va_up_ne _ _ (fun zz => hT (by rw [← zz]; exact m28_S))]; exact f30_S
  have m31_X : X ∈ ((((((L ++ [P]) ++ [F]) ++ [S]) ++ [X]) ++ [b]) ++ [N]) ++ [T] := List.mem_append_left _ (m28_X)
  have f31_X : f31 X = .inr (1, [.ref b, .int 0, .int 0, .int 0]) := by rw [hf31, va_up_ne _ _ (fun zz => hT (by rw [← zz]; exact m28_X))]; exact f30_X
  have m31_b : b ∈ ((((((L ++ [P]) ++ [F]) ++ [S]) ++ [X]) ++ [b]) ++ [N]) ++ [T] := List.mem_append_left _ (m28_b)
  have f31_b : f31 b = .inl (G.2.1 0, 16, .inl (fun _ => 0)) := by rw [hf31, va_up_ne _ _ (fun zz => hT (by rw [← zz]; exact m28_b))]; exact f30_b
  have m31_N : N ∈ ((((((L ++ [P]) ++ [F]) ++ [S]) ++ [X]) ++ [b]) ++ [N]) ++ [T] := List.mem_append_left _ (m28_N)
  have f31_N : f31 N = .inr (6, [.long 0, .long 0, .long 0, .long 0, .int (-1), .long 0]) := by rw [hf31, va_up_ne _ _ (fun zz => hT (by rw [← zz]; exact m28_N))]; exact f30_N
  have m31_T : T ∈ ((((((L ++ [P]) ++ [F]) ++ [S]) ++ [X]) ++ [b]) ++ [N]) ++ [T] := List.mem_append_right _ List.mem_cons_self
  have f31_T : f31 T = .inr (4, [.int 0, .null, .int 0]) := by rw [hf31]; exact va_up_self _ _ _
  have ne_x_T : x ≠ T := fun zz => hT (by rw [← zz]; exact m28_x)
  have ne_P_T : P ≠ T := fun zz => hT (by rw [← zz]; exact m28_P)
  have ne_F_T : F ≠ T := fun zz => hT (by rw [← zz]; exact m28_F)
  have ne_S_T : S ≠ T := fun zz => hT (by rw [← zz]; exact m28_S)
  have ne_X_T : X ≠ T := fun zz => hT (by rw [← zz]; exact m28_X)
  have ne_b_T : b ≠ T := fun zz => hT (by rw [← zz]; exact m28_b)
  have ne_N_T : N ≠ T := fun zz => hT (by rw [← zz]; exact m28_N)
  refine lv_dup gX gB dX5_init_67 rfl ?_
  refine gx_callI (wr := []) (rest := [.ref T, .ref x]) C hW sX5_9 (kJx4a65c_init_da8c8 l G (((((((L ++ [P]) ++ [F]) ++ [S]) ++ [X]) ++ [b]) ++ [N]) ++ [T]) f31 T m31_T f31_T) rfl ⟨(Nat.le_of_ble_eq_true rfl), (Nat.le_of_ble_eq_true rfl)⟩ hl.1 rfl (Nat.le_of_ble_eq_true rfl) dX5_init_68 ⟨(Nat.le_of_ble_eq_true rfl), (Nat.le_of_ble_eq_true rfl)⟩ (fun v9 u9 H locs hp hW => ?_)
  obtain ⟨rfl, hu⟩ := hp
  rw [hu] at hW
  have hW : gx_W G A s (va_pl (((((((L ++ [P]) ++ [F]) ++ [S]) ++ [X]) ++ [b]) ++ [N]) ++ [T]) (va_up f31 T (.inr (4, [.int 0, .ref (G.2.2 0), .int 0])))) H locs := hW
  refine W.eq (g2 := F0 m 71 ls [.ref T, .ref x]) rfl ?_
  refine W.widen (k := 7) (n := 38) (Nat.le_of_ble_eq_true rfl) (Nat.le_of_ble_eq_true rfl) ?_
  obtain ⟨f32, hf32⟩ : ∃ zz, zz = va_up f31 T (.inr (4, [.int 0, .ref (G.2.2 0), .int 0])) := ⟨_, rfl⟩
  have hW : gx_W G A s (va_pl (((((((L ++ [P]) ++ [F]) ++ [S]) ++ [X]) ++ [b]) ++ [N]) ++ [T]) f32) H locs := by rw [hf32]; exact hW
  have f32_x : f32 x = .inr (10, [.ref P, .ref F, .ref S, .ref X, .ref N, .null, .null, .int 0]) := by rw [hf32, va_up_ne _ _ (ne_x_T)]; exact f31_x
  have f32_P : f32 P = .inr (4, [.int 0, .ref (G.2.2 0), .int 0]) := by rw [hf32, va_up_ne _ _ (ne_P_T)]; exact f31_P
  have f32_F : f32 F = .inr (4, [.int 0, .ref (G.2.2 0), .int 0]) := by rw [hf32, va_up_ne _ _ (ne_F_T)]; exact f31_F
  have f32_S : f32 S = .inr (4, [.int 0, .ref (G.2.2 0), .int 0]) := by rw [hf32, va_up_ne _ _ (ne_S_T)]; exact f31_S
  have f32_X : f32 X = .inr (1, [.ref b, .int 0, .int 0, .int 0]) := by rw [hf32, va_up_ne _ _ (ne_X_T)]; exact f31_X
  have f32_b : f32 b = .inl (G.2.1 0, 16, .inl (fun _ => 0)) := by rw [hf32, va_up_ne _ _ (ne_b_T)]; exact f31_b
  have f32_N : f32 N = .inr (6, [.long 0, .long 0, .long 0, .long 0, .int (-1), .long 0]) := by rw [hf32, va_up_ne _ _ (ne_N_T)]; exact f31_N
  have f32_T : f32 T = .inr (4, [.int 0, .ref (G.2.2 0), .int 0]) := by rw [hf32]; exact va_up_self _ _ _
  refine gx_put C hW clX5 fX5_38 m31_x f32_x (Or.inl rfl) rfl rfl (Nat.le_of_ble_eq_true rfl) dX5_init_71 (fun H locs hW => ?_)
  obtain ⟨f33, hf33⟩ : ∃ zz, zz = va_up f32 x (.inr (10, [.ref P, .ref F, .ref S, .ref X, .ref N, .ref T, .null, .int 0])) := ⟨_, rfl⟩
  have hW : gx_W G A s (va_pl (((((((L ++ [P]) ++ [F]) ++ [S]) ++ [X]) ++ [b]) ++ [N]) ++ [T]) f33) H locs := by rw [hf33]; exact hW
  have f33_x : f33 x = .inr (10, [.ref P, .ref F, .ref S, .ref X, .ref N, .ref T, .null, .int 0]) := by rw [hf33]; exact va_up_self _ _ _
  have f33_P : f33 P = .inr (4, [.int 0, .ref (G.2.2 0), .int 0]) := by rw [hf33, va_up_ne _ _ (ne_x_P.symm)]; exact f32_P
  have f33_F : f33 F = .inr (4, [.int 0, .ref (G.2.2 0), .int 0]) := by rw [hf33, va_up_ne _ _ (ne_x_F.symm)]; exact f32_F
  have f33_S : f33 S = .inr (4, [.int 0, .ref (G.2.2 0), .int 0]) := by rw [hf33, va_up_ne _ _ (ne_x_S.symm)]; exact f32_S
  have f33_X : f33 X = .inr (1, [.ref b, .int 0, .int 0, .int 0]) := by rw [hf33, va_up_ne _ _ (ne_x_X.symm)]; exact f32_X
  have f33_b : f33 b = .inl (G.2.1 0, 16, .inl (fun _ => 0)) := by rw [hf33, va_up_ne _ _ (ne_x_b.symm)]; exact f32_b
  have f33_N : f33 N = .inr (6, [.long 0, .long 0, .long 0, .long 0, .int (-1), .long 0]) := by rw [hf33, va_up_ne _ _ (ne_x_N.symm)]; exact f32_N
  have f33_T : f33 T = .inr (4, [.int 0, .ref (G.2.2 0), .int 0]) := by rw [hf33, va_up_ne _ _ (ne_x_T.symm)]; exact f32_T
  refine lv_aload_n gX gB dX5_init_74 rfl (lv_at hl 0 rfl) ?_
  refine lv_aload_n gX gB dX5_init_75 rfl (lv_at hl 0 rfl) ?_
  refine gx_get C hW fX5_34 (gx_pl m31_x f33_x) rfl dX5_init_76 ?_
  refine gx_put C hW clX5 fX5_41 m31_x f33_x (Or.inl rfl) rfl rfl (Nat.le_of_ble_eq_true rfl) dX5_init_79 (fun H locs hW => ?_)
  obtain ⟨f34, hf34⟩ : ∃ zz, zz = va_up f33 x (.inr (10, [.ref P, .ref F, .ref S, .ref X, .ref N, .ref T, .ref N, .int 0])) := ⟨_, rfl⟩
  have hW : gx_W G A s (va_pl (((((((L ++ [P]) ++ [F]) ++ [S]) ++ [X]) ++ [b]) ++ [N]) ++ [T]) f34) H locs := by rw [hf34]; exact hW
  have f34_x : f34 x = .inr (10, [.ref P, .ref F, .ref S, .ref X, .ref N, .ref T, .ref N, .int 0]) := by rw [hf34]; exact va_up_self _ _ _
  have f34_P : f34 P = .inr (4, [.int 0, .ref (G.2.2 0), .int 0]) := by rw [hf34, va_up_ne _ _ (ne_x_P.symm)]; exact f33_P
  have f34_F : f34 F = .inr (4, [.int 0, .ref (G.2.2 0), .int 0]) := by rw [hf34, va_up_ne _ _ (ne_x_F.symm)]; exact f33_F
  have f34_S : f34 S = .inr (4, [.int 0, .ref (G.2.2 0), .int 0]) := by rw [hf34, va_up_ne _ _ (ne_x_S.symm)]; exact f33_S
  have f34_X : f34 X = .inr (1, [.ref b, .int 0, .int 0, .int 0]) := by rw [hf34, va_up_ne _ _ (ne_x_X.symm)]; exact f33_X
  have f34_b : f34 b = .inl (G.2.1 0, 16, .inl (fun _ => 0)) := by rw [hf34, va_up_ne _ _ (ne_x_b.symm)]; exact f33_b
  have f34_N : f34 N = .inr (6, [.long 0, .long 0, .long 0, .long 0, .int (-1), .long 0]) := by rw [hf34, va_up_ne _ _ (ne_x_N.symm)]; exact f33_N
  have f34_T : f34 T = .inr (4, [.int 0, .ref (G.2.2 0), .int 0]) := by rw [hf34, va_up_ne _ _ (ne_x_T.symm)]; exact f33_T
  refine lv_aload_n gX gB dX5_init_82 rfl (lv_at hl 0 rfl) ?_
  refine lv_iconst (v := 0) gX gB dX5_init_83 (by decide) ?_
  refine gx_put C hW clX5 fX5_44 m31_x f34_x (Or.inl rfl) rfl rfl (Nat.le_of_ble_eq_true rfl) dX5_init_84 (fun H locs hW => ?_)
  obtain ⟨f35, hf35⟩ : ∃ zz, zz = va_up f34 x (.inr (10, [.ref P, .ref F, .ref S, .ref X, .ref N, .ref T, .ref N, .int 0])) := ⟨_, rfl⟩
  have hW : gx_W G A s (va_pl (((((((L ++ [P]) ++ [F]) ++ [S]) ++ [X]) ++ [b]) ++ [N]) ++ [T]) f35) H locs := by rw [hf35]; exact hW
  have f35_x : f35 x = .inr (10, [.ref P, .ref F, .ref S, .ref X, .ref N, .ref T, .ref N, .int 0]) := by rw [hf35]; exact va_up_self _ _ _
  have f35_P : f35 P = .inr (4, [.int 0, .ref (G.2.2 0), .int 0]) := by rw [hf35, va_up_ne _ _ (ne_x_P.symm)]; exact f34_P
  have f35_F : f35 F = .inr (4, [.int 0, .ref (G.2.2 0), .int 0]) := by rw [hf35, va_up_ne _ _ (ne_x_F.symm)]; exact f34_F
  have f35_S : f35 S = .inr (4, [.int 0, .ref (G.2.2 0), .int 0]) := by rw [hf35, va_up_ne _ _ (ne_x_S.symm)]; exact f34_S
  have f35_X : f35 X = .inr (1, [.ref b, .int 0, .int 0, .int 0]) := by rw [hf35, va_up_ne _ _ (ne_x_X.symm)]; exact f34_X
  have f35_b : f35 b = .inl (G.2.1 0, 16, .inl (fun _ => 0)) := by rw [hf35, va_up_ne _ _ (ne_x_b.symm)]; exact f34_b
  have f35_N : f35 N = .inr (6, [.long 0, .long 0, .long 0, .long 0, .int (-1), .long 0]) := by rw [hf35, va_up_ne _ _ (ne_x_N.symm)]; exact f34_N
  have f35_T : f35 T = .inr (4, [.int 0, .ref (G.2.2 0), .int 0]) := by rw [hf35, va_up_ne _ _ (ne_x_T.symm)]; exact f34_T
  exact gx_vret C hr hW (⟨rfl, P, F, S, X, N, T, b, (((((((L ++ [P]) ++ [F]) ++ [S]) ++ [X]) ++ [b]) ++ [N]) ++ [T]), f35, rfl, ⟨ne_P_F, ne_P_S, ne_P_T, ne_F_S, ne_F_T, ne_S_T⟩, m31_x, f35_x, m31_P, f35_P, m31_F, f35_F, m31_S, f35_S, m31_T, f35_T, m31_X, f35_X, m31_b, f35_b, m31_N, f35_N⟩) (Nat.le_of_ble_eq_true rfl) (Nat.le_of_ble_eq_true rfl) dX5_init_87
