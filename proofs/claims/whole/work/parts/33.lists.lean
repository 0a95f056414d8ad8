/-! LISTS: the contracts over ls_at; clear. -/
theorem gx_upE {f : Nat → va_E} {b : Nat} {x : va_E} (h : f b = x) : va_up f b x = f := by
  funext k
  unfold va_up
  by_cases e : k = b
  · rw [if_pos e, e, h]
  · rw [if_neg e]
set_option maxHeartbeats 4000000 in
set_option maxRecDepth 100000 in
theorem kJx4a65c_clear_da8c80 (l : Launch) (G : gx_T) (L : List Nat) (f : Nat → va_E) (h : Nat) (mc : Int32) (hh : h ∈ L) (fh : f h = .inr (4, [.int mc, .ref (G.2.2 0), .int 0])) : gx_M l G yJx4a65c_clear_da8c8 cJx4a65c_clear_da8c8 4 none ({ frames := 0, cells := 0, slots := 0, locals := 0 } : Room) [.ref h] (va_pl L f) (fun w u => w = none ∧ ∃ f1 : Nat → va_E, u = va_pl L f1 ∧ ls_at G L f1 h none [] ∧ ∀ a, a ≠ h → some a ≠ (none : Option Nat) → f1 a = f a) := by
  refine gx_start (by decide +kernel) (Nat.le_of_ble_eq_true rfl) ?_
  intro p e s m args below meth c A ls C hr hnm hW hl
  have gX := C.x
  have gB := C.b
  have hl : lv_has ls 4 [(0, .ref h)] := hl
  refine lv_aload_n gX gB dJx4a65c_clear_da8c8_0 rfl (lv_at hl 0 rfl) ?_
  refine lv_dup gX gB dJx4a65c_clear_da8c8_1 rfl ?_
  refine gx_get C hW fJx4a65c_63 (gx_pl hh fh) rfl dJx4a65c_clear_da8c8_2 ?_
  refine lv_iconst (v := 1) gX gB dJx4a65c_clear_da8c8_5 (by decide) ?_
  refine lv_iadd gX gB dJx4a65c_clear_da8c8_6 ?_
  refine gx_put C hW clJx4a65c fJx4a65c_63 hh fh (Or.inl rfl) rfl rfl (Nat.le_of_ble_eq_true rfl) dJx4a65c_clear_da8c8_7 (fun H locs hW => ?_)
  obtain ⟨f11, hf11⟩ : ∃ zz, zz = va_up f h (.inr (4, [.int (mc + 1), .ref (G.2.2 0), .int 0])) := ⟨_, rfl⟩
  have hW : gx_W G A s (va_pl L f11) H locs := by rw [hf11]; exact hW
  have f11_h : f11 h = .inr (4, [.int (mc + 1), .ref (G.2.2 0), .int 0]) := by rw [hf11]; exact va_up_self _ _ _
  refine lv_aload_n gX gB dJx4a65c_clear_da8c8_10 rfl (lv_at hl 0 rfl) ?_
  refine gx_get C hW fJx4a65c_9 (gx_pl hh f11_h) rfl dJx4a65c_clear_da8c8_11 ?_
  refine lv_astore_n (lv' := [(1, .ref (G.2.2 0)), (0, .ref h)]) gX gB dJx4a65c_clear_da8c8_14 rfl hl (by decide) rfl (fun ls hl => ?_)
  refine lv_aload_n gX gB dJx4a65c_clear_da8c8_15 rfl (lv_at hl 1 rfl) ?_
  refine gx_get C hW fJx4a65c_48 (gx_pl hh f11_h) rfl dJx4a65c_clear_da8c8_16 ?_
  refine lv_istore_n (lv' := [(2, .int 0), (1, .ref (G.2.2 0)), (0, .ref h)]) gX gB dJx4a65c_clear_da8c8_19 rfl hl (by decide) rfl (fun ls hl => ?_)
  refine lv_aload_n gX gB dJx4a65c_clear_da8c8_20 rfl (lv_at hl 2 rfl) ?_
  refine lv_iconst (v := 0) gX gB dJx4a65c_clear_da8c8_21 (by decide) ?_
  refine lv_dup_x1 gX gB dJx4a65c_clear_da8c8_22 rfl rfl ?_
  refine gx_put C hW clJx4a65c fJx4a65c_48 hh f11_h (Or.inl rfl) rfl rfl (Nat.le_of_ble_eq_true rfl) dJx4a65c_clear_da8c8_23 (fun H locs hW => ?_)
  obtain ⟨f12, hf12⟩ : ∃ zz, zz = va_up f11 h (.inr (4, [.int (mc + 1), .ref (G.2.2 0), .int 0])) := ⟨_, rfl⟩
  have hW : gx_W G A s (va_pl L f12) H locs := by rw [hf12]; exact hW
  have f12_h : f12 h = .inr (4, [.int (mc + 1), .ref (G.2.2 0), .int 0]) := by rw [hf12]; exact va_up_self _ _ _
  refine lv_istore_n (lv' := [(3, .int 0), (2, .int 0), (1, .ref (G.2.2 0)), (0, .ref h)]) gX gB dJx4a65c_clear_da8c8_26 rfl hl (by decide) rfl (fun ls hl => ?_)
  refine lv_iload_n gX gB dJx4a65c_clear_da8c8_27 rfl (lv_at hl 0 rfl) ?_
  refine lv_iload_n gX gB dJx4a65c_clear_da8c8_28 rfl (lv_at hl 1 rfl) ?_
  refine lv_icmp_ge (tgt := 42) gX gB dJx4a65c_clear_da8c8_29 (by decide) (fun _ => ?_) (fun h9 => absurd (show (0 : Int32) ≤ 0 from by decide) h9)
  exact gx_vret C hr hW (⟨rfl, f12, rfl, ⟨hh, mc + 1, rfl, f12_h⟩, fun a h1 _ => by rw [hf12, hf11, va_up_ne _ _ h1, va_up_ne _ _ h1]⟩) (Nat.le_of_ble_eq_true rfl) (Nat.le_of_ble_eq_true rfl) dJx4a65c_clear_da8c8_42
set_option maxHeartbeats 4000000 in
set_option maxRecDepth 100000 in
theorem kJx4a65c_clear_da8c8B (l : Launch) (G : gx_T) (L : List Nat) (f : Nat → va_E) (h b n k : Nat) (mc : Int32) (g : Nat → Option Nat) (hh : h ∈ L) (fh : f h = .inr (4, [.int mc, .ref b, .int (nI k)])) (hb : b ∈ L) (fb : f b = .inl (G.2.1 3, n, .inr (.inr (.inr (.inr g))))) (hk : k ≤ n) (h0 : 0 < n) (hn : n ≤ 24) : gx_M l G yJx4a65c_clear_da8c8 cJx4a65c_clear_da8c8 4 none ({ frames := 0, cells := 0, slots := 0, locals := 0 } : Room) [.ref h] (va_pl L f) (fun w u => w = none ∧ ∃ f1 : Nat → va_E, u = va_pl L f1 ∧ ls_at G L f1 h (some b) [] ∧ ∀ a, a ≠ h → some a ≠ some b → f1 a = f a) := by
  refine gx_start (by decide +kernel) (Nat.le_of_ble_eq_true rfl) ?_
  intro p e s m args below meth c A ls C hr hnm hW hl
  have gX := C.x
  have gB := C.b
  have hl : lv_has ls 4 [(0, .ref h)] := hl
  refine lv_aload_n gX gB dJx4a65c_clear_da8c8_0 rfl (lv_at hl 0 rfl) ?_
  refine lv_dup gX gB dJx4a65c_clear_da8c8_1 rfl ?_
  refine gx_get C hW fJx4a65c_63 (gx_pl hh fh) rfl dJx4a65c_clear_da8c8_2 ?_
  refine lv_iconst (v := 1) gX gB dJx4a65c_clear_da8c8_5 (by decide) ?_
  refine lv_iadd gX gB dJx4a65c_clear_da8c8_6 ?_
  refine gx_put C hW clJx4a65c fJx4a65c_63 hh fh (Or.inl rfl) rfl rfl (Nat.le_of_ble_eq_true rfl) dJx4a65c_clear_da8c8_7 (fun H locs hW => ?_)
  obtain ⟨f13, hf13⟩ : ∃ zz, zz = va_up f h (.inr (4, [.int (mc + 1), .ref b, .int (nI k)])) := ⟨_, rfl⟩
  have hW : gx_W G A s (va_pl L f13) H locs := by rw [hf13]; exact hW
  have f13_h : f13 h = .inr (4, [.int (mc + 1), .ref b, .int (nI k)]) := by rw [hf13]; exact va_up_self _ _ _
  have f13_b : f13 b = .inl (G.2.1 3, n, .inr (.inr (.inr (.inr g)))) := by rw [hf13, va_up_ne _ _ (gx_ne fb fh (by simp))]; exact fb
  refine lv_aload_n gX gB dJx4a65c_clear_da8c8_10 rfl (lv_at hl 0 rfl) ?_
  refine gx_get C hW fJx4a65c_9 (gx_pl hh f13_h) rfl dJx4a65c_clear_da8c8_11 ?_
  refine lv_astore_n (lv' := [(1, .ref b), (0, .ref h)]) gX gB dJx4a65c_clear_da8c8_14 rfl hl (by decide) rfl (fun ls hl => ?_)
  refine lv_aload_n gX gB dJx4a65c_clear_da8c8_15 rfl (lv_at hl 1 rfl) ?_
  refine gx_get C hW fJx4a65c_48 (gx_pl hh f13_h) rfl dJx4a65c_clear_da8c8_16 ?_
  refine lv_istore_n (lv' := [(2, .int (nI k)), (1, .ref b), (0, .ref h)]) gX gB dJx4a65c_clear_da8c8_19 rfl hl (by decide) rfl (fun ls hl => ?_)
  refine lv_aload_n gX gB dJx4a65c_clear_da8c8_20 rfl (lv_at hl 2 rfl) ?_
  refine lv_iconst (v := 0) gX gB dJx4a65c_clear_da8c8_21 (by decide) ?_
  refine lv_dup_x1 gX gB dJx4a65c_clear_da8c8_22 rfl rfl ?_
  refine gx_put C hW clJx4a65c fJx4a65c_48 hh f13_h (Or.inl rfl) rfl rfl (Nat.le_of_ble_eq_true rfl) dJx4a65c_clear_da8c8_23 (fun H locs hW => ?_)
  obtain ⟨f14, hf14⟩ : ∃ zz, zz = va_up f13 h (.inr (4, [.int (mc + 1), .ref b, .int 0])) := ⟨_, rfl⟩
  have hW : gx_W G A s (va_pl L f14) H locs := by rw [hf14]; exact hW
  have f14_h : f14 h = .inr (4, [.int (mc + 1), .ref b, .int 0]) := by rw [hf14]; exact va_up_self _ _ _
  have f14_b : f14 b = .inl (G.2.1 3, n, .inr (.inr (.inr (.inr g)))) := by rw [hf14, va_up_ne _ _ (gx_ne f13_b f13_h (by simp))]; exact f13_b
  refine lv_istore_n (lv' := [(3, .int 0), (2, .int (nI k)), (1, .ref b), (0, .ref h)]) gX gB dJx4a65c_clear_da8c8_26 rfl hl (by decide) rfl (fun ls hl => ?_)
  have hbh : h ≠ b := gx_ne fh fb (by simp)
  have hW : gx_W G A s (va_pl L (va_up f14 b (.inl (G.2.1 3, n, .inr (.inr (.inr (.inr g))))))) H locs := by rw [gx_upE f14_b]; exact hW
  have hl : lv_has ls 4 [(3, .int (nI 0)), (2, .int (nI k)), (1, .ref b), (0, .ref h)] := hl
  have loop : ∀ (r : Nat) (i : Nat) (g1 : Nat → Option Nat), (k - i < r) → (i ≤ k) → ∀ (H : Heap) (locs : List Loc), gx_W G A s (va_pl L (va_up f14 b (.inl (G.2.1 3, n, .inr (.inr (.inr (.inr g1))))))) H locs → ∀ ls : Array Slot, lv_has ls 4 [(3, .int (nI i)), (2, .int (nI k)), (1, .ref b), (0, .ref h)] → W p l e ({ frames := 0, cells := 0, slots := 0, locals := 0 } : Room) s m args below meth c H locs 0 0 (MQ below (gx_Q G A (fun w u => w = none ∧ ∃ f1 : Nat → va_E, u = va_pl L f1 ∧ ls_at G L f1 h (some b) [] ∧ ∀ a, a ≠ h → some a ≠ some b → f1 a = f a)) args s (({ frames := 0, cells := 0, slots := 0, locals := 0 } : Room)).cells (({ frames := 0, cells := 0, slots := 0, locals := 0 } : Room)).slots A) (F0 m 27 ls []) := by
    intro r
    induction r with
    | zero => intro i g1 hfu hi H locs hW ls hl; exact absurd hfu (Nat.not_lt_zero _)
    | succ r ih =>
      intro i g1 hfu hi H locs hW ls hl
      rcases Nat.lt_or_ge i k with hik | hik
      · refine lv_iload_n gX gB dJx4a65c_clear_da8c8_27 rfl (lv_at hl 0 rfl) ?_
        refine lv_iload_n gX gB dJx4a65c_clear_da8c8_28 rfl (lv_at hl 1 rfl) ?_
        refine lv_icmp_ge (tgt := 42) gX gB dJx4a65c_clear_da8c8_29 (by decide) (fun h9 => absurd (show (nI k) ≤ (nI i) from h9) (nI_ge hik (by omega))) (fun _ => ?_)
        refine lv_aload_n gX gB dJx4a65c_clear_da8c8_32 rfl (lv_at hl 2 rfl) ?_
        refine lv_iload_n gX gB dJx4a65c_clear_da8c8_33 rfl (lv_at hl 0 rfl) ?_
        refine lv_null gX gB dJx4a65c_clear_da8c8_34 ?_
        refine gx_aastN C hW hb (va_up_self _ _ _) rfl (by omega) (by omega) dJx4a65c_clear_da8c8_35 (fun H locs hW => ?_)
        rw [bx_uu] at hW
        refine lv_iinc (v := nI (i + 1)) (lv' := [(3, .int (nI (i + 1))), (2, .int (nI k)), (1, .ref b), (0, .ref h)]) gX gB dJx4a65c_clear_da8c8_36 hl (k := 0) rfl (by exact nI_1 i) (by decide) rfl (fun ls hl => ?_)
        refine lv_goto (tgt := 27) gX gB dJx4a65c_clear_da8c8_39 (by decide) ?_
        exact ih (i + 1) _ (by omega) (by omega) H locs hW ls (lv_sub hl [0, 1, 2, 3] rfl)
      · refine lv_iload_n gX gB dJx4a65c_clear_da8c8_27 rfl (lv_at hl 0 rfl) ?_
        refine lv_iload_n gX gB dJx4a65c_clear_da8c8_28 rfl (lv_at hl 1 rfl) ?_
        refine lv_icmp_ge (tgt := 42) gX gB dJx4a65c_clear_da8c8_29 (by decide) (fun _ => ?_) (fun h9 => absurd (show (nI k) ≤ (nI i) from nI_le hik (by omega)) h9)
        exact gx_vret C hr hW (⟨rfl, _, rfl, ⟨hh, mc + 1, hb, (va_up_ne _ _ hbh).trans f14_h, n, g1, va_up_self _ _ _, Nat.zero_le _, h0, hn, fun i hi => absurd hi (Nat.not_lt_zero _)⟩, fun a h1 h2 => by rw [va_up_ne _ _ (fun zz => h2 (by rw [zz])), hf14, hf13, va_up_ne _ _ h1, va_up_ne _ _ h1]⟩) (Nat.le_of_ble_eq_true rfl) (Nat.le_of_ble_eq_true rfl) dJx4a65c_clear_da8c8_42
  exact loop (k + 1) 0 g (by omega) (Nat.zero_le _) H locs hW ls (lv_sub hl [0, 1, 2, 3] rfl)
theorem ls_at.lt {G : gx_T} {L : List Nat} {f : Nat → va_E} {q : Nat} {b : Option Nat} {xs : List Nat} (h : ls_at G L f q b xs) : xs.length ≤ 24 := by
  obtain ⟨-, mc, h2⟩ := h
  cases b with
  | none => rw [h2.1]; decide
  | some b =>
    obtain ⟨-, -, n, g, -, h5, -, h6, -⟩ := h2
    omega
theorem kL_size (l : Launch) (G : gx_T) (L : List Nat) (f : Nat → va_E) (h : Nat) (b : Option Nat) (xs : List Nat) (hls : ls_at G L f h b xs) : gx_M l G yJx4a65c_size_8abf5 cJx4a65c_size_8abf5 1 (some .int) ({ frames := 0, cells := 0, slots := 0, locals := 0 } : Room) [.ref h] (va_pl L f) (fun v u => v = some (.int (nI xs.length)) ∧ u = va_pl L f) := by
  obtain ⟨mc, r, hf⟩ := hls.head
  exact kJx4a65c_size_8abf5 l G L f h r mc _ hls.1 hf
theorem kL_empty (l : Launch) (G : gx_T) (L : List Nat) (f : Nat → va_E) (h : Nat) (b : Option Nat) (xs : List Nat) (hls : ls_at G L f h b xs) : gx_M l G yJx4a65c_isEmpty_aae02 cJx4a65c_isEmpty_aae02 1 (some .boolean) ({ frames := 0, cells := 0, slots := 0, locals := 0 } : Room) [.ref h] (va_pl L f) (fun v u => v = some (.int (if xs.length = 0 then 1 else 0)) ∧ u = va_pl L f) := by
  obtain ⟨mc, r, hf⟩ := hls.head
  have e : gx_b (nI xs.length = 0) = if xs.length = 0 then 1 else 0 := by
    unfold gx_b
    have := hls.lt
    have h9 : nI xs.length = 0 ↔ xs.length = 0 := nI_eq (b := 0) (by omega) (by decide)
    by_cases h0 : xs.length = 0
    · rw [if_pos h0, if_pos (h9.mpr h0)]
    · rw [if_neg h0, if_neg (fun z => h0 (h9.mp z))]
  have k := kJx4a65c_isEmpty_aae02 l G L f h r mc _ hls.1 hf
  rw [e] at k
  exact k
theorem kL_get (l : Launch) (G : gx_T) (L : List Nat) (f : Nat → va_E) (h : Nat) (b : Option Nat) (xs : List Nat) (hls : ls_at G L f h b xs) (j : Nat) (hj : j < xs.length) : gx_M l G yJx4a65c_get_915e3 cJx4a65c_get_915e3 2 (some (.object "java/lang/Object")) ({ frames := 2, cells := 0, slots := 0, locals := 43 } : Room) [.ref h, .int (nI j)] (va_pl L f) (fun v u => v = some (.ref xs[j]) ∧ u = va_pl L f) := by
  obtain ⟨hq, mc, h2⟩ := hls
  cases b with
  | none =>
    rw [h2.1] at hj
    exact absurd hj (Nat.not_lt_zero _)
  | some b =>
    obtain ⟨hb, hf, n, g, hg, h5, -, h6, h7⟩ := h2
    exact kJx4a65c_get_915e3 l G L f h b n xs.length j xs[j] mc g hq hf hb hg hj h5 (by omega) (h7 j hj)
theorem kL_clear (l : Launch) (G : gx_T) (L : List Nat) (f : Nat → va_E) (h : Nat) (b : Option Nat) (xs : List Nat) (hls : ls_at G L f h b xs) : gx_M l G yJx4a65c_clear_da8c8 cJx4a65c_clear_da8c8 4 none ({ frames := 0, cells := 0, slots := 0, locals := 0 } : Room) [.ref h] (va_pl L f) (fun w u => w = none ∧ ∃ f1 : Nat → va_E, u = va_pl L f1 ∧ ls_at G L f1 h b [] ∧ ∀ a, a ≠ h → some a ≠ b → f1 a = f a) := by
  obtain ⟨hq, mc, h2⟩ := hls
  cases b with
  | none => exact kJx4a65c_clear_da8c80 l G L f h mc hq h2.2
  | some b =>
    obtain ⟨hb, hf, n, g, hg, h5, h4, h6, h7⟩ := h2
    exact kJx4a65c_clear_da8c8B l G L f h b n xs.length mc g hq hf hb hg h5 h4 h6
theorem kL_add (l : Launch) (G : gx_T) (L : List Nat) (f : Nat → va_E) (h : Nat) (b : Option Nat) (xs : List Nat) (hls : ls_at G L f h b xs) (v : Nat) (hv : gx_el L f v) (hvh : v ≠ h) (hel : ∀ x ∈ xs, gx_el L f x ∧ x ≠ h) (hxl : xs.length ≤ 16) : gx_M l G yJx4a65c_add_9ea2d cJx4a65c_add_9ea2d 2 (some .boolean) ({ frames := 6, cells := 1, slots := 24, locals := 186 } : Room) [.ref h, .ref v] (va_pl L f) (fun w u => w = some (.int 1) ∧ ls_added G L f h b xs v u) := by
  obtain ⟨hvL, ci, N, vs, K, T, fv, hc, hw⟩ := hv
  obtain ⟨hq, mc, h2⟩ := hls
  cases b with
  | none =>
    obtain ⟨rfl, hf⟩ := h2
    exact kJx4a65c_add_9ea2d0 l G L f h mc hq hf v ci N vs K T hvL fv hc hw hvh
  | some b =>
    obtain ⟨hb, hf, n, g, hg, h5, h4, h6, h7⟩ := h2
    rcases Nat.lt_or_ge xs.length n with h9 | h9
    · exact kJx4a65c_add_9ea2dN l G L f h b n mc g xs hq hf hb hg h9 h6 h7 v ci N vs K T hvL fv hc hw hvh
    · have e : xs.length = n := by omega
      refine kJx4a65c_add_9ea2dF l G L f h b n mc g xs hq (by rw [← e]; exact hf) hb hg h4 (by omega) e (fun i hi => h7 i (by omega)) (fun x hx => (hel x hx).2) (fun j hj y hy => ?_) v ci N vs K T hvL fv hc hw hvh
      rw [h7 j (by omega)] at hy
      cases hy
      exact (hel _ (List.getElem_mem _)).1
