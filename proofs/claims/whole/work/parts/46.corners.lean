/-! STANDTESTS: firstCorner, cornerAfter. -/
def ft_bef (p q : ft_T) (i j : Nat) : Prop := if p.1 = q.1 then (if p.2 = q.2 then i < j else p.2 < q.2) else p.1 < q.1
theorem bef_0 {p q : ft_T} {i j : Nat} (hi : i < 2 ^ 31) (hj : j < 2 ^ 31) : (if p.1 = q.1 then (if p.2 = q.2 then gx_b (nI i < nI j) else gx_b (p.2 < q.2)) else gx_b (p.1 < q.1)) = 0 ↔ ¬ ft_bef p q i j := by
  unfold ft_bef
  by_cases h1 : p.1 = q.1
  · rw [if_pos h1, if_pos h1]
    by_cases h2 : p.2 = q.2
    · rw [if_pos h2, if_pos h2, gx_b0, nI_ltI hi hj]
    · rw [if_neg h2, if_neg h2, gx_b0]
  · rw [if_neg h1, if_neg h1, gx_b0]
/-- the first foot by place, b0 looked at before the first n -/
noncomputable def fc_at (fd : Nat → ft_T) (b0 : Nat) : Nat → Nat
  | 0 => b0
  | n + 1 => @ite _ (ft_bef (fd n) (fd (fc_at fd b0 n)) n (fc_at fd b0 n)) (Classical.propDecidable _) n (fc_at fd b0 n)
theorem fc_new {fd : Nat → ft_T} {b0 n k : Nat} (h : fc_at fd b0 n = k) (hb : ft_bef (fd n) (fd k) n k) : fc_at fd b0 (n + 1) = n := by
  show @ite _ (ft_bef (fd n) (fd (fc_at fd b0 n)) n (fc_at fd b0 n)) (Classical.propDecidable _) n (fc_at fd b0 n) = n
  rw [h, if_pos hb]
theorem fc_old {fd : Nat → ft_T} {b0 n k : Nat} (h : fc_at fd b0 n = k) (hb : ¬ ft_bef (fd n) (fd k) n k) : fc_at fd b0 (n + 1) = k := by
  show @ite _ (ft_bef (fd n) (fd (fc_at fd b0 n)) n (fc_at fd b0 n)) (Classical.propDecidable _) n (fc_at fd b0 n) = k
  rw [h, if_neg hb]
abbrev ft_see (h a b : ft_T) : Prop := ft_more h.1 h.2 a.1 a.2 b.1 b.2
/-- the next corner after c among the first n -/
noncomputable def ca_at (fd : Nat → ft_T) (c : Nat) : Nat → Nat
  | 0 => c
  | n + 1 => @ite _ (ft_see (fd c) (fd (ca_at fd c n)) (fd n)) (Classical.propDecidable _) n (ca_at fd c n)
theorem ca_new {fd : Nat → ft_T} {c n k : Nat} (h : ca_at fd c n = k) (hb : ft_see (fd c) (fd k) (fd n)) : ca_at fd c (n + 1) = n := by
  show @ite _ (ft_see (fd c) (fd (ca_at fd c n)) (fd n)) (Classical.propDecidable _) n (ca_at fd c n) = n
  rw [h, if_pos hb]
theorem ca_old {fd : Nat → ft_T} {c n k : Nat} (h : ca_at fd c n = k) (hb : ¬ ft_see (fd c) (fd k) (fd n)) : ca_at fd c (n + 1) = k := by
  show @ite _ (ft_see (fd c) (fd (ca_at fd c n)) (fd n)) (Classical.propDecidable _) n (ca_at fd c n) = k
  rw [h, if_neg hb]
set_option maxHeartbeats 4000000 in
set_option maxRecDepth 100000 in
theorem kX5_firstCorner (l : Launch) (G : gx_T) (L : List Nat) (f : Nat → va_E) (x P F S X N T E : Nat) (dc : Int32) (hx : x ∈ L) (fx : f x = .inr (10, [.ref P, .ref F, .ref S, .ref X, .ref N, .ref T, .ref E, .int dc])) (bF : Option Nat) (fa : List Nat) (fd : Nat → ft_T) (hlF : ls_at G L f F bF fa) (hfd : ∀ i (h : i < fa.length), ft_is L f fa[i] (nI i) (fd i)) (b0 : Nat) (hb0 : b0 < fa.length) : gx_M l G yX5_firstCorner cX5_firstCorner 5 (some (.object "StandTests$Foot")) ({ frames := 3, cells := 0, slots := 0, locals := 64 } : Room) [.ref x, .ref (fa[b0])] (va_pl L f) (fun v u => (∃ (k : Nat) (hk : k < fa.length), k = fc_at fd b0 fa.length ∧ v = some (.ref fa[k])) ∧ u = va_pl L f) := by
  refine gx_start (by decide +kernel) (Nat.le_of_ble_eq_true rfl) ?_
  intro p e s m args below meth c A ls C hr hnm hW hl
  have gX := C.x
  have gB := C.b
  have hl : lv_has ls 5 [(0, .ref x), (1, .ref (fa[b0]))] := hl
  refine lv_aload_n gX gB dX5_firstCorner_0 rfl (lv_at hl 1 rfl) ?_
  refine lv_astore_n (lv' := [(2, .ref (fa[b0])), (0, .ref x), (1, .ref (fa[b0]))]) gX gB dX5_firstCorner_1 rfl hl (by decide) rfl (fun ls hl => ?_)
  refine lv_iconst (v := 0) gX gB dX5_firstCorner_2 (by decide) ?_
  refine lv_istore_n (lv' := [(3, .int 0), (2, .ref (fa[b0])), (0, .ref x), (1, .ref (fa[b0]))]) gX gB dX5_firstCorner_3 rfl hl (by decide) rfl (fun ls hl => ?_)
  have hl : lv_has ls 5 [(3, .int (nI 0)), (2, .ref (fa[b0])), (0, .ref x), (1, .ref (fa[b0]))] := hl
  have loop : ∀ (r : Nat) (i k : Nat) (hk : k < fa.length), (fa.length - i < r) → (i ≤ fa.length) → (fc_at fd b0 i = k) → ∀ (H : Heap) (locs : List Loc), gx_W G A s (va_pl L f) H locs → ∀ ls : Array Slot, lv_has ls 5 [(3, .int (nI i)), (2, .ref (fa[k])), (0, .ref x), (1, .ref (fa[b0]))] → W p l e ({ frames := 3, cells := 0, slots := 0, locals := 64 } : Room) s m args below meth c H locs 0 0 (MQ below (gx_Q G A (fun v u => (∃ (k : Nat) (hk : k < fa.length), k = fc_at fd b0 fa.length ∧ v = some (.ref fa[k])) ∧ u = va_pl L f)) args s (({ frames := 3, cells := 0, slots := 0, locals := 64 } : Room)).cells (({ frames := 3, cells := 0, slots := 0, locals := 64 } : Room)).slots A) (F0 m 4 ls []) := by
    intro r
    induction r with
    | zero => intro i k hk hfu hi hkq H locs hW ls hl; exact absurd hfu (Nat.not_lt_zero _)
    | succ r ih =>
      intro i k hk hfu hi hkq H locs hW ls hl
      rcases Nat.lt_or_ge i fa.length with hik | hik
      · refine lv_iload_n gX gB dX5_firstCorner_4 rfl (lv_at hl 0 rfl) ?_
        refine lv_aload_n gX gB dX5_firstCorner_5 rfl (lv_at hl 2 rfl) ?_
        refine gx_get C hW fX5_16 (gx_pl hx fx) rfl dX5_firstCorner_6 ?_
        refine gx_callV (wr := []) (rest := [.int (nI i)]) C hW sX5_48 (kL_size l G L f F bF fa hlF) (gx_pl hlF.1 (ls_at.head hlF).choose_spec.choose_spec) rfl rfl ⟨(Nat.le_of_ble_eq_true rfl), (Nat.le_of_ble_eq_true rfl)⟩ hl.1 rfl (Nat.le_of_ble_eq_true rfl) dX5_firstCorner_9 ⟨(Nat.le_of_ble_eq_true rfl), (Nat.le_of_ble_eq_true rfl)⟩ (fun v9 u9 H locs hp hW => ?_)
        obtain ⟨rfl, hu⟩ := hp
        rw [hu] at hW
        have hW : gx_W G A s (va_pl L f) H locs := hW
        refine W.eq (g2 := F0 m 12 ls [.int (nI fa.length), .int (nI i)]) rfl ?_
        refine W.widen (k := 0) (n := 0) (Nat.le_of_ble_eq_true rfl) (Nat.le_of_ble_eq_true rfl) ?_
        refine lv_icmp_ge (tgt := 46) gX gB dX5_firstCorner_12 (by decide) (fun h9 => absurd (show (nI fa.length) ≤ (nI i) from h9) (nI_ge hik (by have := hlF.lt; omega))) (fun _ => ?_)
        refine lv_aload_n gX gB dX5_firstCorner_15 rfl (lv_at hl 2 rfl) ?_
        refine gx_get C hW fX5_16 (gx_pl hx fx) rfl dX5_firstCorner_16 ?_
        refine lv_iload_n gX gB dX5_firstCorner_19 rfl (lv_at hl 0 rfl) ?_
        refine gx_callV (wr := []) (rest := []) C hW sX5_95 (kL_get l G L f F bF fa hlF i hik) (gx_pl hlF.1 (ls_at.head hlF).choose_spec.choose_spec) rfl rfl ⟨(Nat.le_of_ble_eq_true rfl), (Nat.le_of_ble_eq_true rfl)⟩ hl.1 rfl (Nat.le_of_ble_eq_true rfl) dX5_firstCorner_20 ⟨(Nat.le_of_ble_eq_true rfl), (Nat.le_of_ble_eq_true rfl)⟩ (fun v9 u9 H locs hp hW => ?_)
        obtain ⟨rfl, hu⟩ := hp
        rw [hu] at hW
        have hW : gx_W G A s (va_pl L f) H locs := hW
        refine W.eq (g2 := F0 m 23 ls [.ref (fa[i])]) rfl ?_
        refine W.widen (k := 0) (n := 0) (Nat.le_of_ble_eq_true rfl) (Nat.le_of_ble_eq_true rfl) ?_
        refine gx_cast C hW (gx_pl ((hfd i hik).1) ((hfd i hik).2)) rfl (tq_3 231 (by decide +kernel) rfl) dX5_firstCorner_23 ?_
        refine lv_astore (lv' := [(4, .ref (fa[i])), (3, .int (nI i)), (2, .ref (fa[k])), (0, .ref x), (1, .ref (fa[b0]))]) gX gB dX5_firstCorner_26 hl (by decide) rfl (fun ls hl => ?_)
        refine lv_aload gX gB dX5_firstCorner_28 (lv_at hl 0 rfl) ?_
        refine lv_aload_n gX gB dX5_firstCorner_30 rfl (lv_at hl 2 rfl) ?_
        refine gx_callVN (wr := []) (rest := []) C hW sX5_277n (kX0_isBefore l G L f fa[i] fa[k] (nI i) (nI k) (fd i).1 (fd i).2 (fd k).1 (fd k).2 (hfd i hik).1 (hfd i hik).2 (hfd k hk).1 (hfd k hk).2) (gx_pl ((hfd i hik).1) ((hfd i hik).2)) rfl rfl ⟨(Nat.le_of_ble_eq_true rfl), (Nat.le_of_ble_eq_true rfl)⟩ hl.1 rfl (Nat.le_of_ble_eq_true rfl) dX5_firstCorner_31 ⟨(Nat.le_of_ble_eq_true rfl), (Nat.le_of_ble_eq_true rfl)⟩ (fun v9 u9 H locs hp hW => ?_)
        obtain ⟨rfl, hu⟩ := hp
        rw [hu] at hW
        have hW : gx_W G A s (va_pl L f) H locs := hW
        refine W.eq (g2 := F0 m 34 ls [.int (if (fd i).1 = (fd k).1 then (if (fd i).2 = (fd k).2 then gx_b (nI i < nI k) else gx_b ((fd i).2 < (fd k).2)) else gx_b ((fd i).1 < (fd k).1))]) rfl ?_
        refine W.widen (k := 0) (n := 0) (Nat.le_of_ble_eq_true rfl) (Nat.le_of_ble_eq_true rfl) ?_
        refine lv_if_eq (tgt := 40) gX gB dX5_firstCorner_34 (by decide) (fun c34 => ?_) (fun c34 => ?_)
        · refine lv_iinc (v := nI (i + 1)) (lv' := [(3, .int (nI (i + 1))), (4, .ref (fa[i])), (2, .ref (fa[k])), (0, .ref x), (1, .ref (fa[b0]))]) gX gB dX5_firstCorner_40 hl (k := 1) rfl (by exact nI_1 i) (by decide) rfl (fun ls hl => ?_)
          refine lv_goto (tgt := 4) gX gB dX5_firstCorner_43 (by decide) ?_
          exact ih (i + 1) k hk (by omega) (by omega) (fc_old hkq ((bef_0 (by have := hlF.lt; omega) (by have := hlF.lt; omega)).mp c34)) _ _ hW ls (lv_sub hl [0, 2, 3, 4] rfl)
        · refine lv_aload gX gB dX5_firstCorner_37 (lv_at hl 0 rfl) ?_
          refine lv_astore_n (lv' := [(2, .ref (fa[i])), (4, .ref (fa[i])), (3, .int (nI i)), (0, .ref x), (1, .ref (fa[b0]))]) gX gB dX5_firstCorner_39 rfl hl (by decide) rfl (fun ls hl => ?_)
          refine lv_iinc (v := nI (i + 1)) (lv' := [(3, .int (nI (i + 1))), (2, .ref (fa[i])), (4, .ref (fa[i])), (0, .ref x), (1, .ref (fa[b0]))]) gX gB dX5_firstCorner_40 hl (k := 2) rfl (by exact nI_1 i) (by decide) rfl (fun ls hl => ?_)
          refine lv_goto (tgt := 4) gX gB dX5_firstCorner_43 (by decide) ?_
          exact ih (i + 1) i hik (by omega) (by omega) (fc_new hkq (Classical.byContradiction fun zz => c34 ((bef_0 (by have := hlF.lt; omega) (by have := hlF.lt; omega)).mpr zz))) _ _ hW ls (lv_sub hl [0, 1, 3, 4] rfl)
      · refine lv_iload_n gX gB dX5_firstCorner_4 rfl (lv_at hl 0 rfl) ?_
        refine lv_aload_n gX gB dX5_firstCorner_5 rfl (lv_at hl 2 rfl) ?_
        refine gx_get C hW fX5_16 (gx_pl hx fx) rfl dX5_firstCorner_6 ?_
        refine gx_callV (wr := []) (rest := [.int (nI i)]) C hW sX5_48 (kL_size l G L f F bF fa hlF) (gx_pl hlF.1 (ls_at.head hlF).choose_spec.choose_spec) rfl rfl ⟨(Nat.le_of_ble_eq_true rfl), (Nat.le_of_ble_eq_true rfl)⟩ hl.1 rfl (Nat.le_of_ble_eq_true rfl) dX5_firstCorner_9 ⟨(Nat.le_of_ble_eq_true rfl), (Nat.le_of_ble_eq_true rfl)⟩ (fun v9 u9 H locs hp hW => ?_)
        obtain ⟨rfl, hu⟩ := hp
        rw [hu] at hW
        have hW : gx_W G A s (va_pl L f) H locs := hW
        refine W.eq (g2 := F0 m 12 ls [.int (nI fa.length), .int (nI i)]) rfl ?_
        refine W.widen (k := 0) (n := 0) (Nat.le_of_ble_eq_true rfl) (Nat.le_of_ble_eq_true rfl) ?_
        refine lv_icmp_ge (tgt := 46) gX gB dX5_firstCorner_12 (by decide) (fun _ => ?_) (fun h9 => absurd (show (nI fa.length) ≤ (nI i) from nI_le hik (by have := hlF.lt; omega)) h9)
        refine lv_aload_n gX gB dX5_firstCorner_46 rfl (lv_at hl 1 rfl) ?_
        exact gx_aret C hr (Or.inl ⟨_, rfl⟩) hW (⟨⟨k, hk, by rw [show fa.length = i by omega]; exact hkq.symm, rfl⟩, rfl⟩) (Nat.le_of_ble_eq_true rfl) (Nat.le_of_ble_eq_true rfl) dX5_firstCorner_47
  exact loop (fa.length + 1) 0 b0 hb0 (by omega) (Nat.zero_le _) rfl _ _ hW ls (lv_sub hl [0, 1, 2, 3] rfl)
set_option maxHeartbeats 4000000 in
set_option maxRecDepth 100000 in
theorem kX5_cornerAfter (l : Launch) (G : gx_T) (L : List Nat) (f : Nat → va_E) (x P F S X N T E : Nat) (dc : Int32) (hx : x ∈ L) (fx : f x = .inr (10, [.ref P, .ref F, .ref S, .ref X, .ref N, .ref T, .ref E, .int dc])) (bF : Option Nat) (fa : List Nat) (fd : Nat → ft_T) (hlF : ls_at G L f F bF fa) (hfd : ∀ i (h : i < fa.length), ft_is L f fa[i] (nI i) (fd i)) (c0 : Nat) (hc0 : c0 < fa.length) : gx_M l G yX5_cornerAfter cX5_cornerAfter 5 (some (.object "StandTests$Foot")) ({ frames := 3, cells := 0, slots := 0, locals := 64 } : Room) [.ref x, .ref (fa[c0])] (va_pl L f) (fun v u => (∃ (k : Nat) (hk : k < fa.length), k = ca_at fd c0 fa.length ∧ v = some (.ref fa[k])) ∧ u = va_pl L f) := by
  refine gx_start (by decide +kernel) (Nat.le_of_ble_eq_true rfl) ?_
  intro p e s m args below meth c A ls C hr hnm hW hl
  have gX := C.x
  have gB := C.b
  have hl : lv_has ls 5 [(0, .ref x), (1, .ref (fa[c0]))] := hl
  refine lv_aload_n gX gB dX5_cornerAfter_0 rfl (lv_at hl 1 rfl) ?_
  refine lv_astore_n (lv' := [(2, .ref (fa[c0])), (0, .ref x), (1, .ref (fa[c0]))]) gX gB dX5_cornerAfter_1 rfl hl (by decide) rfl (fun ls hl => ?_)
  refine lv_iconst (v := 0) gX gB dX5_cornerAfter_2 (by decide) ?_
  refine lv_istore_n (lv' := [(3, .int 0), (2, .ref (fa[c0])), (0, .ref x), (1, .ref (fa[c0]))]) gX gB dX5_cornerAfter_3 rfl hl (by decide) rfl (fun ls hl => ?_)
  have hl : lv_has ls 5 [(3, .int (nI 0)), (2, .ref (fa[c0])), (0, .ref x), (1, .ref (fa[c0]))] := hl
  have loop : ∀ (r : Nat) (i k : Nat) (hk : k < fa.length), (fa.length - i < r) → (i ≤ fa.length) → (ca_at fd c0 i = k) → ∀ (H : Heap) (locs : List Loc), gx_W G A s (va_pl L f) H locs → ∀ ls : Array Slot, lv_has ls 5 [(3, .int (nI i)), (2, .ref (fa[k])), (0, .ref x), (1, .ref (fa[c0]))] → W p l e ({ frames := 3, cells := 0, slots := 0, locals := 64 } : Room) s m args below meth c H locs 0 0 (MQ below (gx_Q G A (fun v u => (∃ (k : Nat) (hk : k < fa.length), k = ca_at fd c0 fa.length ∧ v = some (.ref fa[k])) ∧ u = va_pl L f)) args s (({ frames := 3, cells := 0, slots := 0, locals := 64 } : Room)).cells (({ frames := 3, cells := 0, slots := 0, locals := 64 } : Room)).slots A) (F0 m 4 ls []) := by
    intro r
    induction r with
    | zero => intro i k hk hfu hi hkq H locs hW ls hl; exact absurd hfu (Nat.not_lt_zero _)
    | succ r ih =>
      intro i k hk hfu hi hkq H locs hW ls hl
      rcases Nat.lt_or_ge i fa.length with hik | hik
      · refine lv_iload_n gX gB dX5_cornerAfter_4 rfl (lv_at hl 0 rfl) ?_
        refine lv_aload_n gX gB dX5_cornerAfter_5 rfl (lv_at hl 2 rfl) ?_
        refine gx_get C hW fX5_16 (gx_pl hx fx) rfl dX5_cornerAfter_6 ?_
        refine gx_callV (wr := []) (rest := [.int (nI i)]) C hW sX5_48 (kL_size l G L f F bF fa hlF) (gx_pl hlF.1 (ls_at.head hlF).choose_spec.choose_spec) rfl rfl ⟨(Nat.le_of_ble_eq_true rfl), (Nat.le_of_ble_eq_true rfl)⟩ hl.1 rfl (Nat.le_of_ble_eq_true rfl) dX5_cornerAfter_9 ⟨(Nat.le_of_ble_eq_true rfl), (Nat.le_of_ble_eq_true rfl)⟩ (fun v9 u9 H locs hp hW => ?_)
        obtain ⟨rfl, hu⟩ := hp
        rw [hu] at hW
        have hW : gx_W G A s (va_pl L f) H locs := hW
        refine W.eq (g2 := F0 m 12 ls [.int (nI fa.length), .int (nI i)]) rfl ?_
        refine W.widen (k := 0) (n := 0) (Nat.le_of_ble_eq_true rfl) (Nat.le_of_ble_eq_true rfl) ?_
        refine lv_icmp_ge (tgt := 47) gX gB dX5_cornerAfter_12 (by decide) (fun h9 => absurd (show (nI fa.length) ≤ (nI i) from h9) (nI_ge hik (by have := hlF.lt; omega))) (fun _ => ?_)
        refine lv_aload_n gX gB dX5_cornerAfter_15 rfl (lv_at hl 2 rfl) ?_
        refine gx_get C hW fX5_16 (gx_pl hx fx) rfl dX5_cornerAfter_16 ?_
        refine lv_iload_n gX gB dX5_cornerAfter_19 rfl (lv_at hl 0 rfl) ?_
        refine gx_callV (wr := []) (rest := []) C hW sX5_95 (kL_get l G L f F bF fa hlF i hik) (gx_pl hlF.1 (ls_at.head hlF).choose_spec.choose_spec) rfl rfl ⟨(Nat.le_of_ble_eq_true rfl), (Nat.le_of_ble_eq_true rfl)⟩ hl.1 rfl (Nat.le_of_ble_eq_true rfl) dX5_cornerAfter_20 ⟨(Nat.le_of_ble_eq_true rfl), (Nat.le_of_ble_eq_true rfl)⟩ (fun v9 u9 H locs hp hW => ?_)
        obtain ⟨rfl, hu⟩ := hp
        rw [hu] at hW
        have hW : gx_W G A s (va_pl L f) H locs := hW
        refine W.eq (g2 := F0 m 23 ls [.ref (fa[i])]) rfl ?_
        refine W.widen (k := 0) (n := 0) (Nat.le_of_ble_eq_true rfl) (Nat.le_of_ble_eq_true rfl) ?_
        refine gx_cast C hW (gx_pl ((hfd i hik).1) ((hfd i hik).2)) rfl (tq_3 231 (by decide +kernel) rfl) dX5_cornerAfter_23 ?_
        refine lv_astore (lv' := [(4, .ref (fa[i])), (3, .int (nI i)), (2, .ref (fa[k])), (0, .ref x), (1, .ref (fa[c0]))]) gX gB dX5_cornerAfter_26 hl (by decide) rfl (fun ls hl => ?_)
        refine lv_aload_n gX gB dX5_cornerAfter_28 rfl (lv_at hl 4 rfl) ?_
        refine lv_aload_n gX gB dX5_cornerAfter_29 rfl (lv_at hl 2 rfl) ?_
        refine lv_aload gX gB dX5_cornerAfter_30 (lv_at hl 0 rfl) ?_
        refine gx_callVN (wr := []) (rest := []) C hW sX5_284n (kX0_seesMoreRightOf l G L f fa[c0] fa[k] fa[i] (nI c0) (nI k) (nI i) (fd c0).1 (fd c0).2 (fd k).1 (fd k).2 (fd i).1 (fd i).2 (hfd c0 hc0).1 (hfd c0 hc0).2 (hfd k hk).1 (hfd k hk).2 (hfd i hik).1 (hfd i hik).2) (gx_pl ((hfd c0 hc0).1) ((hfd c0 hc0).2)) rfl rfl ⟨(Nat.le_of_ble_eq_true rfl), (Nat.le_of_ble_eq_true rfl)⟩ hl.1 rfl (Nat.le_of_ble_eq_true rfl) dX5_cornerAfter_32 ⟨(Nat.le_of_ble_eq_true rfl), (Nat.le_of_ble_eq_true rfl)⟩ (fun v9 u9 H locs hp hW => ?_)
        obtain ⟨rfl, hu⟩ := hp
        rw [hu] at hW
        have hW : gx_W G A s (va_pl L f) H locs := hW
        refine W.eq (g2 := F0 m 35 ls [.int (@gx_b (ft_see (fd c0) (fd k) (fd i)) (Classical.propDecidable _))]) rfl ?_
        refine W.widen (k := 0) (n := 0) (Nat.le_of_ble_eq_true rfl) (Nat.le_of_ble_eq_true rfl) ?_
        refine lv_if_eq (tgt := 41) gX gB dX5_cornerAfter_35 (by decide) (fun c35 => ?_) (fun c35 => ?_)
        · refine lv_iinc (v := nI (i + 1)) (lv' := [(3, .int (nI (i + 1))), (4, .ref (fa[i])), (2, .ref (fa[k])), (0, .ref x), (1, .ref (fa[c0]))]) gX gB dX5_cornerAfter_41 hl (k := 1) rfl (by exact nI_1 i) (by decide) rfl (fun ls hl => ?_)
          refine lv_goto (tgt := 4) gX gB dX5_cornerAfter_44 (by decide) ?_
          exact ih (i + 1) k hk (by omega) (by omega) (ca_old hkq ((@gx_b0 _ (Classical.propDecidable _)).mp c35)) _ _ hW ls (lv_sub hl [0, 2, 3, 4] rfl)
        · refine lv_aload gX gB dX5_cornerAfter_38 (lv_at hl 0 rfl) ?_
          refine lv_astore_n (lv' := [(2, .ref (fa[i])), (4, .ref (fa[i])), (3, .int (nI i)), (0, .ref x), (1, .ref (fa[c0]))]) gX gB dX5_cornerAfter_40 rfl hl (by decide) rfl (fun ls hl => ?_)
          refine lv_iinc (v := nI (i + 1)) (lv' := [(3, .int (nI (i + 1))), (2, .ref (fa[i])), (4, .ref (fa[i])), (0, .ref x), (1, .ref (fa[c0]))]) gX gB dX5_cornerAfter_41 hl (k := 2) rfl (by exact nI_1 i) (by decide) rfl (fun ls hl => ?_)
          refine lv_goto (tgt := 4) gX gB dX5_cornerAfter_44 (by decide) ?_
          exact ih (i + 1) i hik (by omega) (by omega) (ca_new hkq (Classical.byContradiction fun zz => c35 ((@gx_b0 _ (Classical.propDecidable _)).mpr zz))) _ _ hW ls (lv_sub hl [0, 1, 3, 4] rfl)
      · refine lv_iload_n gX gB dX5_cornerAfter_4 rfl (lv_at hl 0 rfl) ?_
        refine lv_aload_n gX gB dX5_cornerAfter_5 rfl (lv_at hl 2 rfl) ?_
        refine gx_get C hW fX5_16 (gx_pl hx fx) rfl dX5_cornerAfter_6 ?_
        refine gx_callV (wr := []) (rest := [.int (nI i)]) C hW sX5_48 (kL_size l G L f F bF fa hlF) (gx_pl hlF.1 (ls_at.head hlF).choose_spec.choose_spec) rfl rfl ⟨(Nat.le_of_ble_eq_true rfl), (Nat.le_of_ble_eq_true rfl)⟩ hl.1 rfl (Nat.le_of_ble_eq_true rfl) dX5_cornerAfter_9 ⟨(Nat.le_of_ble_eq_true rfl), (Nat.le_of_ble_eq_true rfl)⟩ (fun v9 u9 H locs hp hW => ?_)
        obtain ⟨rfl, hu⟩ := hp
        rw [hu] at hW
        have hW : gx_W G A s (va_pl L f) H locs := hW
        refine W.eq (g2 := F0 m 12 ls [.int (nI fa.length), .int (nI i)]) rfl ?_
        refine W.widen (k := 0) (n := 0) (Nat.le_of_ble_eq_true rfl) (Nat.le_of_ble_eq_true rfl) ?_
        refine lv_icmp_ge (tgt := 47) gX gB dX5_cornerAfter_12 (by decide) (fun _ => ?_) (fun h9 => absurd (show (nI fa.length) ≤ (nI i) from nI_le hik (by have := hlF.lt; omega)) h9)
        refine lv_aload_n gX gB dX5_cornerAfter_47 rfl (lv_at hl 1 rfl) ?_
        exact gx_aret C hr (Or.inl ⟨_, rfl⟩) hW (⟨⟨k, hk, by rw [show fa.length = i by omega]; exact hkq.symm, rfl⟩, rfl⟩) (Nat.le_of_ble_eq_true rfl) (Nat.le_of_ble_eq_true rfl) dX5_cornerAfter_48
  exact loop (fa.length + 1) 0 c0 hc0 (by omega) (Nat.zero_le _) rfl _ _ hW ls (lv_sub hl [0, 1, 2, 3] rfl)
