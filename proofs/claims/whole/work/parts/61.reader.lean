/-! TRIALREADER: readTrial. -/
abbrev rt_T : Type := Int32 × Int32 × Int32 × Int32
def rt4 (t : Nat → Nat) (n p : Nat) (x y g : Int32) : Nat ⊕ (Nat × rt_T) := if p < (dr_at t n 5 p 0).1 then .inr ((dr_at t n 5 p 0).1, x, y, g, nI (dr_at t n 5 p 0).2) else .inl (dr_at t n 5 p 0).1
def rt3 (t : Nat → Nat) (n p : Nat) (x y : Int32) : Nat ⊕ (Nat × rt_T) := if p < (dr_at t n 5 p 0).1 then (if (dr_at t n 5 p 0).1 < n ∧ t (dr_at t n 5 p 0).1 = 44 then rt4 t n ((dr_at t n 5 p 0).1 + 1) x y (nI (dr_at t n 5 p 0).2) else .inl (dr_at t n 5 p 0).1) else .inl (dr_at t n 5 p 0).1
def rt2 (t : Nat → Nat) (n p : Nat) (x : Int32) : Nat ⊕ (Nat × rt_T) := if sg_q t n p < (sg_e t n p).1 then (if (sg_e t n p).1 < n ∧ t (sg_e t n p).1 = 44 then rt3 t n ((sg_e t n p).1 + 1) x (sg_v t n p) else .inl (sg_e t n p).1) else .inl (sg_e t n p).1
/-- a test read from p on: where it can't be read, or the place behind it and its four numbers -/
def rt1 (t : Nat → Nat) (n p : Nat) : Nat ⊕ (Nat × rt_T) := if sg_q t n p < (sg_e t n p).1 then (if (sg_e t n p).1 < n ∧ t (sg_e t n p).1 = 44 then rt2 t n ((sg_e t n p).1 + 1) (sg_v t n p) else .inl (sg_e t n p).1) else .inl (sg_e t n p).1
def tr_d (d : rt_T) : ld_T × Int32 := ((d.1.toInt64, d.2.1.toInt64, 0, d.2.2.1.toInt64, -1, 0), d.2.2.2)
theorem if_if {α : Type} {a b : Prop} [Decidable a] [Decidable b] {x y z : α} (h : a) (h2 : b) : (if a then (if b then x else y) else z) = x := by rw [if_pos h, if_pos h2]
theorem if_in {α : Type} {a b : Prop} [Decidable a] [Decidable b] {x y z : α} (h : a) (h2 : ¬ b) : (if a then (if b then x else y) else z) = y := by rw [if_pos h, if_neg h2]
theorem sg_le {t : Nat → Nat} {n p : Nat} (h : p ≤ n) : (sg_e t n p).1 ≤ n := dr_le _ _ _ _ _ (sk_le h)
theorem tr_is.el {L : List Nat} {f : Nat → va_E} {a : Nat} {d : ld_T × Int32} (h : tr_is L f a d) : gx_el L f a := by
  obtain ⟨w, h1, h2, -⟩ := h
  exact ⟨h1, 8, 2, _, RX3, TX3, h2, rfl, List.mem_of_getElem? (i := 3) (by decide +kernel)⟩
theorem tr_is.stay {L L' : List Nat} {f f' : Nat → va_E} {a : Nat} {d : ld_T × Int32} (h : tr_is L f a d) (hL : ∀ z ∈ L, z ∈ L') (hf : ∀ z ∈ L, ∀ (ci : Nat) (vs : List Value), f z = .inr (ci, vs) → ci = 6 ∨ ci = 8 → f' z = f z) : tr_is L' f' a d := by
  obtain ⟨w, h1, h2, h3, h4⟩ := h
  exact ⟨w, hL _ h1, by rw [hf a h1 _ _ h2 (Or.inr rfl)]; exact h2, hL _ h3, by rw [hf w h3 _ _ h4 (Or.inl rfl)]; exact h4⟩
/-- a test whose person is new against L0 -/
def tr_new (L0 L : List Nat) (f : Nat → va_E) (a : Nat) (d : ld_T × Int32) : Prop := ∃ w : Nat, w ∉ L0 ∧ a ∈ L ∧ f a = .inr (8, [.ref w, .int d.2]) ∧ ld_is L f w d.1
theorem tr_new.is {L0 L : List Nat} {f : Nat → va_E} {a : Nat} {d : ld_T × Int32} (h : tr_new L0 L f a d) : tr_is L f a d := by
  obtain ⟨w, -, h⟩ := h
  exact ⟨w, h⟩
theorem tr_new.stay {L0 L L' : List Nat} {f f' : Nat → va_E} {a : Nat} {d : ld_T × Int32} (h : tr_new L0 L f a d) (hL : ∀ z ∈ L, z ∈ L') (hf : ∀ z ∈ L, ∀ (ci : Nat) (vs : List Value), f z = .inr (ci, vs) → ci = 6 ∨ ci = 8 → f' z = f z) : tr_new L0 L' f' a d := by
  obtain ⟨w, h0, h1, h2, h3, h4⟩ := h
  exact ⟨w, h0, hL _ h1, by rw [hf a h1 _ _ h2 (Or.inr rfl)]; exact h2, hL _ h3, by rw [hf w h3 _ _ h4 (Or.inl rfl)]; exact h4⟩
theorem tr_new.old {L0 L1 L : List Nat} {f : Nat → va_E} {a : Nat} {d : ld_T × Int32} (h : tr_new L1 L f a d) (hL : ∀ z ∈ L0, z ∈ L1) : tr_new L0 L f a d := by
  obtain ⟨w, h0, h1⟩ := h
  exact ⟨w, fun z => h0 (hL _ z), h1⟩
theorem rt_f2 {L : List Nat} {F f2 : Nat → va_E} {t9 w9 : Nat} {e0 e1 e2 : va_E} (ht : t9 ∉ L) (hw : w9 ∉ L ++ [t9]) (h : f2 = va_up (va_up (va_up F t9 e0) w9 e1) t9 e2) : (∀ a ∈ L, f2 a = F a) ∧ f2 t9 = e2 ∧ f2 w9 = e1 := by
  have h1 : w9 ≠ t9 := fun z => hw (List.mem_append_right _ (by rw [z]; exact List.mem_cons_self))
  refine ⟨fun a ha => ?_, ?_, ?_⟩
  · have h2 : a ≠ t9 := fun z => ht (by rw [← z]; exact ha)
    have h3 : a ≠ w9 := fun z => hw (List.mem_append_left _ (by rw [← z]; exact ha))
    rw [h, va_up_ne _ _ h2, va_up_ne _ _ h3, va_up_ne _ _ h2]
  · rw [h, va_up_self]
  · rw [h, va_up_ne _ _ h1, va_up_self]
theorem rt_grow {G : gx_T} {L L2 : List Nat} {f f2 : Nat → va_E} {q : Nat} {b : Option Nat} {xs : List Nat} {v : Nat} {u : va_W} (hL : ∀ a ∈ L, a ∈ L2) (hf : ∀ a ∈ L, f2 a = f a) (hv : v ∉ L) (h : ls_added G L2 f2 q b xs v u) : ∃ (L' : List Nat) (f' : Nat → va_E) (b' : Nat), u = va_pl L' f' ∧ cs_grown G L f q b xs v L' f' b' ∧ (∀ a ∈ L2, a ∈ L') ∧ ∀ a ∈ L2, a ≠ q → some a ≠ b → f' a = f2 a := by
  obtain ⟨L', f', b', hu, h1, h2, h3⟩ := h
  have hsub : ∀ a ∈ L2, a ∈ L' := by
    intro a ha
    rcases h2 with ⟨-, rfl⟩ | ⟨-, rfl⟩
    · exact ha
    · exact List.mem_append_left _ ha
  refine ⟨L', f', b', hu, ⟨h1, hv, ?_, fun a ha => hsub a (hL a ha), fun a ha k1 k2 => ?_⟩, hsub, h3⟩
  · rcases h2 with ⟨h2, -⟩ | ⟨h2, -⟩
    · exact Or.inl h2
    · exact Or.inr (fun z => h2 (hL _ z))
  · rw [h3 a (hL a ha) k1 k2, hf a ha]
set_option maxHeartbeats 4000000 in
set_option maxRecDepth 100000 in
theorem kX4_readTrial (l : Launch) (G : gx_T) (L : List Nat) (f : Nat → va_E) (r X q b cap n pz : Nat) (t : Nat → Nat) (mn : Int32) (hr9 : r ∈ L) (fr9 : f r = .inr (9, [.ref X, .ref q, .int (nI pz), .int mn])) (hX : tb_at G L f X b cap n t) (hn2 : n ≤ 200) (hp9 : pz ≤ n) (bq : Option Nat) (ta : List Nat) (td : Nat → ld_T × Int32) (hlq : ls_at G L f q bq ta) (htd : ∀ j (h : j < ta.length), tr_is L f ta[j] (td j)) (hta : ta.length ≤ 16) : gx_M l G yX4_readTrial cX4_readTrial 4 (some .boolean) ({ frames := 7, cells := 3, slots := 32, locals := 207 } : Room) [.ref r] (va_pl L f) (fun v u => (v = some (.int 0) ∧ ∃ (pq : Nat) (mq : Int32), rt1 t n pz = .inl pq ∧ pq ≤ n ∧ u = va_pl L (va_up f r (.inr (9, [.ref X, .ref q, .int (nI pq), .int mq])))) ∨ (v = some (.int 1) ∧ ∃ (pq : Nat) (mq : Int32) (dd : rt_T) (L1 : List Nat) (f1 : Nat → va_E) (b1 t9 : Nat), rt1 t n pz = .inr (pq, dd) ∧ pq ≤ n ∧ u = va_pl L1 f1 ∧ cs_grown G L (va_up f r (.inr (9, [.ref X, .ref q, .int (nI pq), .int mq]))) q bq ta t9 L1 f1 b1 ∧ tr_new L L1 f1 t9 (tr_d dd))) := by
  have hXr : X ≠ r := gx_ne hX.2.2.choose_spec.choose_spec.1 fr9 (by simp)
  have hqr := hlq.apart fr9 (by decide)
  refine gx_start (by decide +kernel) (Nat.le_of_ble_eq_true rfl) ?_
  intro p e s m args below meth c A ls C hr hnm hW hl
  have gX := C.x
  have gB := C.b
  have hl : lv_has ls 4 [(0, .ref r)] := hl
  refine lv_aload_n gX gB dX4_readTrial_0 rfl (lv_at hl 0 rfl) ?_
  refine gx_callV (wr := []) (rest := []) C hW sX4_43 (kX4_readSigned l G L f r X q b cap n pz t mn hr9 fr9 hX hn2 hp9) (gx_pl hr9 fr9) rfl rfl ⟨(Nat.le_of_ble_eq_true rfl), (Nat.le_of_ble_eq_true rfl)⟩ hl.1 rfl (Nat.le_of_ble_eq_true rfl) dX4_readTrial_1 ⟨(Nat.le_of_ble_eq_true rfl), (Nat.le_of_ble_eq_true rfl)⟩ (fun v9 u9 H locs hp hW => ?_)
  obtain ⟨rfl, hu⟩ := hp
  rw [hu] at hW
  have hW : gx_W G A s (va_pl L (va_up f r (.inr (9, [.ref X, .ref q, .int (nI (sg_e t n pz).1), .int (sg_v t n pz)])))) H locs := hW
  refine W.eq (g2 := F0 m 4 ls [.int (if sg_q t n pz < (sg_e t n pz).1 then 1 else 0)]) rfl ?_
  refine W.widen (k := 0) (n := 0) (Nat.le_of_ble_eq_true rfl) (Nat.le_of_ble_eq_true rfl) ?_
  obtain ⟨p1, hp1⟩ : ∃ zz, zz = (sg_e t n pz).1 := ⟨_, rfl⟩
  obtain ⟨v1, hv1⟩ : ∃ zz, zz = sg_v t n pz := ⟨_, rfl⟩
  have hW := hW
  rw [← hp1, ← hv1] at hW
  have hl1 : p1 ≤ n := by rw [hp1]; exact sg_le hp9
  rcases Classical.em (sg_q t n pz < (sg_e t n pz).1) with hk1 | hk1
  · refine lv_if_eq (tgt := 16) gX gB dX4_readTrial_4 (by decide) (fun h9 => absurd (show (if sg_q t n pz < (sg_e t n pz).1 then 1 else 0) = (0 : Int32) from h9) (by rw [if_pos hk1]; decide)) (fun _ => ?_)
    refine lv_aload_n gX gB dX4_readTrial_7 rfl (lv_at hl 0 rfl) ?_
    refine lv_bipush (v := 44) gX gB dX4_readTrial_8 (by decide) ?_
    refine gx_callV (wr := []) (rest := []) C hW sX4_29 (kX4_skip l G L (va_up f r (.inr (9, [.ref X, .ref q, .int (nI p1), .int v1]))) r X q b cap n p1 t v1 hr9 (va_up_self _ _ _) (hX.up fr9 _) hn2 hl1 44 44 rfl (by decide)) (gx_pl hr9 (va_up_self _ _ _)) rfl rfl ⟨(Nat.le_of_ble_eq_true rfl), (Nat.le_of_ble_eq_true rfl)⟩ hl.1 rfl (Nat.le_of_ble_eq_true rfl) dX4_readTrial_10 ⟨(Nat.le_of_ble_eq_true rfl), (Nat.le_of_ble_eq_true rfl)⟩ (fun v9 u9 H locs hp hW => ?_)
    obtain ⟨rfl, hu⟩ := hp
    rw [hu] at hW
    have hW : gx_W G A s (va_pl L (va_up (va_up f r (.inr (9, [.ref X, .ref q, .int (nI p1), .int v1]))) r (.inr (9, [.ref X, .ref q, .int (nI (sk_p t n p1 44)), .int v1])))) H locs := hW
    refine W.eq (g2 := F0 m 13 ls [.int (if p1 < n ∧ t p1 = 44 then 1 else 0)]) rfl ?_
    refine W.widen (k := 0) (n := 0) (Nat.le_of_ble_eq_true rfl) (Nat.le_of_ble_eq_true rfl) ?_
    rw [bx_uu] at hW
    rcases Classical.em (p1 < n ∧ t p1 = 44) with hc1 | hc1
    · rw [show sk_p t n p1 44 = p1 + 1 from if_pos hc1] at hW
      have hW : gx_W G A s (va_pl L (va_up f r (.inr (9, [.ref X, .ref q, .int (nI (p1 + 1)), .int v1])))) H locs := hW
      have hC1 : rt1 t n pz = rt2 t n (p1 + 1) v1 := by rw [hv1, hp1]; exact (if_if hk1 (by rw [← hp1]; exact hc1))
      refine lv_if_ne (tgt := 18) gX gB dX4_readTrial_13 (by decide) (fun _ => ?_) (fun h9 => absurd h9 (show ¬ (if p1 < n ∧ t p1 = 44 then 1 else 0) = (0 : Int32) from by rw [if_pos hc1]; decide))
      refine lv_aload_n gX gB dX4_readTrial_18 rfl (lv_at hl 0 rfl) ?_
      refine gx_get C hW fX4_26 (gx_pl hr9 (va_up_self _ _ _)) rfl dX4_readTrial_19 ?_
      refine lv_istore_n (lv' := [(1, .int v1), (0, .ref r)]) gX gB dX4_readTrial_22 rfl hl (by decide) rfl (fun ls hl => ?_)
      refine lv_aload_n gX gB dX4_readTrial_23 rfl (lv_at hl 1 rfl) ?_
      refine gx_callV (wr := []) (rest := []) C hW sX4_43 (kX4_readSigned l G L (va_up f r (.inr (9, [.ref X, .ref q, .int (nI (p1 + 1)), .int v1]))) r X q b cap n (p1 + 1) t v1 hr9 (va_up_self _ _ _) (hX.up fr9 _) hn2 hc1.1) (gx_pl hr9 (va_up_self _ _ _)) rfl rfl ⟨(Nat.le_of_ble_eq_true rfl), (Nat.le_of_ble_eq_true rfl)⟩ hl.1 rfl (Nat.le_of_ble_eq_true rfl) dX4_readTrial_24 ⟨(Nat.le_of_ble_eq_true rfl), (Nat.le_of_ble_eq_true rfl)⟩ (fun v9 u9 H locs hp hW => ?_)
      obtain ⟨rfl, hu⟩ := hp
      rw [hu] at hW
      have hW : gx_W G A s (va_pl L (va_up (va_up f r (.inr (9, [.ref X, .ref q, .int (nI (p1 + 1)), .int v1]))) r (.inr (9, [.ref X, .ref q, .int (nI (sg_e t n (p1 + 1)).1), .int (sg_v t n (p1 + 1))])))) H locs := hW
      refine W.eq (g2 := F0 m 27 ls [.int (if sg_q t n (p1 + 1) < (sg_e t n (p1 + 1)).1 then 1 else 0)]) rfl ?_
      refine W.widen (k := 0) (n := 0) (Nat.le_of_ble_eq_true rfl) (Nat.le_of_ble_eq_true rfl) ?_
      rw [bx_uu] at hW
      obtain ⟨p2, hp2⟩ : ∃ zz, zz = (sg_e t n (p1 + 1)).1 := ⟨_, rfl⟩
      obtain ⟨v2, hv2⟩ : ∃ zz, zz = sg_v t n (p1 + 1) := ⟨_, rfl⟩
      have hW := hW
      rw [← hp2, ← hv2] at hW
      have hl2 : p2 ≤ n := by rw [hp2]; exact sg_le hc1.1
      rcases Classical.em (sg_q t n (p1 + 1) < (sg_e t n (p1 + 1)).1) with hk2 | hk2
      · refine lv_if_eq (tgt := 39) gX gB dX4_readTrial_27 (by decide) (fun h9 => absurd (show (if sg_q t n (p1 + 1) < (sg_e t n (p1 + 1)).1 then 1 else 0) = (0 : Int32) from h9) (by rw [if_pos hk2]; decide)) (fun _ => ?_)
        refine lv_aload_n gX gB dX4_readTrial_30 rfl (lv_at hl 1 rfl) ?_
        refine lv_bipush (v := 44) gX gB dX4_readTrial_31 (by decide) ?_
        refine gx_callV (wr := []) (rest := []) C hW sX4_29 (kX4_skip l G L (va_up f r (.inr (9, [.ref X, .ref q, .int (nI p2), .int v2]))) r X q b cap n p2 t v2 hr9 (va_up_self _ _ _) (hX.up fr9 _) hn2 hl2 44 44 rfl (by decide)) (gx_pl hr9 (va_up_self _ _ _)) rfl rfl ⟨(Nat.le_of_ble_eq_true rfl), (Nat.le_of_ble_eq_true rfl)⟩ hl.1 rfl (Nat.le_of_ble_eq_true rfl) dX4_readTrial_33 ⟨(Nat.le_of_ble_eq_true rfl), (Nat.le_of_ble_eq_true rfl)⟩ (fun v9 u9 H locs hp hW => ?_)
        obtain ⟨rfl, hu⟩ := hp
        rw [hu] at hW
        have hW : gx_W G A s (va_pl L (va_up (va_up f r (.inr (9, [.ref X, .ref q, .int (nI p2), .int v2]))) r (.inr (9, [.ref X, .ref q, .int (nI (sk_p t n p2 44)), .int v2])))) H locs := hW
        refine W.eq (g2 := F0 m 36 ls [.int (if p2 < n ∧ t p2 = 44 then 1 else 0)]) rfl ?_
        refine W.widen (k := 0) (n := 0) (Nat.le_of_ble_eq_true rfl) (Nat.le_of_ble_eq_true rfl) ?_
        rw [bx_uu] at hW
        rcases Classical.em (p2 < n ∧ t p2 = 44) with hc2 | hc2
        · rw [show sk_p t n p2 44 = p2 + 1 from if_pos hc2] at hW
          have hW : gx_W G A s (va_pl L (va_up f r (.inr (9, [.ref X, .ref q, .int (nI (p2 + 1)), .int v2])))) H locs := hW
          have hC2 : rt1 t n pz = rt3 t n (p2 + 1) v1 v2 := by rw [hv2, hp2]; exact hC1.trans (if_if hk2 (by rw [← hp2]; exact hc2))
          refine lv_if_ne (tgt := 41) gX gB dX4_readTrial_36 (by decide) (fun _ => ?_) (fun h9 => absurd h9 (show ¬ (if p2 < n ∧ t p2 = 44 then 1 else 0) = (0 : Int32) from by rw [if_pos hc2]; decide))
          refine lv_aload_n gX gB dX4_readTrial_41 rfl (lv_at hl 1 rfl) ?_
          refine gx_get C hW fX4_26 (gx_pl hr9 (va_up_self _ _ _)) rfl dX4_readTrial_42 ?_
          refine lv_istore_n (lv' := [(2, .int v2), (1, .int v1), (0, .ref r)]) gX gB dX4_readTrial_45 rfl hl (by decide) rfl (fun ls hl => ?_)
          refine lv_aload_n gX gB dX4_readTrial_46 rfl (lv_at hl 2 rfl) ?_
          refine gx_callV (wr := []) (rest := []) C hW sX4_46 (kX4_readDigits l G L (va_up f r (.inr (9, [.ref X, .ref q, .int (nI (p2 + 1)), .int v2]))) r X q b cap n (p2 + 1) t v2 hr9 (va_up_self _ _ _) (hX.up fr9 _) hn2 hc2.1) (gx_pl hr9 (va_up_self _ _ _)) rfl rfl ⟨(Nat.le_of_ble_eq_true rfl), (Nat.le_of_ble_eq_true rfl)⟩ hl.1 rfl (Nat.le_of_ble_eq_true rfl) dX4_readTrial_47 ⟨(Nat.le_of_ble_eq_true rfl), (Nat.le_of_ble_eq_true rfl)⟩ (fun v9 u9 H locs hp hW => ?_)
          obtain ⟨rfl, hu⟩ := hp
          rw [hu] at hW
          have hW : gx_W G A s (va_pl L (va_up (va_up f r (.inr (9, [.ref X, .ref q, .int (nI (p2 + 1)), .int v2]))) r (.inr (9, [.ref X, .ref q, .int (nI (dr_at t n 5 (p2 + 1) 0).1), .int (nI (dr_at t n 5 (p2 + 1) 0).2)])))) H locs := hW
          refine W.eq (g2 := F0 m 50 ls [.int (if (p2 + 1) < (dr_at t n 5 (p2 + 1) 0).1 then 1 else 0)]) rfl ?_
          refine W.widen (k := 0) (n := 0) (Nat.le_of_ble_eq_true rfl) (Nat.le_of_ble_eq_true rfl) ?_
          rw [bx_uu] at hW
          obtain ⟨p3, hp3⟩ : ∃ zz, zz = (dr_at t n 5 (p2 + 1) 0).1 := ⟨_, rfl⟩
          obtain ⟨v3, hv3⟩ : ∃ zz, zz = nI (dr_at t n 5 (p2 + 1) 0).2 := ⟨_, rfl⟩
          have hW := hW
          rw [← hp3, ← hv3] at hW
          have hl3 : p3 ≤ n := by rw [hp3]; exact dr_le _ _ _ _ _ hc2.1
          rcases Classical.em (p2 + 1 < (dr_at t n 5 (p2 + 1) 0).1) with hk3 | hk3
          · refine lv_if_eq (tgt := 62) gX gB dX4_readTrial_50 (by decide) (fun h9 => absurd (show (if (p2 + 1) < (dr_at t n 5 (p2 + 1) 0).1 then 1 else 0) = (0 : Int32) from h9) (by rw [if_pos hk3]; decide)) (fun _ => ?_)
            refine lv_aload_n gX gB dX4_readTrial_53 rfl (lv_at hl 2 rfl) ?_
            refine lv_bipush (v := 44) gX gB dX4_readTrial_54 (by decide) ?_
            refine gx_callV (wr := []) (rest := []) C hW sX4_29 (kX4_skip l G L (va_up f r (.inr (9, [.ref X, .ref q, .int (nI p3), .int v3]))) r X q b cap n p3 t v3 hr9 (va_up_self _ _ _) (hX.up fr9 _) hn2 hl3 44 44 rfl (by decide)) (gx_pl hr9 (va_up_self _ _ _)) rfl rfl ⟨(Nat.le_of_ble_eq_true rfl), (Nat.le_of_ble_eq_true rfl)⟩ hl.1 rfl (Nat.le_of_ble_eq_true rfl) dX4_readTrial_56 ⟨(Nat.le_of_ble_eq_true rfl), (Nat.le_of_ble_eq_true rfl)⟩ (fun v9 u9 H locs hp hW => ?_)
            obtain ⟨rfl, hu⟩ := hp
            rw [hu] at hW
            have hW : gx_W G A s (va_pl L (va_up (va_up f r (.inr (9, [.ref X, .ref q, .int (nI p3), .int v3]))) r (.inr (9, [.ref X, .ref q, .int (nI (sk_p t n p3 44)), .int v3])))) H locs := hW
            refine W.eq (g2 := F0 m 59 ls [.int (if p3 < n ∧ t p3 = 44 then 1 else 0)]) rfl ?_
            refine W.widen (k := 0) (n := 0) (Nat.le_of_ble_eq_true rfl) (Nat.le_of_ble_eq_true rfl) ?_
            rw [bx_uu] at hW
            rcases Classical.em (p3 < n ∧ t p3 = 44) with hc3 | hc3
            · rw [show sk_p t n p3 44 = p3 + 1 from if_pos hc3] at hW
              have hW : gx_W G A s (va_pl L (va_up f r (.inr (9, [.ref X, .ref q, .int (nI (p3 + 1)), .int v3])))) H locs := hW
              have hC3 : rt1 t n pz = rt4 t n (p3 + 1) v1 v2 v3 := by rw [hv3, hp3]; exact hC2.trans (if_if hk3 (by rw [← hp3]; exact hc3))
              refine lv_if_ne (tgt := 64) gX gB dX4_readTrial_59 (by decide) (fun _ => ?_) (fun h9 => absurd h9 (show ¬ (if p3 < n ∧ t p3 = 44 then 1 else 0) = (0 : Int32) from by rw [if_pos hc3]; decide))
              refine lv_aload_n gX gB dX4_readTrial_64 rfl (lv_at hl 2 rfl) ?_
              refine gx_get C hW fX4_26 (gx_pl hr9 (va_up_self _ _ _)) rfl dX4_readTrial_65 ?_
              refine lv_istore_n (lv' := [(3, .int v3), (2, .int v2), (1, .int v1), (0, .ref r)]) gX gB dX4_readTrial_68 rfl hl (by decide) rfl (fun ls hl => ?_)
              refine lv_aload_n gX gB dX4_readTrial_69 rfl (lv_at hl 3 rfl) ?_
              refine gx_callV (wr := []) (rest := []) C hW sX4_46 (kX4_readDigits l G L (va_up f r (.inr (9, [.ref X, .ref q, .int (nI (p3 + 1)), .int v3]))) r X q b cap n (p3 + 1) t v3 hr9 (va_up_self _ _ _) (hX.up fr9 _) hn2 hc3.1) (gx_pl hr9 (va_up_self _ _ _)) rfl rfl ⟨(Nat.le_of_ble_eq_true rfl), (Nat.le_of_ble_eq_true rfl)⟩ hl.1 rfl (Nat.le_of_ble_eq_true rfl) dX4_readTrial_70 ⟨(Nat.le_of_ble_eq_true rfl), (Nat.le_of_ble_eq_true rfl)⟩ (fun v9 u9 H locs hp hW => ?_)
              obtain ⟨rfl, hu⟩ := hp
              rw [hu] at hW
              have hW : gx_W G A s (va_pl L (va_up (va_up f r (.inr (9, [.ref X, .ref q, .int (nI (p3 + 1)), .int v3]))) r (.inr (9, [.ref X, .ref q, .int (nI (dr_at t n 5 (p3 + 1) 0).1), .int (nI (dr_at t n 5 (p3 + 1) 0).2)])))) H locs := hW
              refine W.eq (g2 := F0 m 73 ls [.int (if (p3 + 1) < (dr_at t n 5 (p3 + 1) 0).1 then 1 else 0)]) rfl ?_
              refine W.widen (k := 0) (n := 0) (Nat.le_of_ble_eq_true rfl) (Nat.le_of_ble_eq_true rfl) ?_
              rw [bx_uu] at hW
              obtain ⟨p4, hp4⟩ : ∃ zz, zz = (dr_at t n 5 (p3 + 1) 0).1 := ⟨_, rfl⟩
              obtain ⟨v4, hv4⟩ : ∃ zz, zz = nI (dr_at t n 5 (p3 + 1) 0).2 := ⟨_, rfl⟩
              have hW := hW
              rw [← hp4, ← hv4] at hW
              have hl4 : p4 ≤ n := by rw [hp4]; exact dr_le _ _ _ _ _ hc3.1
              rcases Classical.em (p3 + 1 < (dr_at t n 5 (p3 + 1) 0).1) with hk4 | hk4
              · refine lv_if_ne (tgt := 78) gX gB dX4_readTrial_73 (by decide) (fun _ => ?_) (fun h9 => absurd h9 (show ¬ (if (p3 + 1) < (dr_at t n 5 (p3 + 1) 0).1 then 1 else 0) = (0 : Int32) from by rw [if_pos hk4]; decide))
                refine lv_aload_n gX gB dX4_readTrial_78 rfl (lv_at hl 3 rfl) ?_
                refine gx_get C hW fX4_18 (gx_pl hr9 (va_up_self _ _ _)) rfl dX4_readTrial_79 ?_
                refine gx_new (ci := 8) C hW clX3 inX3 rfl (tq_2 84 (by decide +kernel) rfl) (tq_2 85 (by decide +kernel) rfl) (tq_1 27 (by decide +kernel) rfl) dfX3 (Nat.le_of_ble_eq_true rfl) (Nat.le_of_ble_eq_true rfl) dX4_readTrial_82 (fun t9 H ht9 hW => ?_)
                refine W.widen (k := 1) (n := 2) (Nat.le_of_ble_eq_true rfl) (Nat.le_of_ble_eq_true rfl) ?_
                obtain ⟨f11, hf11⟩ : ∃ zz, zz = va_up (va_up f r (.inr (9, [.ref X, .ref q, .int (nI p4), .int v4]))) t9 (.inr (8, [.null, .int 0])) := ⟨_, rfl⟩
                have hW := hW
                rw [← hf11] at hW
                have m11_r : r ∈ L ++ [t9] := List.mem_append_left _ (hr9)
                have f11_r : f11 r = .inr (9, [.ref X, .ref q, .int (nI p4), .int v4]) := by rw [hf11, va_up_ne _ _ (fun zz => ht9 (by rw [← zz]; exact hr9))]; exact (va_up_self _ _ _)
                have m11_X : X ∈ L ++ [t9] := List.mem_append_left _ (hX.1)
                have f11_X : f11 X = .inr (1, [.ref b, .int 0, .int ((hX.up fr9 (.inr (9, [.ref X, .ref q, .int (nI p4), .int v4]))).2.2.choose), .int (nI n)]) := by rw [hf11, va_up_ne _ _ (fun zz => ht9 (by rw [← zz]; exact hX.1))]; exact (hX.up fr9 _).2.2.choose_spec.choose_spec.1
                have m11_t9 : t9 ∈ L ++ [t9] := List.mem_append_right _ List.mem_cons_self
                have f11_t9 : f11 t9 = .inr (8, [.null, .int 0]) := by rw [hf11]; exact va_up_self _ _ _
                refine lv_dup gX gB dX4_readTrial_85 rfl ?_
                refine gx_new (ci := 6) C hW clX1 inX1 rfl (tq_2 86 (by decide +kernel) rfl) (tq_1 100 (by decide +kernel) rfl) (tq_1 9 (by decide +kernel) rfl) dfX1 (Nat.le_of_ble_eq_true rfl) (Nat.le_of_ble_eq_true rfl) dX4_readTrial_86 (fun w9 H hw9 hW => ?_)
                refine W.widen (k := 2) (n := 8) (Nat.le_of_ble_eq_true rfl) (Nat.le_of_ble_eq_true rfl) ?_
                obtain ⟨f12, hf12⟩ : ∃ zz, zz = va_up f11 w9 (.inr (6, [.long 0, .long 0, .long 0, .long 0, .int 0, .long 0])) := ⟨_, rfl⟩
                have hW := hW
                rw [← hf12] at hW
                have m12_r : r ∈ (L ++ [t9]) ++ [w9] := List.mem_append_left _ (m11_r)
                have f12_r : f12 r = .inr (9, [.ref X, .ref q, .int (nI p4), .int v4]) := by rw [hf12, va_up_ne _ _ (fun zz => hw9 (by rw [← zz]; exact m11_r))]; exact f11_r
                have m12_X : X ∈ (L ++ [t9]) ++ [w9] := List.mem_append_left _ (m11_X)
                have f12_X : f12 X = .inr (1, [.ref b, .int 0, .int ((hX.up fr9 (.inr (9, [.ref X, .ref q, .int (nI p4), .int v4]))).2.2.choose), .int (nI n)]) := by rw [hf12, va_up_ne _ _ (fun zz => hw9 (by rw [← zz]; exact m11_X))]; exact f11_X
                have m12_t9 : t9 ∈ (L ++ [t9]) ++ [w9] := List.mem_append_left _ (m11_t9)
                have f12_t9 : f12 t9 = .inr (8, [.null, .int 0]) := by rw [hf12, va_up_ne _ _ (fun zz => hw9 (by rw [← zz]; exact m11_t9))]; exact f11_t9
                have m12_w9 : w9 ∈ (L ++ [t9]) ++ [w9] := List.mem_append_right _ List.mem_cons_self
                have f12_w9 : f12 w9 = .inr (6, [.long 0, .long 0, .long 0, .long 0, .int 0, .long 0]) := by rw [hf12]; exact va_up_self _ _ _
                refine lv_dup gX gB dX4_readTrial_89 rfl ?_
                refine lv_iload_n gX gB dX4_readTrial_90 rfl (lv_at hl 2 rfl) ?_
                refine lv_i2l gX gB dX4_readTrial_91 rfl ?_
                refine lv_iload_n gX gB dX4_readTrial_92 rfl (lv_at hl 1 rfl) ?_
                refine lv_i2l gX gB dX4_readTrial_93 rfl ?_
                refine lv_lconst (v := 0) gX gB dX4_readTrial_94 (by decide) ?_
                refine lv_iload_n gX gB dX4_readTrial_95 rfl (lv_at hl 0 rfl) ?_
                refine lv_i2l gX gB dX4_readTrial_96 rfl ?_
                refine gx_callIN (wr := []) (rest := [.ref w9, .ref t9, .ref t9, .ref q]) C hW sX4_53n (kX1_init l G ((L ++ [t9]) ++ [w9]) f12 w9 v1.toInt64 v2.toInt64 0 v3.toInt64 m12_w9 f12_w9) rfl ⟨(Nat.le_of_ble_eq_true rfl), (Nat.le_of_ble_eq_true rfl)⟩ hl.1 rfl (Nat.le_of_ble_eq_true rfl) dX4_readTrial_97 ⟨(Nat.le_of_ble_eq_true rfl), (Nat.le_of_ble_eq_true rfl)⟩ (fun v9 u9 H locs hp hW => ?_)
                obtain ⟨rfl, hu⟩ := hp
                rw [hu] at hW
                have hW : gx_W G A s (va_pl ((L ++ [t9]) ++ [w9]) (va_up f12 w9 (.inr (6, [.long v1.toInt64, .long v2.toInt64, .long 0, .long v3.toInt64, .int (-1), .long 0])))) H locs := hW
                refine W.eq (g2 := F0 m 100 ls [.ref w9, .ref t9, .ref t9, .ref q]) rfl ?_
                refine W.widen (k := 2) (n := 8) (Nat.le_of_ble_eq_true rfl) (Nat.le_of_ble_eq_true rfl) ?_
                rw [hf12, bx_uu] at hW
                have hrw : r ≠ w9 := fun zz => hw9 (by rw [← zz]; exact m11_r)
                have htw : t9 ≠ w9 := fun zz => hw9 (by rw [← zz]; exact m11_t9)
                have hW : gx_W G A s (va_pl ((L ++ [t9]) ++ [w9]) (va_up f11 w9 (.inr (6, [.long v1.toInt64, .long v2.toInt64, .long 0, .long v3.toInt64, .int (-1), .long 0])))) H locs := hW
                refine lv_aload_n gX gB dX4_readTrial_100 rfl (lv_at hl 3 rfl) ?_
                refine gx_get C hW fX4_26 (gx_pl m12_r ((va_up_ne _ _ hrw).trans f11_r)) rfl dX4_readTrial_101 ?_
                refine gx_callIN (wr := []) (rest := [.ref t9, .ref q]) C hW sX4_56n (kX3_init l G ((L ++ [t9]) ++ [w9]) (va_up f11 w9 (.inr (6, [.long v1.toInt64, .long v2.toInt64, .long 0, .long v3.toInt64, .int (-1), .long 0]))) t9 w9 v4 m12_t9 ((va_up_ne _ _ htw).trans f11_t9)) rfl ⟨(Nat.le_of_ble_eq_true rfl), (Nat.le_of_ble_eq_true rfl)⟩ hl.1 rfl (Nat.le_of_ble_eq_true rfl) dX4_readTrial_104 ⟨(Nat.le_of_ble_eq_true rfl), (Nat.le_of_ble_eq_true rfl)⟩ (fun v9 u9 H locs hp hW => ?_)
                obtain ⟨rfl, hu⟩ := hp
                rw [hu] at hW
                have hW : gx_W G A s (va_pl ((L ++ [t9]) ++ [w9]) (va_up (va_up f11 w9 (.inr (6, [.long v1.toInt64, .long v2.toInt64, .long 0, .long v3.toInt64, .int (-1), .long 0]))) t9 (.inr (8, [.ref w9, .int v4])))) H locs := hW
                refine W.eq (g2 := F0 m 107 ls [.ref t9, .ref q]) rfl ?_
                refine W.widen (k := 2) (n := 8) (Nat.le_of_ble_eq_true rfl) (Nat.le_of_ble_eq_true rfl) ?_
                obtain ⟨f2, hf2⟩ : ∃ zz, zz = va_up (va_up f11 w9 (.inr (6, [.long v1.toInt64, .long v2.toInt64, .long 0, .long v3.toInt64, .int (-1), .long 0]))) t9 (.inr (8, [.ref w9, .int v4])) := ⟨_, rfl⟩
                have hW := hW
                rw [← hf2] at hW
                rw [hf11] at hf2
                obtain ⟨k1, k2, k3⟩ := rt_f2 ht9 hw9 hf2
                have hsub : ∀ a ∈ L, a ∈ ((L ++ [t9]) ++ [w9]) := fun a ha => List.mem_append_left _ (List.mem_append_left _ ha)
                have hlF : ls_at G L (va_up f r (.inr (9, [.ref X, .ref q, .int (nI p4), .int v4]))) q bq ta := hlq.kept (fun _ h => h) (va_up_ne _ _ hqr.1.symm) (fun b9 h9 => va_up_ne _ _ (fun zz => hqr.2 (by rw [← zz, h9])))
                have hlq2 : ls_at G ((L ++ [t9]) ++ [w9]) f2 q bq ta := hlF.kept hsub (k1 q hlq.1) (fun b9 h9 => k1 b9 (hlq.row b9 h9))
                have hst : ∀ j (h : j < ta.length), tr_is ((L ++ [t9]) ++ [w9]) f2 ta[j] (td j) := fun j h => (htd j h).stay hsub (fun z hz ci vs e1 e2 => by rw [k1 z hz, va_up_ne _ _ (gx_ne e1 fr9 (by intro e3; injection e3 with e3; injection e3 with e3; rcases e2 with e2 | e2 <;> (rw [e2] at e3; exact absurd e3 (by decide))))])
                have hel9 : ∀ y ∈ ta, gx_el ((L ++ [t9]) ++ [w9]) f2 y ∧ y ≠ q := fun y hy => by
                  obtain ⟨i, hi, rfl⟩ := List.mem_iff_getElem.mp hy
                  refine ⟨(hst i hi).el, ?_⟩
                  obtain ⟨w, -, e1, -⟩ := hst i hi
                  exact (hlq2.apart e1 (by decide)).1
                have htq : t9 ≠ q := fun zz => ht9 (by rw [zz]; exact hlq.1)
                have hwq : w9 ≠ q := fun zz => hw9 (by rw [zz]; exact List.mem_append_left _ hlq.1)
                have hW : gx_W G A s (va_pl ((L ++ [t9]) ++ [w9]) f2) H locs := hW
                refine gx_callV (wr := []) (rest := []) C hW sX4_59 (kL_add l G ((L ++ [t9]) ++ [w9]) f2 q bq ta hlq2 t9 ⟨m12_t9, 8, 2, _, RX3, TX3, k2, rfl, List.mem_of_getElem? (i := 3) (by decide +kernel)⟩ htq hel9 hta) (gx_pl hlq2.1 (ls_at.head hlq2).choose_spec.choose_spec) rfl rfl ⟨(Nat.le_of_ble_eq_true rfl), (Nat.le_of_ble_eq_true rfl)⟩ hl.1 rfl (Nat.le_of_ble_eq_true rfl) dX4_readTrial_107 ⟨(Nat.le_of_ble_eq_true rfl), (Nat.le_of_ble_eq_true rfl)⟩ (fun v9 u9 H locs hp hW => ?_)
                obtain ⟨rfl, hadd⟩ := hp
                have hW : gx_W G A s (u9) H locs := hW
                refine W.eq (g2 := F0 m 110 ls [.int 1]) rfl ?_
                refine W.widen (k := 3) (n := 32) (Nat.le_of_ble_eq_true rfl) (Nat.le_of_ble_eq_true rfl) ?_
                obtain ⟨L1, f1, b1, hu, hgr, hs1, hs2⟩ := rt_grow hsub k1 ht9 hadd
                rw [hu] at hW
                refine lv_pop gX gB dX4_readTrial_110 rfl ?_
                refine lv_iconst (v := 1) gX gB dX4_readTrial_111 (by decide) ?_
                exact gx_zret C hr (by decide) hW ((Or.inr ⟨rfl, p4, v4, (v1, v2, v3, v4), L1, f1, b1, t9, by rw [hp4, hv4]; exact hC3.trans (if_pos hk4), hl4, rfl, hgr, w9, fun zz => hw9 (List.mem_append_left _ zz), hs1 _ m12_t9, (hs2 _ m12_t9 htq (fun zz => ht9 (hlq.row _ zz.symm))).trans k2, hs1 _ m12_w9, (hs2 _ m12_w9 hwq (fun zz => hw9 (List.mem_append_left _ (hlq.row _ zz.symm)))).trans k3⟩)) (Nat.le_of_ble_eq_true rfl) (Nat.le_of_ble_eq_true rfl) dX4_readTrial_112
              · refine lv_if_ne (tgt := 78) gX gB dX4_readTrial_73 (by decide) (fun h9 => absurd (show ¬ (if (p3 + 1) < (dr_at t n 5 (p3 + 1) 0).1 then 1 else 0) = (0 : Int32) from h9) (by rw [if_neg hk4]; exact fun zz => zz rfl)) (fun _ => ?_)
                refine lv_iconst (v := 0) gX gB dX4_readTrial_76 (by decide) ?_
                exact gx_zret C hr (by decide) hW ((Or.inl ⟨rfl, p4, v4, by rw [hp4]; exact hC3.trans (if_neg hk4), hl4, rfl⟩)) (Nat.le_of_ble_eq_true rfl) (Nat.le_of_ble_eq_true rfl) dX4_readTrial_77
            · rw [show sk_p t n p3 44 = p3 from if_neg hc3] at hW
              have hW : gx_W G A s (va_pl L (va_up f r (.inr (9, [.ref X, .ref q, .int (nI p3), .int v3])))) H locs := hW
              refine lv_if_ne (tgt := 64) gX gB dX4_readTrial_59 (by decide) (fun h9 => absurd (show ¬ (if p3 < n ∧ t p3 = 44 then 1 else 0) = (0 : Int32) from h9) (by rw [if_neg hc3]; exact fun zz => zz rfl)) (fun _ => ?_)
              refine lv_iconst (v := 0) gX gB dX4_readTrial_62 (by decide) ?_
              exact gx_zret C hr (by decide) hW ((Or.inl ⟨rfl, p3, v3, by rw [hp3]; exact hC2.trans (if_in hk3 (by rw [← hp3]; exact hc3)), hl3, rfl⟩)) (Nat.le_of_ble_eq_true rfl) (Nat.le_of_ble_eq_true rfl) dX4_readTrial_63
          · refine lv_if_eq (tgt := 62) gX gB dX4_readTrial_50 (by decide) (fun _ => ?_) (fun h9 => absurd (show (if (p2 + 1) < (dr_at t n 5 (p2 + 1) 0).1 then 1 else 0) = (0 : Int32) from if_neg hk3) h9)
            refine lv_iconst (v := 0) gX gB dX4_readTrial_62 (by decide) ?_
            exact gx_zret C hr (by decide) hW ((Or.inl ⟨rfl, p3, v3, by rw [hp3]; exact hC2.trans (if_neg hk3), hl3, rfl⟩)) (Nat.le_of_ble_eq_true rfl) (Nat.le_of_ble_eq_true rfl) dX4_readTrial_63
        · rw [show sk_p t n p2 44 = p2 from if_neg hc2] at hW
          have hW : gx_W G A s (va_pl L (va_up f r (.inr (9, [.ref X, .ref q, .int (nI p2), .int v2])))) H locs := hW
          refine lv_if_ne (tgt := 41) gX gB dX4_readTrial_36 (by decide) (fun h9 => absurd (show ¬ (if p2 < n ∧ t p2 = 44 then 1 else 0) = (0 : Int32) from h9) (by rw [if_neg hc2]; exact fun zz => zz rfl)) (fun _ => ?_)
          refine lv_iconst (v := 0) gX gB dX4_readTrial_39 (by decide) ?_
          exact gx_zret C hr (by decide) hW ((Or.inl ⟨rfl, p2, v2, by rw [hp2]; exact hC1.trans (if_in hk2 (by rw [← hp2]; exact hc2)), hl2, rfl⟩)) (Nat.le_of_ble_eq_true rfl) (Nat.le_of_ble_eq_true rfl) dX4_readTrial_40
      · refine lv_if_eq (tgt := 39) gX gB dX4_readTrial_27 (by decide) (fun _ => ?_) (fun h9 => absurd (show (if sg_q t n (p1 + 1) < (sg_e t n (p1 + 1)).1 then 1 else 0) = (0 : Int32) from if_neg hk2) h9)
        refine lv_iconst (v := 0) gX gB dX4_readTrial_39 (by decide) ?_
        exact gx_zret C hr (by decide) hW ((Or.inl ⟨rfl, p2, v2, by rw [hp2]; exact hC1.trans (if_neg hk2), hl2, rfl⟩)) (Nat.le_of_ble_eq_true rfl) (Nat.le_of_ble_eq_true rfl) dX4_readTrial_40
    · rw [show sk_p t n p1 44 = p1 from if_neg hc1] at hW
      have hW : gx_W G A s (va_pl L (va_up f r (.inr (9, [.ref X, .ref q, .int (nI p1), .int v1])))) H locs := hW
      refine lv_if_ne (tgt := 18) gX gB dX4_readTrial_13 (by decide) (fun h9 => absurd (show ¬ (if p1 < n ∧ t p1 = 44 then 1 else 0) = (0 : Int32) from h9) (by rw [if_neg hc1]; exact fun zz => zz rfl)) (fun _ => ?_)
      refine lv_iconst (v := 0) gX gB dX4_readTrial_16 (by decide) ?_
      exact gx_zret C hr (by decide) hW ((Or.inl ⟨rfl, p1, v1, by rw [hp1]; exact (if_in hk1 (by rw [← hp1]; exact hc1)), hl1, rfl⟩)) (Nat.le_of_ble_eq_true rfl) (Nat.le_of_ble_eq_true rfl) dX4_readTrial_17
  · refine lv_if_eq (tgt := 16) gX gB dX4_readTrial_4 (by decide) (fun _ => ?_) (fun h9 => absurd (show (if sg_q t n pz < (sg_e t n pz).1 then 1 else 0) = (0 : Int32) from if_neg hk1) h9)
    refine lv_iconst (v := 0) gX gB dX4_readTrial_16 (by decide) ?_
    exact gx_zret C hr (by decide) hW ((Or.inl ⟨rfl, p1, v1, by rw [hp1]; exact (if_neg hk1), hl1, rfl⟩)) (Nat.le_of_ble_eq_true rfl) (Nat.le_of_ble_eq_true rfl) dX4_readTrial_17
