/-! TRIALREADER: readTrials. -/
/-- tests read one after the other, so many places left, i read -/
def ra_at (t : Nat → Nat) (n : Nat) : Nat → Nat → Nat → List rt_T → Nat ⊕ List rt_T
  | 0, _, p, _ => .inl p
  | k + 1, i, p, ds => if 0 < i ∧ ¬ (p < n ∧ t p = 59) then .inl p else
    match rt1 t n (if i = 0 then p else p + 1) with
    | .inl z => .inl z
    | .inr (z, d) => if n ≤ z then .inr (ds ++ [d]) else ra_at t n k (i + 1) z (ds ++ [d])
theorem ra_sep {t : Nat → Nat} {n i p : Nat} {ds : List rt_T} (hi : i < 12) (h0 : 0 < i) (h : ¬ (p < n ∧ t p = 59)) : ra_at t n (12 - i) i p ds = .inl p := by
  rw [show 12 - i = (12 - (i + 1)) + 1 by omega]
  exact if_pos ⟨h0, h⟩
theorem ra_go {t : Nat → Nat} {n i p p0 : Nat} {ds : List rt_T} (hi : i < 12) (hs : (i = 0 ∧ p0 = p) ∨ (0 < i ∧ (p < n ∧ t p = 59) ∧ p0 = p + 1)) : ra_at t n (12 - i) i p ds = (match rt1 t n p0 with
    | .inl z => .inl z
    | .inr (z, d) => if n ≤ z then .inr (ds ++ [d]) else ra_at t n (12 - (i + 1)) (i + 1) z (ds ++ [d])) := by
  rw [show 12 - i = (12 - (i + 1)) + 1 by omega]
  have h1 : ¬ (0 < i ∧ ¬ (p < n ∧ t p = 59)) := by
    rcases hs with ⟨h, -⟩ | ⟨-, h, -⟩
    · exact fun z => absurd z.1 (by omega)
    · exact fun z => z.2 h
  have h2 : (if i = 0 then p else p + 1) = p0 := by
    rcases hs with ⟨h, e⟩ | ⟨h, -, e⟩
    · rw [if_pos h, e]
    · rw [if_neg (by omega), e]
  rw [← h2]
  exact if_neg h1
theorem ra_fail {t : Nat → Nat} {n i p p0 z : Nat} {ds : List rt_T} (hi : i < 12) (hs : (i = 0 ∧ p0 = p) ∨ (0 < i ∧ (p < n ∧ t p = 59) ∧ p0 = p + 1)) (h : rt1 t n p0 = .inl z) : ra_at t n (12 - i) i p ds = .inl z := by
  rw [ra_go hi hs, h]
theorem ra_end {t : Nat → Nat} {n i p p0 z : Nat} {ds : List rt_T} {d : rt_T} (hi : i < 12) (hs : (i = 0 ∧ p0 = p) ∨ (0 < i ∧ (p < n ∧ t p = 59) ∧ p0 = p + 1)) (h : rt1 t n p0 = .inr (z, d)) (hz : n ≤ z) : ra_at t n (12 - i) i p ds = .inr (ds ++ [d]) := by
  rw [ra_go hi hs, h]
  exact if_pos hz
theorem ra_on {t : Nat → Nat} {n i p p0 z : Nat} {ds : List rt_T} {d : rt_T} (hi : i < 12) (hs : (i = 0 ∧ p0 = p) ∨ (0 < i ∧ (p < n ∧ t p = 59) ∧ p0 = p + 1)) (h : rt1 t n p0 = .inr (z, d)) (hz : ¬ n ≤ z) : ra_at t n (12 - i) i p ds = ra_at t n (12 - (i + 1)) (i + 1) z (ds ++ [d]) := by
  rw [ra_go hi hs, h]
  exact if_neg hz
/-- the world of a reader r over an older one: its place, its tests -/
def rw_at (G : gx_T) (L : List Nat) (f : Nat → va_E) (r q X : Nat) (L1 : List Nat) (f1 : Nat → va_E) (p : Nat) (m : Int32) (bq : Option Nat) (ta : List Nat) (ds : List rt_T) : Prop := r ∈ L ∧ q ∈ L ∧ (∀ a ∈ L, a ∈ L1) ∧ (∀ a ∈ L, a ≠ r → a ≠ q → f1 a = f a) ∧ f1 r = .inr (9, [.ref X, .ref q, .int (nI p), .int m]) ∧ ls_at G L1 f1 q bq ta ∧ (∀ b1, bq = some b1 → b1 ∉ L) ∧ ta.length = ds.length ∧ ∀ j (h : j < ta.length), tr_new L L1 f1 ta[j] (tr_d (ds.getD j (0, 0, 0, 0)))
theorem rw_at.up {G : gx_T} {L : List Nat} {f : Nat → va_E} {r q X : Nat} {L1 : List Nat} {f1 : Nat → va_E} {p : Nat} {m : Int32} {bq : Option Nat} {ta : List Nat} {ds : List rt_T} (h : rw_at G L f r q X L1 f1 p m bq ta ds) (p1 : Nat) (m1 : Int32) : rw_at G L f r q X L1 (va_up f1 r (.inr (9, [.ref X, .ref q, .int (nI p1), .int m1]))) p1 m1 bq ta ds := by
  obtain ⟨h1, h2, h3, h4, h5, h6, h7, h8, h9⟩ := h
  have ha := h6.apart h5 (by decide)
  refine ⟨h1, h2, h3, fun a k1 k2 k3 => by rw [va_up_ne _ _ k2]; exact h4 a k1 k2 k3, va_up_self _ _ _, h6.kept (fun _ h => h) (va_up_ne _ _ ha.1.symm) (fun b9 k9 => va_up_ne _ _ (fun zz => ha.2 (by rw [← zz, k9]))), h7, h8, fun j hj => (h9 j hj).stay (fun _ h => h) (fun z hz ci vs e1 e2 => va_up_ne _ _ (gx_ne e1 h5 (by intro e3; injection e3 with e3; injection e3 with e3; rcases e2 with e2 | e2 <;> (rw [e2] at e3; exact absurd e3 (by decide)))))⟩
theorem rw_at.grow {G : gx_T} {L : List Nat} {f : Nat → va_E} {r q X : Nat} {L1 : List Nat} {f1 : Nat → va_E} {p : Nat} {m : Int32} {bq : Option Nat} {ta : List Nat} {ds : List rt_T} (h0 : rw_at G L f r q X L1 f1 p m bq ta ds) {p1 : Nat} {m1 : Int32} {v : Nat} {L2 : List Nat} {f2 : Nat → va_E} {b2 : Nat} {dd : rt_T} (hg : cs_grown G L1 (va_up f1 r (.inr (9, [.ref X, .ref q, .int (nI p1), .int m1]))) q bq ta v L2 f2 b2) (hv : tr_new L1 L2 f2 v (tr_d dd)) : rw_at G L f r q X L2 f2 p1 m1 (some b2) (ta ++ [v]) (ds ++ [dd]) := by
  obtain ⟨h1, h2, h3, h4, h5, h6, h7, h8, h9⟩ := h0.up p1 m1
  obtain ⟨g1, g2, g3, g4, g5⟩ := hg
  have ha := h6.apart h5 (by decide)
  refine ⟨h1, h2, fun a k => g4 a (h3 a k), fun a k1 k2 k3 => ?_, ?_, g1, fun b1 e1 => ?_, by rw [List.length_append, List.length_append, h8]; rfl, fun j hj => ?_⟩
  · rw [g5 a (h3 a k1) k3 (fun z => h7 a z.symm k1)]
    exact h4 a k1 k2 k3
  · rw [g5 r (h3 r h1) ha.1 ha.2]
    exact h5
  · injection e1 with e1
    rw [← e1]
    rcases g3 with g3 | g3
    · exact h7 b2 g3
    · exact fun z => g3 (h3 _ z)
  · rcases Nat.lt_or_ge j ta.length with k | k
    · rw [List.getElem_append_left k, List.getD_eq_getElem?_getD, List.getElem?_append_left (by rw [← h8]; exact k), ← List.getD_eq_getElem?_getD]
      refine (h9 j k).stay g4 (fun z hz ci vs e1 e2 => ?_)
      have hb := h6.apart e1 (by omega)
      exact g5 z hz hb.1 hb.2
    · have e : j = ta.length := by rw [List.length_append, List.length_singleton] at hj; omega
      subst e
      rw [List.getElem_append_right k, List.getD_eq_getElem?_getD, List.getElem?_append_right (by omega)]
      have e2 : ta.length - ds.length = 0 := by omega
      simp only [Nat.sub_self, e2, List.getElem_cons_zero, List.getElem?_cons_zero, Option.getD_some]
      exact hv.old h3
theorem rw_at.tb {G : gx_T} {L : List Nat} {f : Nat → va_E} {r q X : Nat} {L1 : List Nat} {f1 : Nat → va_E} {p : Nat} {m : Int32} {bq : Option Nat} {ta : List Nat} {ds : List rt_T} (h : rw_at G L f r q X L1 f1 p m bq ta ds) {vr vq : List Value} (hr : f r = .inr (9, vr)) (hq : f q = .inr (4, vq)) {b cap n : Nat} {t : Nat → Nat} (hX : tb_at G L f X b cap n t) : tb_at G L1 f1 X b cap n t := by
  obtain ⟨h1, h2, h3, h4, -⟩ := h
  refine hX.kept h3 (h4 _ hX.1 ?_ ?_) (h4 _ hX.2.1 ?_ ?_)
  all_goals obtain ⟨-, -, ml, g, k3, k4, -⟩ := hX
  · exact gx_ne k3 hr (by simp)
  · exact gx_ne k3 hq (by simp)
  · exact gx_ne k4 hr (by simp)
  · exact gx_ne k4 hq (by simp)
set_option maxHeartbeats 4000000 in
set_option maxRecDepth 100000 in
theorem kX4_readTrials (l : Launch) (G : gx_T) (L : List Nat) (f : Nat → va_E) (r X q b cap n pz : Nat) (t : Nat → Nat) (mn : Int32) (hr9 : r ∈ L) (fr9 : f r = .inr (9, [.ref X, .ref q, .int (nI pz), .int mn])) (hX : tb_at G L f X b cap n t) (hn2 : n ≤ 200) (hp9 : pz ≤ n) (hlq : ls_at G L f q none []) : gx_M l G yX4_readTrials cX4_readTrials 2 (some .boolean) ({ frames := 8, cells := 36, slots := 384, locals := 230 } : Room) [.ref r] (va_pl L f) (fun v u => ∃ (L1 : List Nat) (f1 : Nat → va_E) (pq : Nat) (mq : Int32) (bq : Option Nat) (ta : List Nat) (ds : List rt_T), u = va_pl L1 f1 ∧ rw_at G L f r q X L1 f1 pq mq bq ta ds ∧ ((v = some (.int 0) ∧ ra_at t n 12 0 pz [] = .inl pq ∧ pq ≤ n) ∨ (v = some (.int 1) ∧ ra_at t n 12 0 pz [] = .inr ds))) := by
  obtain ⟨mcq, rq, fq⟩ := hlq.head
  refine gx_start (by decide +kernel) (Nat.le_of_ble_eq_true rfl) ?_
  intro p e s m args below meth c A ls C hr hnm hW hl
  have gX := C.x
  have gB := C.b
  have hl : lv_has ls 2 [(0, .ref r)] := hl
  refine lv_iconst (v := 0) gX gB dX4_readTrials_0 (by decide) ?_
  refine lv_istore_n (lv' := [(1, .int 0), (0, .ref r)]) gX gB dX4_readTrials_1 rfl hl (by decide) rfl (fun ls hl => ?_)
  have hl : lv_has ls 2 [(1, .int (nI 0)), (0, .ref r)] := hl
  have loop : ∀ (fu : Nat) (i p1 : Nat) (m1 : Int32) (bq1 : Option Nat) (ta1 : List Nat) (ds : List rt_T) (L1 : List Nat) (f1 : Nat → va_E), (12 - i < fu) → (i ≤ 12) → (p1 ≤ n) → (rw_at G L f r q X L1 f1 p1 m1 bq1 ta1 ds) → (ds.length = i) → (ra_at t n (12 - i) i p1 ds = ra_at t n 12 0 pz []) → ∀ (H : Heap) (locs : List Loc), gx_W G A s (va_pl L1 f1) H locs → ∀ ls : Array Slot, lv_has ls 2 [(1, .int (nI i)), (0, .ref r)] → W p l e ({ frames := 8, cells := 36, slots := 384, locals := 230 } : Room) s m args below meth c H locs (3 * i) (32 * i) (MQ below (gx_Q G A (fun v u => ∃ (L1 : List Nat) (f1 : Nat → va_E) (pq : Nat) (mq : Int32) (bq : Option Nat) (ta : List Nat) (ds : List rt_T), u = va_pl L1 f1 ∧ rw_at G L f r q X L1 f1 pq mq bq ta ds ∧ ((v = some (.int 0) ∧ ra_at t n 12 0 pz [] = .inl pq ∧ pq ≤ n) ∨ (v = some (.int 1) ∧ ra_at t n 12 0 pz [] = .inr ds)))) args s (({ frames := 8, cells := 36, slots := 384, locals := 230 } : Room)).cells (({ frames := 8, cells := 36, slots := 384, locals := 230 } : Room)).slots A) (F0 m 2 ls []) := by
    intro fu
    induction fu with
    | zero => intro i p1 m1 bq1 ta1 ds L1 f1 hfu hi hp1 hw hds hR H locs hW ls hl; exact absurd hfu (Nat.not_lt_zero _)
    | succ fu ih =>
      intro i p1 m1 bq1 ta1 ds L1 f1 hfu hi hp1 hw hds hR H locs hW ls hl
      rcases (by omega : i = 12 ∨ (i < 12 ∧ i = 0) ∨ (i < 12 ∧ 0 < i)) with hi12 | ⟨hi12, hi0⟩ | ⟨hi12, hi0⟩
      rotate_left 1
      · have hs : (i = 0 ∧ p1 = p1) ∨ (0 < i ∧ (p1 < n ∧ t p1 = 59) ∧ p1 = p1 + 1) := Or.inl ⟨hi0, rfl⟩
        refine lv_iload_n gX gB dX4_readTrials_2 rfl (lv_at hl 0 rfl) ?_
        refine lv_bipush (v := 12) gX gB dX4_readTrials_3 (by decide) ?_
        refine lv_icmp_ge (tgt := 54) gX gB dX4_readTrials_5 (by decide) (fun h9 => absurd (show (12 : Int32) ≤ (nI i) from h9) (fun zz => absurd ((nI_leI (a := 12) (b := i) (by decide) (by omega)).mp zz) (by omega))) (fun _ => ?_)
        refine lv_iload_n gX gB dX4_readTrials_8 rfl (lv_at hl 0 rfl) ?_
        refine lv_if_le (tgt := 23) gX gB dX4_readTrials_9 (by decide) (fun _ => ?_) (fun h9 => absurd (show (nI i) ≤ (0 : Int32) from by rw [hi0]; decide) h9)
        refine lv_aload_n gX gB dX4_readTrials_23 rfl (lv_at hl 1 rfl) ?_
        refine gx_callV (wr := []) (rest := []) C hW sX4_33 (kX4_readTrial l G L1 f1 r X q b cap n p1 t m1 (hw.2.2.1 r hr9) hw.2.2.2.2.1 (hw.tb fr9 fq hX) hn2 hp1 bq1 ta1 (fun j => tr_d (ds.getD j (0, 0, 0, 0))) hw.2.2.2.2.2.1 (fun j hj => (hw.2.2.2.2.2.2.2.2 j hj).is) (by have := hw.2.2.2.2.2.2.2.1; omega)) (gx_pl (hw.2.2.1 r hr9) hw.2.2.2.2.1) rfl rfl ⟨(by first | exact Nat.le_of_ble_eq_true rfl | (dsimp only; omega) | omega), (by first | exact Nat.le_of_ble_eq_true rfl | (dsimp only; omega) | omega)⟩ hl.1 rfl (Nat.le_of_ble_eq_true rfl) dX4_readTrials_24 ⟨(by first | exact Nat.le_of_ble_eq_true rfl | (dsimp only; omega) | omega), (by first | exact Nat.le_of_ble_eq_true rfl | (dsimp only; omega) | omega)⟩ (fun v9 u9 H locs hp => ?_)
        rcases hp with ⟨rfl, pq, mq, hrt, hpq, rfl⟩ | ⟨rfl, pq, mq, dd, L2, f2, b2, t9, hrt, hpq, rfl, hgr, htn⟩
        · intro hW
          have hW : gx_W G A s (va_pl L1 (va_up f1 r (.inr (9, [.ref X, .ref q, .int (nI pq), .int mq])))) H locs := hW
          refine W.eq (g2 := F0 m 27 ls [.int 0]) rfl ?_
          have hw4 := hw.up pq mq
          refine W.widen (k := 3 * i + 3) (n := 32 * i + 32) (by first | exact Nat.le_of_ble_eq_true rfl | (dsimp only; omega) | omega) (by first | exact Nat.le_of_ble_eq_true rfl | (dsimp only; omega) | omega) ?_
          refine lv_if_ne (tgt := 32) gX gB dX4_readTrials_27 (by decide) (fun h9 => absurd (show ¬ 0 = (0 : Int32) from h9) (by decide)) (fun _ => ?_)
          refine lv_iconst (v := 0) gX gB dX4_readTrials_30 (by decide) ?_
          exact gx_zret C hr (by decide) hW (⟨_, _, pq, mq, bq1, ta1, ds, rfl, hw4, Or.inl ⟨rfl, hR.symm.trans (ra_fail hi12 hs hrt), hpq⟩⟩) (by first | exact Nat.le_of_ble_eq_true rfl | (dsimp only; omega) | omega) (by first | exact Nat.le_of_ble_eq_true rfl | (dsimp only; omega) | omega) dX4_readTrials_31
        · intro hW
          have hW : gx_W G A s (va_pl L2 f2) H locs := hW
          refine W.eq (g2 := F0 m 27 ls [.int 1]) rfl ?_
          have hw5 := hw.grow hgr htn
          refine W.widen (k := 3 * i + 3) (n := 32 * i + 32) (by first | exact Nat.le_of_ble_eq_true rfl | (dsimp only; omega) | omega) (by first | exact Nat.le_of_ble_eq_true rfl | (dsimp only; omega) | omega) ?_
          refine lv_if_ne (tgt := 32) gX gB dX4_readTrials_27 (by decide) (fun _ => ?_) (fun h9 => absurd h9 (show ¬ 1 = (0 : Int32) from by decide))
          refine lv_aload_n gX gB dX4_readTrials_32 rfl (lv_at hl 1 rfl) ?_
          refine gx_get C hW fX4_22 (gx_pl (hw5.2.2.1 r hr9) hw5.2.2.2.2.1) rfl dX4_readTrials_33 ?_
          refine lv_aload_n gX gB dX4_readTrials_36 rfl (lv_at hl 1 rfl) ?_
          refine gx_get C hW fX4_9 (gx_pl (hw5.2.2.1 r hr9) hw5.2.2.2.2.1) rfl dX4_readTrials_37 ?_
          refine gx_callV (wr := []) (rest := [.int (nI pq)]) C hW sX4_37 (kS_length l G L2 f2 X b cap n t (hw5.tb fr9 fq hX)) (gx_pl (hw5.tb fr9 fq hX).1 (hw5.tb fr9 fq hX).2.2.choose_spec.choose_spec.1) rfl rfl ⟨(by first | exact Nat.le_of_ble_eq_true rfl | (dsimp only; omega) | omega), (by first | exact Nat.le_of_ble_eq_true rfl | (dsimp only; omega) | omega)⟩ hl.1 rfl (Nat.le_of_ble_eq_true rfl) dX4_readTrials_40 ⟨(by first | exact Nat.le_of_ble_eq_true rfl | (dsimp only; omega) | omega), (by first | exact Nat.le_of_ble_eq_true rfl | (dsimp only; omega) | omega)⟩ (fun v9 u9 H locs hp hW => ?_)
          obtain ⟨rfl, hu⟩ := hp
          rw [hu] at hW
          have hW : gx_W G A s (va_pl L2 f2) H locs := hW
          refine W.eq (g2 := F0 m 43 ls [.int (nI n), .int (nI pq)]) rfl ?_
          refine W.widen (k := 3 * i + 3 + 0) (n := 32 * i + 32 + 0) (by first | exact Nat.le_of_ble_eq_true rfl | (dsimp only; omega) | omega) (by first | exact Nat.le_of_ble_eq_true rfl | (dsimp only; omega) | omega) ?_
          rcases Classical.em (n ≤ pq) with hnz | hnz
          · refine lv_icmp_lt (tgt := 48) gX gB dX4_readTrials_43 (by decide) (fun h9 => absurd (show (nI pq) < (nI n) from h9) (nI_nlt hnz (by omega))) (fun _ => ?_)
            refine lv_iconst (v := 1) gX gB dX4_readTrials_46 (by decide) ?_
            exact gx_zret C hr (by decide) hW (⟨L2, f2, pq, mq, some b2, _, ds ++ [dd], rfl, hw5, Or.inr ⟨rfl, hR.symm.trans (ra_end hi12 hs hrt hnz)⟩⟩) (by first | exact Nat.le_of_ble_eq_true rfl | (dsimp only; omega) | omega) (by first | exact Nat.le_of_ble_eq_true rfl | (dsimp only; omega) | omega) dX4_readTrials_47
          · refine lv_icmp_lt (tgt := 48) gX gB dX4_readTrials_43 (by decide) (fun _ => ?_) (fun h9 => absurd (show (nI pq) < (nI n) from (nI_ltI (by omega) (by omega)).mpr (by omega)) h9)
            refine lv_iinc (v := nI (i + 1)) (lv' := [(1, .int (nI (i + 1))), (0, .ref r)]) gX gB dX4_readTrials_48 hl (k := 0) rfl (by exact nI_1 i) (by decide) rfl (fun ls hl => ?_)
            refine lv_goto (tgt := 2) gX gB dX4_readTrials_51 (by decide) ?_
            refine W.widen (k := 3 * (i + 1)) (n := 32 * (i + 1)) (by omega) (by omega) ?_
            exact ih (i + 1) pq mq (some b2) (ta1 ++ [t9]) (ds ++ [dd]) L2 f2 (by omega) (by omega) hpq hw5 (by rw [List.length_append, hds]; rfl) ((ra_on hi12 hs hrt hnz).symm.trans hR) _ _ hW ls (lv_sub hl [0, 1] rfl)
      · refine lv_iload_n gX gB dX4_readTrials_2 rfl (lv_at hl 0 rfl) ?_
        refine lv_bipush (v := 12) gX gB dX4_readTrials_3 (by decide) ?_
        refine lv_icmp_ge (tgt := 54) gX gB dX4_readTrials_5 (by decide) (fun h9 => absurd (show (12 : Int32) ≤ (nI i) from h9) (fun zz => absurd ((nI_leI (a := 12) (b := i) (by decide) (by omega)).mp zz) (by omega))) (fun _ => ?_)
        refine lv_iload_n gX gB dX4_readTrials_8 rfl (lv_at hl 0 rfl) ?_
        refine lv_if_le (tgt := 23) gX gB dX4_readTrials_9 (by decide) (fun h9 => absurd (show (nI i) ≤ (0 : Int32) from h9) (fun zz => absurd ((nI_leI (a := i) (b := 0) (by omega) (by decide)).mp zz) (by omega))) (fun _ => ?_)
        refine lv_aload_n gX gB dX4_readTrials_12 rfl (lv_at hl 1 rfl) ?_
        refine lv_bipush (v := 59) gX gB dX4_readTrials_13 (by decide) ?_
        refine gx_callV (wr := []) (rest := []) C hW sX4_29 (kX4_skip l G L1 f1 r X q b cap n p1 t m1 (hw.2.2.1 r hr9) hw.2.2.2.2.1 (hw.tb fr9 fq hX) hn2 hp1 59 59 rfl (by decide)) (gx_pl (hw.2.2.1 r hr9) hw.2.2.2.2.1) rfl rfl ⟨(by first | exact Nat.le_of_ble_eq_true rfl | (dsimp only; omega) | omega), (by first | exact Nat.le_of_ble_eq_true rfl | (dsimp only; omega) | omega)⟩ hl.1 rfl (Nat.le_of_ble_eq_true rfl) dX4_readTrials_15 ⟨(by first | exact Nat.le_of_ble_eq_true rfl | (dsimp only; omega) | omega), (by first | exact Nat.le_of_ble_eq_true rfl | (dsimp only; omega) | omega)⟩ (fun v9 u9 H locs hp hW => ?_)
        obtain ⟨rfl, hu⟩ := hp
        rw [hu] at hW
        have hW : gx_W G A s (va_pl L1 (va_up f1 r (.inr (9, [.ref X, .ref q, .int (nI (sk_p t n p1 59)), .int m1])))) H locs := hW
        refine W.eq (g2 := F0 m 18 ls [.int (if p1 < n ∧ t p1 = 59 then 1 else 0)]) rfl ?_
        refine W.widen (k := 3 * i + 0) (n := 32 * i + 0) (by first | exact Nat.le_of_ble_eq_true rfl | (dsimp only; omega) | omega) (by first | exact Nat.le_of_ble_eq_true rfl | (dsimp only; omega) | omega) ?_
        rcases Classical.em (p1 < n ∧ t p1 = 59) with hsc | hsc
        · rw [show sk_p t n p1 59 = p1 + 1 from if_pos hsc] at hW
          have hw2 := hw.up (p1 + 1) m1
          obtain ⟨f3, hf3⟩ : ∃ zz, zz = va_up f1 r (.inr (9, [.ref X, .ref q, .int (nI (p1 + 1)), .int m1])) := ⟨_, rfl⟩
          rw [← hf3] at hW hw2
          have hs : (i = 0 ∧ p1 + 1 = p1) ∨ (0 < i ∧ (p1 < n ∧ t p1 = 59) ∧ p1 + 1 = p1 + 1) := Or.inr ⟨hi0, hsc, rfl⟩
          have hW : gx_W G A s (va_pl L1 f3) H locs := hW
          refine lv_if_ne (tgt := 23) gX gB dX4_readTrials_18 (by decide) (fun _ => ?_) (fun h9 => absurd h9 (show ¬ (if p1 < n ∧ t p1 = 59 then 1 else 0) = (0 : Int32) from by rw [if_pos hsc]; decide))
          refine lv_aload_n gX gB dX4_readTrials_23 rfl (lv_at hl 1 rfl) ?_
          refine gx_callV (wr := []) (rest := []) C hW sX4_33 (kX4_readTrial l G L1 f3 r X q b cap n (p1 + 1) t m1 (hw2.2.2.1 r hr9) hw2.2.2.2.2.1 (hw2.tb fr9 fq hX) hn2 hsc.1 bq1 ta1 (fun j => tr_d (ds.getD j (0, 0, 0, 0))) hw2.2.2.2.2.2.1 (fun j hj => (hw2.2.2.2.2.2.2.2.2 j hj).is) (by have := hw2.2.2.2.2.2.2.2.1; omega)) (gx_pl (hw2.2.2.1 r hr9) hw2.2.2.2.2.1) rfl rfl ⟨(by first | exact Nat.le_of_ble_eq_true rfl | (dsimp only; omega) | omega), (by first | exact Nat.le_of_ble_eq_true rfl | (dsimp only; omega) | omega)⟩ hl.1 rfl (Nat.le_of_ble_eq_true rfl) dX4_readTrials_24 ⟨(by first | exact Nat.le_of_ble_eq_true rfl | (dsimp only; omega) | omega), (by first | exact Nat.le_of_ble_eq_true rfl | (dsimp only; omega) | omega)⟩ (fun v9 u9 H locs hp => ?_)
          rcases hp with ⟨rfl, pq, mq, hrt, hpq, rfl⟩ | ⟨rfl, pq, mq, dd, L2, f2, b2, t9, hrt, hpq, rfl, hgr, htn⟩
          · intro hW
            have hW : gx_W G A s (va_pl L1 (va_up f3 r (.inr (9, [.ref X, .ref q, .int (nI pq), .int mq])))) H locs := hW
            refine W.eq (g2 := F0 m 27 ls [.int 0]) rfl ?_
            have hw4 := hw2.up pq mq
            refine W.widen (k := 3 * i + 0 + 3) (n := 32 * i + 0 + 32) (by first | exact Nat.le_of_ble_eq_true rfl | (dsimp only; omega) | omega) (by first | exact Nat.le_of_ble_eq_true rfl | (dsimp only; omega) | omega) ?_
            refine lv_if_ne (tgt := 32) gX gB dX4_readTrials_27 (by decide) (fun h9 => absurd (show ¬ 0 = (0 : Int32) from h9) (by decide)) (fun _ => ?_)
            refine lv_iconst (v := 0) gX gB dX4_readTrials_30 (by decide) ?_
            exact gx_zret C hr (by decide) hW (⟨_, _, pq, mq, bq1, ta1, ds, rfl, hw4, Or.inl ⟨rfl, hR.symm.trans (ra_fail hi12 hs hrt), hpq⟩⟩) (by first | exact Nat.le_of_ble_eq_true rfl | (dsimp only; omega) | omega) (by first | exact Nat.le_of_ble_eq_true rfl | (dsimp only; omega) | omega) dX4_readTrials_31
          · intro hW
            have hW : gx_W G A s (va_pl L2 f2) H locs := hW
            refine W.eq (g2 := F0 m 27 ls [.int 1]) rfl ?_
            have hw5 := hw2.grow hgr htn
            refine W.widen (k := 3 * i + 0 + 3) (n := 32 * i + 0 + 32) (by first | exact Nat.le_of_ble_eq_true rfl | (dsimp only; omega) | omega) (by first | exact Nat.le_of_ble_eq_true rfl | (dsimp only; omega) | omega) ?_
            refine lv_if_ne (tgt := 32) gX gB dX4_readTrials_27 (by decide) (fun _ => ?_) (fun h9 => absurd h9 (show ¬ 1 = (0 : Int32) from by decide))
            refine lv_aload_n gX gB dX4_readTrials_32 rfl (lv_at hl 1 rfl) ?_
            refine gx_get C hW fX4_22 (gx_pl (hw5.2.2.1 r hr9) hw5.2.2.2.2.1) rfl dX4_readTrials_33 ?_
            refine lv_aload_n gX gB dX4_readTrials_36 rfl (lv_at hl 1 rfl) ?_
            refine gx_get C hW fX4_9 (gx_pl (hw5.2.2.1 r hr9) hw5.2.2.2.2.1) rfl dX4_readTrials_37 ?_
            refine gx_callV (wr := []) (rest := [.int (nI pq)]) C hW sX4_37 (kS_length l G L2 f2 X b cap n t (hw5.tb fr9 fq hX)) (gx_pl (hw5.tb fr9 fq hX).1 (hw5.tb fr9 fq hX).2.2.choose_spec.choose_spec.1) rfl rfl ⟨(by first | exact Nat.le_of_ble_eq_true rfl | (dsimp only; omega) | omega), (by first | exact Nat.le_of_ble_eq_true rfl | (dsimp only; omega) | omega)⟩ hl.1 rfl (Nat.le_of_ble_eq_true rfl) dX4_readTrials_40 ⟨(by first | exact Nat.le_of_ble_eq_true rfl | (dsimp only; omega) | omega), (by first | exact Nat.le_of_ble_eq_true rfl | (dsimp only; omega) | omega)⟩ (fun v9 u9 H locs hp hW => ?_)
            obtain ⟨rfl, hu⟩ := hp
            rw [hu] at hW
            have hW : gx_W G A s (va_pl L2 f2) H locs := hW
            refine W.eq (g2 := F0 m 43 ls [.int (nI n), .int (nI pq)]) rfl ?_
            refine W.widen (k := 3 * i + 0 + 3 + 0) (n := 32 * i + 0 + 32 + 0) (by first | exact Nat.le_of_ble_eq_true rfl | (dsimp only; omega) | omega) (by first | exact Nat.le_of_ble_eq_true rfl | (dsimp only; omega) | omega) ?_
            rcases Classical.em (n ≤ pq) with hnz | hnz
            · refine lv_icmp_lt (tgt := 48) gX gB dX4_readTrials_43 (by decide) (fun h9 => absurd (show (nI pq) < (nI n) from h9) (nI_nlt hnz (by omega))) (fun _ => ?_)
              refine lv_iconst (v := 1) gX gB dX4_readTrials_46 (by decide) ?_
              exact gx_zret C hr (by decide) hW (⟨L2, f2, pq, mq, some b2, _, ds ++ [dd], rfl, hw5, Or.inr ⟨rfl, hR.symm.trans (ra_end hi12 hs hrt hnz)⟩⟩) (by first | exact Nat.le_of_ble_eq_true rfl | (dsimp only; omega) | omega) (by first | exact Nat.le_of_ble_eq_true rfl | (dsimp only; omega) | omega) dX4_readTrials_47
            · refine lv_icmp_lt (tgt := 48) gX gB dX4_readTrials_43 (by decide) (fun _ => ?_) (fun h9 => absurd (show (nI pq) < (nI n) from (nI_ltI (by omega) (by omega)).mpr (by omega)) h9)
              refine lv_iinc (v := nI (i + 1)) (lv' := [(1, .int (nI (i + 1))), (0, .ref r)]) gX gB dX4_readTrials_48 hl (k := 0) rfl (by exact nI_1 i) (by decide) rfl (fun ls hl => ?_)
              refine lv_goto (tgt := 2) gX gB dX4_readTrials_51 (by decide) ?_
              refine W.widen (k := 3 * (i + 1)) (n := 32 * (i + 1)) (by omega) (by omega) ?_
              exact ih (i + 1) pq mq (some b2) (ta1 ++ [t9]) (ds ++ [dd]) L2 f2 (by omega) (by omega) hpq hw5 (by rw [List.length_append, hds]; rfl) ((ra_on hi12 hs hrt hnz).symm.trans hR) _ _ hW ls (lv_sub hl [0, 1] rfl)
        · rw [show sk_p t n p1 59 = p1 from if_neg hsc] at hW
          have hw2 := hw.up p1 m1
          refine lv_if_ne (tgt := 23) gX gB dX4_readTrials_18 (by decide) (fun h9 => absurd (show ¬ (if p1 < n ∧ t p1 = 59 then 1 else 0) = (0 : Int32) from h9) (by rw [if_neg hsc]; exact fun zz => zz rfl)) (fun _ => ?_)
          refine lv_iconst (v := 0) gX gB dX4_readTrials_21 (by decide) ?_
          exact gx_zret C hr (by decide) hW (⟨L1, _, p1, m1, bq1, ta1, ds, rfl, hw2, Or.inl ⟨rfl, hR.symm.trans (ra_sep hi12 hi0 hsc), hp1⟩⟩) (by first | exact Nat.le_of_ble_eq_true rfl | (dsimp only; omega) | omega) (by first | exact Nat.le_of_ble_eq_true rfl | (dsimp only; omega) | omega) dX4_readTrials_22
      · refine lv_iload_n gX gB dX4_readTrials_2 rfl (lv_at hl 0 rfl) ?_
        refine lv_bipush (v := 12) gX gB dX4_readTrials_3 (by decide) ?_
        refine lv_icmp_ge (tgt := 54) gX gB dX4_readTrials_5 (by decide) (fun _ => ?_) (fun h9 => absurd (show (12 : Int32) ≤ (nI i) from (nI_leI (a := 12) (b := i) (by decide) (by omega)).mpr (by omega)) h9)
        refine lv_iconst (v := 0) gX gB dX4_readTrials_54 (by decide) ?_
        exact gx_zret C hr (by decide) hW (⟨L1, f1, p1, m1, bq1, ta1, ds, rfl, hw, Or.inl ⟨rfl, hR.symm.trans (by rw [show 12 - i = 0 by omega]; rfl), hp1⟩⟩) (by first | exact Nat.le_of_ble_eq_true rfl | (dsimp only; omega) | omega) (by first | exact Nat.le_of_ble_eq_true rfl | (dsimp only; omega) | omega) dX4_readTrials_55
  exact loop 13 0 pz mn none [] [] L f (by omega) (by omega) hp9 ⟨hr9, hlq.1, fun _ h => h, fun _ _ _ _ => rfl, fr9, hlq, fun _ h => (nomatch h), rfl, fun _ h => absurd h (Nat.not_lt_zero _)⟩ rfl rfl _ _ hW ls (lv_sub hl [0, 1] rfl)
