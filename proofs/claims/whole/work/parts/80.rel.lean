/-! THE RELATION of the class's world and the reference's. -/
def ro_ne (b1 b2 : Option Nat) : Prop := ∀ z, b1 = some z → ¬ b2 = some z
/-- a part, as the reference keeps it and as the class does -/
def pr_ok (px py pz gr ou : Nat → Int64) (od : Nat → Int32) (dn i : Nat) (d : ld_T) : Prop := d.1 = px i ∧ d.2.1 = py i ∧ d.2.2.1 = pz i ∧ d.2.2.2.1 = gr i ∧ d.2.2.2.2.2 = ou i ∧ w_bd (px i) ∧ w_bd (py i) ∧ w_bd (pz i) ∧ gm_ok (gr i) ∧ ((d.2.2.2.2.1 = -1 ∧ ou i = 0 ∧ ∀ j, j < dn → ¬ od j = nI i) ∨ ∃ q, q < dn ∧ d.2.2.2.2.1 = nI q ∧ od q = nI i ∧ 0 < ou i ∧ ∀ j, j < dn → od j = nI i → j = q)
def rl_at (G : gx_T) (L : List Nat) (f : Nat → va_E) (x : Nat) (P F S X N T E : Nat) (dn : Nat) (bP : Option Nat) (pa : List Nat) (ps : Nat → ld_T) (bF : Option Nat) (fa : List Nat) (fd : Nat → ft_T) (bS : Option Nat) (sa : List Nat) (sd : Nat → sd_T) (b cap n : Nat) (t : Nat → Nat) (bT : Option Nat) (ta : List Nat) (ds : List rt_T) (ex ey eg : Int64) (cn : Nat) (cf : Nat → Nat) (px py pz gr ou fx fy : Nat → Int64) (od cr ty to_ : Nat → Int32) : Prop := (x ∈ L) ∧ (f x = .inr (10, [.ref P, .ref F, .ref S, .ref X, .ref N, .ref T, .ref E, .int (nI dn)])) ∧ (ls_at G L f P bP pa) ∧ (ls_at G L f F bF fa) ∧ (ls_at G L f S bS sa) ∧ (ls_at G L f T bT ta) ∧ (tb_at G L f X b cap n t) ∧ (ld_is L f N (0, 0, 0, 0, -1, 0)) ∧ (ld_is L f E (ex, ey, 0, eg, -1, 0)) ∧ (∀ i (h : i < pa.length), ld_is L f pa[i] (ps i)) ∧ (∀ i (h : i < fa.length), ft_is L f fa[i] (nI i) (fd i)) ∧ (∀ j (h : j < sa.length), sd_is L f sa[j] (sd j)) ∧ (∀ j (h : j < ta.length), tr_new pa L f ta[j] (tr_d (ds.getD j (0, 0, 0, 0)))) ∧ (P ≠ F) ∧ (P ≠ S) ∧ (P ≠ T) ∧ (F ≠ S) ∧ (F ≠ T) ∧ (S ≠ T) ∧ (ro_ne bP bF) ∧ (ro_ne bP bS) ∧ (ro_ne bP bT) ∧ (ro_ne bF bS) ∧ (ro_ne bF bT) ∧ (ro_ne bS bT) ∧ (pa.Nodup) ∧ (N ∉ pa) ∧ (E ∉ pa) ∧ (pa.length ≤ 16) ∧ (fa.length ≤ 12) ∧ (ta.length ≤ 12) ∧ (ta.length = ds.length) ∧ (n ≤ 200) ∧ (dn ≤ 8) ∧ (cn ≤ 12) ∧ (sa.length = sn_of cn) ∧ (∀ i, i < pa.length → pr_ok px py pz gr ou od dn i (ps i)) ∧ (∀ i, pa.length ≤ i → i < 16 → ou i = 0) ∧ (∀ j, j < dn → ∃ i, i < pa.length ∧ od j = nI i) ∧ (∀ i, i < fa.length → fd i = (fx i, fy i) ∧ w_bd (fx i) ∧ w_bd (fy i)) ∧ (w_bd ex ∧ w_bd ey ∧ gm_ok eg) ∧ (∀ i, i < n → ty i = nI (t i)) ∧ (tl_is ds to_) ∧ (∀ j, j < ds.length → ∃ d, (ds.getD j (0, 0, 0, 0)).2.2.2 = nI d ∧ d < 2 ^ 31) ∧ (∀ i, i < cn → cr i = nI (cf i) ∧ cf i < fa.length) ∧ (∀ j, j < sa.length → sd j = (nI (cf j), fd (cf j), fd (cf (nxt cn j))))
/-- objects of the class's own small classes stay as they are -/
def ob_kept (L : List Nat) (f : Nat → va_E) (L1 : List Nat) (f1 : Nat → va_E) : Prop := (∀ a ∈ L, a ∈ L1) ∧ ∀ a ∈ L, ∀ (ci : Nat) (vs : List Value), f a = .inr (ci, vs) → 5 ≤ ci → ci ≤ 8 → f1 a = f a
theorem ld_is.ob {L : List Nat} {f : Nat → va_E} {L1 : List Nat} {f1 : Nat → va_E} (k : ob_kept L f L1 f1) {a : Nat} {d : ld_T} (h : ld_is L f a d) : ld_is L1 f1 a d := h.kept (k.1 a h.1) (k.2 a h.1 _ _ h.2 (by decide) (by decide))
theorem ft_is.ob {L : List Nat} {f : Nat → va_E} {L1 : List Nat} {f1 : Nat → va_E} (k : ob_kept L f L1 f1) {a : Nat} {n : Int32} {d : ft_T} (h : ft_is L f a n d) : ft_is L1 f1 a n d := h.kept (k.1 a h.1) (k.2 a h.1 _ _ h.2 (by decide) (by decide))
theorem sd_is.ob {L : List Nat} {f : Nat → va_E} {L1 : List Nat} {f1 : Nat → va_E} (k : ob_kept L f L1 f1) {a : Nat} {d : sd_T} (h : sd_is L f a d) : sd_is L1 f1 a d := by
  obtain ⟨u, v, n2, h1, h2, h3, h4⟩ := h
  exact ⟨u, v, n2, k.1 a h1, by rw [k.2 a h1 _ _ h2 (by decide) (by decide)]; exact h2, h3.ob k, h4.ob k⟩
theorem tr_new.ob {L0 L : List Nat} {f : Nat → va_E} {L1 : List Nat} {f1 : Nat → va_E} (k : ob_kept L f L1 f1) {a : Nat} {d : ld_T × Int32} (h : tr_new L0 L f a d) : tr_new L0 L1 f1 a d := h.stay k.1 (fun z hz ci vs e1 e2 => k.2 z hz ci vs e1 (by omega) (by omega))
/-- a list that another one's growing leaves alone -/
theorem ls_at.by {G : gx_T} {L : List Nat} {f : Nat → va_E} {q : Nat} {b : Option Nat} {xs : List Nat} (h : ls_at G L f q b xs) {L1 : List Nat} {f1 : Nat → va_E} (hL : ∀ a ∈ L, a ∈ L1) {q2 : Nat} {b2 : Option Nat} {xs2 : List Nat} (h2 : ls_at G L f q2 b2 xs2) (hf : ∀ a ∈ L, a ≠ q2 → some a ≠ b2 → f1 a = f a) (hq : q ≠ q2) (hr : ro_ne b b2) : ls_at G L1 f1 q b xs := by
  obtain ⟨mc, r, e⟩ := h.head
  refine h.kept hL (hf q h.1 hq (h2.obj e)) (fun b9 h9 => hf b9 (h.row b9 h9) (fun z => ?_) (fun z => hr b9 h9 z.symm))
  obtain ⟨mc2, r2, e2⟩ := h2.head
  exact h.obj e2 (by rw [← z, h9])
theorem ls_at.obk {G : gx_T} {L : List Nat} {f : Nat → va_E} {q : Nat} {b : Option Nat} {xs : List Nat} (h : ls_at G L f q b xs) {L1 : List Nat} {f1 : Nat → va_E} (hL : ∀ a ∈ L, a ∈ L1) (hf : ∀ a ∈ L, a ≠ q → some a ≠ b → f1 a = f a) : ob_kept L f L1 f1 := ⟨hL, fun a ha ci vs e h1 h2 => hf a ha (h.apart e (by omega)).1 (h.apart e (by omega)).2⟩
theorem tb_at.by {G : gx_T} {L : List Nat} {f : Nat → va_E} {X b cap n : Nat} {t : Nat → Nat} (h : tb_at G L f X b cap n t) {L1 : List Nat} {f1 : Nat → va_E} (hL : ∀ a ∈ L, a ∈ L1) {q2 : Nat} {b2 : Option Nat} {xs2 : List Nat} (h2 : ls_at G L f q2 b2 xs2) (hf : ∀ a ∈ L, a ≠ q2 → some a ≠ b2 → f1 a = f a) : tb_at G L1 f1 X b cap n t := by
  obtain ⟨h3, h4, ml, g, h5, h6, h7⟩ := id h
  have ha := h2.apart h5 (by decide)
  refine h.kept hL (hf X h3 ha.1 ha.2) (hf b h4 (fun z => ?_) (fun z => ?_))
  · obtain ⟨mc2, r2, e2⟩ := h2.head
    rw [← z, h6] at e2
    cases e2
  · obtain ⟨-, mc, h8⟩ := h2
    rw [← z] at h8
    obtain ⟨-, -, n9, g9, e9, -⟩ := h8
    rw [h6] at e9
    injection e9 with e9
    injection e9 with e9 e10
    injection e10 with e10 e11
    cases e11
