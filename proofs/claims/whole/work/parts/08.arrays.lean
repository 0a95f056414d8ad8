/-! ARRAYS over the ground: indexes as nI j. -/
section GA
variable {G : gx_T} {p : Program} {l : Launch} {e : Env} {R : Room} {s : State} {m : MethodId} {args : Array Value} {below : List Frame} {meth : Method} {c : Code} {H : Heap} {locs : List Loc} {cells slots : Nat} {Q : State → Prop}
variable {cc : ByteArray} {nL pc : Nat} {own : String} {A : Nat → Prop} {ls : Array Slot} {rest : List Value} {ws : va_W} {a n j : Nat} {L : List Nat} {f : Nat → va_E} {i : Int32}
theorem gx_ix (hi : i = nI j) (hj : j < n) (hn : n < 2 ^ 31) : vp_in i n ∧ i.toNatClampNeg = j := by
  subst hi
  exact ⟨vp_in_nI hj hn, nI_clamp (Nat.lt_trans hj hn)⟩
theorem gx_lald (C : gx_C G p s m args meth c cc nL own A) (hW : gx_W G A s ws H locs) {g : Nat → Int64} (ha : gx_at ws a (.inl (G.2.1 2, n, .inr (.inl g)))) (hi : i = nI j) (hj : j < n) (hn : n < 2 ^ 31) (d : decode cc pc = .ok (.laload, 1))
    (kk : W p l e R s m args below meth c H locs cells slots Q (F0 m (pc + 1) ls (.long (g j) :: rest))) : W p l e R s m args below meth c H locs cells slots Q (F0 m pc ls (.int i :: .ref a :: rest)) := by
  obtain ⟨q0, hq⟩ := ha
  obtain ⟨h1, h2⟩ := gx_ix hi hj hn
  refine va_lald C.x C.b C.2.2.2.1 hW.1 q0 2 hq rfl h1 d ?_
  rw [h2]
  exact kk
theorem gx_iald (C : gx_C G p s m args meth c cc nL own A) (hW : gx_W G A s ws H locs) {g : Nat → Int32} (ha : gx_at ws a (.inl (G.2.1 1, n, .inl g))) (hi : i = nI j) (hj : j < n) (hn : n < 2 ^ 31) (d : decode cc pc = .ok (.iaload, 1))
    (kk : W p l e R s m args below meth c H locs cells slots Q (F0 m (pc + 1) ls (.int (g j) :: rest))) : W p l e R s m args below meth c H locs cells slots Q (F0 m pc ls (.int i :: .ref a :: rest)) := by
  obtain ⟨q0, hq⟩ := ha
  obtain ⟨h1, h2⟩ := gx_ix hi hj hn
  refine va_iald C.x C.b C.2.2.2.1 hW.1 q0 1 hq rfl h1 d ?_
  rw [h2]
  exact kk
theorem gx_bald (C : gx_C G p s m args meth c cc nL own A) (hW : gx_W G A s ws H locs) {g : Nat → Int32} (ha : gx_at ws a (.inl (G.2.1 0, n, .inl g))) (hi : i = nI j) (hj : j < n) (hn : n < 2 ^ 31) (d : decode cc pc = .ok (.baload, 1))
    (kk : W p l e R s m args below meth c H locs cells slots Q (F0 m (pc + 1) ls (.int (g j) :: rest))) : W p l e R s m args below meth c H locs cells slots Q (F0 m pc ls (.int i :: .ref a :: rest)) := by
  obtain ⟨q0, hq⟩ := ha
  obtain ⟨h1, h2⟩ := gx_ix hi hj hn
  refine va_bald C.x C.b C.2.2.2.1 hW.1 q0 0 hq rfl h1 d ?_
  rw [h2]
  exact kk
theorem gx_dald (C : gx_C G p s m args meth c cc nL own A) (hW : gx_W G A s ws H locs) {g : Nat → UInt64} (ha : gx_at ws a (.inl (G.2.1 4, n, .inr (.inr (.inr (.inl g)))))) (hi : i = nI j) (hj : j < n) (hn : n < 2 ^ 31) (d : decode cc pc = .ok (.daload, 1))
    (kk : W p l e R s m args below meth c H locs cells slots Q (F0 m (pc + 1) ls (.double (g j) :: rest))) : W p l e R s m args below meth c H locs cells slots Q (F0 m pc ls (.int i :: .ref a :: rest)) := by
  obtain ⟨q0, hq⟩ := ha
  obtain ⟨h1, h2⟩ := gx_ix hi hj hn
  refine va_dald C.x C.b C.2.2.2.1 hW.1 q0 4 hq rfl h1 d ?_
  rw [h2]
  exact kk
theorem gx_aald (C : gx_C G p s m args meth c cc nL own A) (hW : gx_W G A s ws H locs) {g : Nat → Option Nat} (ha : gx_at ws a (.inl (G.2.1 3, n, .inr (.inr (.inr (.inr g)))))) (hi : i = nI j) (hj : j < n) (hn : n < 2 ^ 31) (d : decode cc pc = .ok (.aaload, 1))
    (kk : W p l e R s m args below meth c H locs cells slots Q (F0 m (pc + 1) ls (va_rf (g j) :: rest))) : W p l e R s m args below meth c H locs cells slots Q (F0 m pc ls (.int i :: .ref a :: rest)) := by
  obtain ⟨q0, hq⟩ := ha
  obtain ⟨h1, h2⟩ := gx_ix hi hj hn
  refine va_aldq C.x C.b C.2.2.2.1 hW.1 q0 3 hq rfl h1 d ?_
  rw [h2]
  exact kk
theorem gx_alen (C : gx_C G p s m args meth c cc nL own A) (hW : gx_W G A s ws H locs) (t0 : Nat) {cA : ClassId} {ty : FieldType} {x : vp_A} (ht : (gx_tys G)[t0]? = some (cA, ty)) (ha : gx_at ws a (.inl (cA, x))) (d : decode cc pc = .ok (.arraylength, 1))
    (kk : W p l e R s m args below meth c H locs cells slots Q (F0 m (pc + 1) ls (.int (nI x.1) :: rest))) : W p l e R s m args below meth c H locs cells slots Q (F0 m pc ls (.ref a :: rest)) := by
  obtain ⟨q0, hq⟩ := ha
  exact va_alen C.x C.b C.2.2.2.1 hW.1 q0 t0 hq ht rfl d kk
/-- stores, the world a list -/
theorem gx_lastE (C : gx_C G p s m args meth c cc nL own A) (hW : gx_W G A s ws H locs) (q0 : Nat) {g : Nat → Int64} (ha : ws[q0]? = some (a, .inl (G.2.1 2, n, .inr (.inl g)))) {x : Int64} (hi : i = nI j) (hj : j < n) (hn : n < 2 ^ 31) (d : decode cc pc = .ok (.lastore, 1))
    (kk : ∀ (H1 : Heap) (locs1 : List Loc), gx_W G A s (ws.set q0 (a, .inl (G.2.1 2, n, .inr (.inl (vp_updL g j x))))) H1 locs1 → W p l e R s m args below meth c H1 locs1 cells slots Q (F0 m (pc + 1) ls rest)) : W p l e R s m args below meth c H locs cells slots Q (F0 m pc ls (.long x :: .int i :: .ref a :: rest)) := by
  obtain ⟨h1, h2⟩ := gx_ix hi hj hn
  refine va_last C.x C.b C.2.2.2.1 hW.1 hW.2.1 hW.2.2 q0 2 ha rfl h1 d (fun H1 locs1 k1 k2 k3 => kk H1 locs1 ?_)
  rw [h2] at k1 k2
  exact ⟨k1, k2, k3⟩
theorem gx_iastE (C : gx_C G p s m args meth c cc nL own A) (hW : gx_W G A s ws H locs) (q0 : Nat) {g : Nat → Int32} (ha : ws[q0]? = some (a, .inl (G.2.1 1, n, .inl g))) {x : Int32} (hi : i = nI j) (hj : j < n) (hn : n < 2 ^ 31) (d : decode cc pc = .ok (.iastore, 1))
    (kk : ∀ (H1 : Heap) (locs1 : List Loc), gx_W G A s (ws.set q0 (a, .inl (G.2.1 1, n, .inl (upd g j x)))) H1 locs1 → W p l e R s m args below meth c H1 locs1 cells slots Q (F0 m (pc + 1) ls rest)) : W p l e R s m args below meth c H locs cells slots Q (F0 m pc ls (.int x :: .int i :: .ref a :: rest)) := by
  obtain ⟨h1, h2⟩ := gx_ix hi hj hn
  refine va_iast C.x C.b C.2.2.2.1 hW.1 hW.2.1 hW.2.2 q0 1 ha rfl h1 d (fun H1 locs1 k1 k2 k3 => kk H1 locs1 ?_)
  rw [h2] at k1 k2
  exact ⟨k1, k2, k3⟩
theorem gx_dastE (C : gx_C G p s m args meth c cc nL own A) (hW : gx_W G A s ws H locs) (q0 : Nat) {g : Nat → UInt64} (ha : ws[q0]? = some (a, .inl (G.2.1 4, n, .inr (.inr (.inr (.inl g)))))) {x : UInt64} (hi : i = nI j) (hj : j < n) (hn : n < 2 ^ 31) (d : decode cc pc = .ok (.dastore, 1))
    (kk : ∀ (H1 : Heap) (locs1 : List Loc), gx_W G A s (ws.set q0 (a, .inl (G.2.1 4, n, .inr (.inr (.inr (.inl (vf_upd g j x))))))) H1 locs1 → W p l e R s m args below meth c H1 locs1 cells slots Q (F0 m (pc + 1) ls rest)) : W p l e R s m args below meth c H locs cells slots Q (F0 m pc ls (.double x :: .int i :: .ref a :: rest)) := by
  obtain ⟨h1, h2⟩ := gx_ix hi hj hn
  refine va_dast C.x C.b C.2.2.2.1 hW.1 hW.2.1 hW.2.2 q0 4 ha rfl h1 d (fun H1 locs1 k1 k2 k3 => kk H1 locs1 ?_)
  rw [h2] at k1 k2
  exact ⟨k1, k2, k3⟩
/-- stores, the world a pool -/
theorem gx_bast (C : gx_C G p s m args meth c cc nL own A) (hW : gx_W G A s (va_pl L f) H locs) {g : Nat → Int32} (hL : a ∈ L) (ha : f a = .inl (G.2.1 0, n, .inl g)) {x : Int32} (hi : i = nI j) (hj : j < n) (hn : n < 2 ^ 31) (d : decode cc pc = .ok (.bastore, 1))
    (kk : ∀ (H1 : Heap) (locs1 : List Loc), gx_W G A s (va_pl L (va_up f a (.inl (G.2.1 0, n, .inl (upd g j (vp_nar .byte x)))))) H1 locs1 → W p l e R s m args below meth c H1 locs1 cells slots Q (F0 m (pc + 1) ls rest)) : W p l e R s m args below meth c H locs cells slots Q (F0 m pc ls (.int x :: .int i :: .ref a :: rest)) := by
  obtain ⟨h1, h2⟩ := gx_ix hi hj hn
  obtain ⟨q0, hq⟩ := gx_pl hL ha
  refine va_bast C.x C.b C.2.2.2.1 hW.1 hW.2.1 hW.2.2 q0 0 hq rfl h1 d (fun H1 locs1 k1 k2 k3 => kk H1 locs1 ?_)
  rw [h2, (gx_setP hW.2.1 hL hq _).2] at k1 k2
  exact ⟨k1, k2, k3⟩
theorem gx_aast (C : gx_C G p s m args meth c cc nL own A) (hW : gx_W G A s (va_pl L f) H locs) {g : Nat → Option Nat} (hL : a ∈ L) (ha : f a = .inl (G.2.1 3, n, .inr (.inr (.inr (.inr g))))) {v ci N : Nat} {K : String} {T : u_T} {vs : List Value} (hv : v ∈ L) (hfv : f v = .inr (ci, vs)) (hc : vwCl[ci]? = some (K, T, N)) (hca : Cond.castable K "java/lang/Object" ∈ gx_nW) (hi : i = nI j) (hj : j < n) (hn : n < 2 ^ 31) (d : decode cc pc = .ok (.aastore, 1))
    (kk : ∀ (H1 : Heap) (locs1 : List Loc), gx_W G A s (va_pl L (va_up f a (.inl (G.2.1 3, n, .inr (.inr (.inr (.inr (va_up g j (some v))))))))) H1 locs1 → W p l e R s m args below meth c H1 locs1 cells slots Q (F0 m (pc + 1) ls rest)) : W p l e R s m args below meth c H locs cells slots Q (F0 m pc ls (.ref v :: .int i :: .ref a :: rest)) := by
  obtain ⟨h1, h2⟩ := gx_ix hi hj hn
  obtain ⟨q0, hq⟩ := gx_pl hL ha
  obtain ⟨qk, hqk⟩ := gx_pl hv hfv
  refine va_astqO C.x C.b C.2.2.2.1 hW.1 hW.2.1 hW.2.2 q0 3 qk ci hq rfl (C.2.2.2.2.1.2.2.1 _ hca) hqk hc h1 d (fun H1 locs1 k1 k2 k3 => kk H1 locs1 ?_)
  rw [h2, (gx_setP hW.2.1 hL hq _).2] at k1 k2
  exact ⟨k1, k2, k3⟩
theorem gx_aastN (C : gx_C G p s m args meth c cc nL own A) (hW : gx_W G A s (va_pl L f) H locs) {g : Nat → Option Nat} (hL : a ∈ L) (ha : f a = .inl (G.2.1 3, n, .inr (.inr (.inr (.inr g))))) (hi : i = nI j) (hj : j < n) (hn : n < 2 ^ 31) (d : decode cc pc = .ok (.aastore, 1))
    (kk : ∀ (H1 : Heap) (locs1 : List Loc), gx_W G A s (va_pl L (va_up f a (.inl (G.2.1 3, n, .inr (.inr (.inr (.inr (va_up g j none)))))))) H1 locs1 → W p l e R s m args below meth c H1 locs1 cells slots Q (F0 m (pc + 1) ls rest)) : W p l e R s m args below meth c H locs cells slots Q (F0 m pc ls (.null :: .int i :: .ref a :: rest)) := by
  obtain ⟨h1, h2⟩ := gx_ix hi hj hn
  obtain ⟨q0, hq⟩ := gx_pl hL ha
  refine va_astqN C.x C.b C.2.2.2.1 hW.1 hW.2.1 hW.2.2 q0 3 hq rfl h1 d (fun H1 locs1 k1 k2 k3 => kk H1 locs1 ?_)
  rw [h2, (gx_setP hW.2.1 hL hq _).2] at k1 k2
  exact ⟨k1, k2, k3⟩
/-- new rows -/
theorem gx_find {U : State} {cA : ClassId} {ty : FieldType} (h : va_RA U cA ty) : U.vm.findClass ("[" ++ ty.toString) = some cA := by
  cases ty <;> first | exact h | (obtain ⟨_, _, _, _, _, h9⟩ := h; exact h9)
theorem gx_cA {D : va_G} {cl : List vw_C} {U : State} {cA c0 : ClassId} {ty : FieldType} {tys : List (ClassId × FieldType)} (hK : va_K D cl (tys ++ [(cA, ty)]) U) (t0 : Nat) (h : tys[t0]? = some (c0, ty)) : cA = c0 := by
  have h1 := (hK.2 tys.length (cA, ty) (by rw [List.getElem?_append_right (Nat.le_refl _), Nat.sub_self]; rfl)).2
  have h2 := (hK.2 t0 (c0, ty) (by rw [List.getElem?_append_left (List.getElem?_eq_some_iff.mp h).1]; exact h)).2
  exact Option.some.inj ((gx_find h1).symm.trans (gx_find h2))
theorem gx_newa (C : gx_C G p s m args meth c cc nL own A) (hW : gx_W G A s ws H locs) {atype : ArrayType} {ty : FieldType} (hty : newarray.typeOf atype = ty) (hw : Cond.arrayClass (newarray.typeOf atype) ∈ lw_all) (t0 : Nat) {c0 : ClassId} (ht : (gx_tys G)[t0]? = some (c0, ty)) {a0 : vp_A} (ha : ∀ cA : ClassId, vp_cell cA a0 = arrV cA n (fun _ => defaultValue ty)) (hi : i = nI n) (hn : n < 2 ^ 16) (hcells : cells + 1 ≤ R.cells) (hslots : slots + n ≤ R.slots) (d : decode cc pc = .ok (.newarray atype, 2))
    (kk : ∀ (q : Nat) (H1 : Heap), gx_W G A s (ws ++ [(q, .inl (c0, a0))]) H1 locs → W p l e R s m args below meth c H1 locs (cells + 1) (slots + n) Q (F0 m (pc + 2) ls (.ref q :: rest))) : W p l e R s m args below meth c H locs cells slots Q (F0 m pc ls (.int i :: rest)) := by
  subst hi
  have h31 : n < 2 ^ 31 := Nat.lt_of_lt_of_le hn (by decide)
  have hb : n * componentBytes ty ≤ 536870912 := by
    have h8 : componentBytes ty ≤ 8 := by cases ty <;> simp [componentBytes]
    calc n * componentBytes ty ≤ n * 8 := Nat.mul_le_mul_left _ h8
      _ ≤ 536870912 := by omega
  refine va_newa (atype := atype) C.x C.b (C.ts _ hw) hty C.2.2.2.1 hW.1 hW.2.1 hW.2.2 C.2.2.1 ha (nI_pos h31) (nI_clamp h31) hb hcells hslots d (fun q cA H1 k0 k1 k2 k3 => ?_)
  have e := gx_cA k0 t0 ht
  subst e
  exact kk q H1 ⟨k1, k2, k3⟩
theorem gx_newq (C : gx_C G p s m args meth c cc nL own A) (hW : gx_W G A s (va_pl L f) H locs) {idx : Nat} (hw : Cond.classLink own idx "java/lang/Object" ∈ lw_all) (hi : i = nI n) (hn : n < 2 ^ 16) (hcells : cells + 1 ≤ R.cells) (hslots : slots + n ≤ R.slots) (d : decode cc pc = .ok (.anewarray idx, 3))
    (kk : ∀ (q : Nat) (H1 : Heap), q ∉ L → gx_W G A s (va_pl (L ++ [q]) (va_up f q (.inl (G.2.1 3, n, .inr (.inr (.inr (.inr (fun _ => none)))))))) H1 locs → W p l e R s m args below meth c H1 locs (cells + 1) (slots + n) Q (F0 m (pc + 3) ls (.ref q :: rest))) : W p l e R s m args below meth c H locs cells slots Q (F0 m pc ls (.int i :: rest)) := by
  subst hi
  have h31 : n < 2 ^ 31 := Nat.lt_of_lt_of_le hn (by decide)
  refine va_newq C.x C.b C.hown (C.ts _ hw) C.2.2.2.2.1.2.2.2.2.2 C.2.2.2.1 hW.1 hW.2.1 hW.2.2 C.2.2.1 (nI_pos h31) (nI_clamp h31) (by omega) hcells hslots d (fun q cA H1 k0 k1 k2 k3 => ?_)
  have e := gx_cA k0 3 rfl
  subst e
  have k := gx_pushP (s := s) (H1 := H1) (locs1 := locs) ⟨k1, k2, k3⟩
  exact kk q H1 k.1 k.2
end GA
