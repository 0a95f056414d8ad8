/-! JDK ROWS over the ground: Math, mirrors, arraycopy, statics. -/
section GJ
variable {G : gx_T} {p : Program} {l : Launch} {e : Env} {R : Room} {s : State} {m : MethodId} {args : Array Value} {below : List Frame} {meth : Method} {c : Code} {H : Heap} {locs : List Loc} {cells slots : Nat} {Q : State → Prop}
variable {cc : ByteArray} {nL pc : Nat} {own : String} {A : Nat → Prop} {ls : Array Slot} {rest : List Value} {ws : va_W} {a n j idx : Nat} {L : List Nat} {f : Nat → va_E}
theorem gx_mmax (C : gx_C G p s m args meth c cc nL own A) {x y : Int32} (h1 : Cond.methodLink own idx Lib.Math.max.name ∈ lw_all) (hsize : ls.size = nL) (hf : 1 ≤ R.frames) (hl : (rest.map fun v => v.category).sum + 13 ≤ R.locals) (hc : cells ≤ R.cells) (hs : slots ≤ R.slots) (d : decode cc pc = .ok (.invokestatic idx, 3)) (kk : W p l e R s m args below meth c H locs cells slots Q (F0 m (pc + 3) ls (.int (if x < y then y else x) :: rest))) : W p l e R s m args below meth c H locs cells slots Q (F0 m pc ls (.int y :: .int x :: rest)) :=
  va_mmax C.x C.b (C.1.2.2.1.trans hsize.symm) C.hown (C.ts _ h1) (C.ts _ (tq_1 184 (by decide +kernel) rfl)) (C.ts _ (tq_1 17 (by decide +kernel) rfl)) (C.ts _ (tq_1 185 (by decide +kernel) rfl)) hf hl hc hs d kk
theorem gx_mmin (C : gx_C G p s m args meth c cc nL own A) {x y : Int32} (h1 : Cond.methodLink own idx Lib.Math.min.name ∈ lw_all) (hsize : ls.size = nL) (hf : 1 ≤ R.frames) (hl : (rest.map fun v => v.category).sum + 13 ≤ R.locals) (hc : cells ≤ R.cells) (hs : slots ≤ R.slots) (d : decode cc pc = .ok (.invokestatic idx, 3)) (kk : W p l e R s m args below meth c H locs cells slots Q (F0 m (pc + 3) ls (.int (if y < x then y else x) :: rest))) : W p l e R s m args below meth c H locs cells slots Q (F0 m pc ls (.int y :: .int x :: rest)) :=
  va_mmin C.x C.b (C.1.2.2.1.trans hsize.symm) C.hown (C.ts _ h1) (C.ts _ (tq_1 202 (by decide +kernel) rfl)) (C.ts _ (tq_1 17 (by decide +kernel) rfl)) (C.ts _ (tq_1 203 (by decide +kernel) rfl)) hf hl hc hs d kk
theorem gx_mabs (C : gx_C G p s m args meth c cc nL own A) {x : Int64} (h1 : Cond.methodLink own idx Lib.MathLoose.abs_long.x ∈ lw_all) (hsize : ls.size = nL) (hf : 1 ≤ R.frames) (hl : (rest.map fun v => v.category).sum + 13 ≤ R.locals) (hc : cells ≤ R.cells) (hs : slots ≤ R.slots) (d : decode cc pc = .ok (.invokestatic idx, 3)) (kk : W p l e R s m args below meth c H locs cells slots Q (F0 m (pc + 3) ls (.long (if 0 < x then x else -x) :: rest))) : W p l e R s m args below meth c H locs cells slots Q (F0 m pc ls (.long x :: rest)) :=
  va_mabs_long C.x C.b (C.1.2.2.1.trans hsize.symm) C.hown (C.ts _ h1) (C.ts _ (tq_4 120 (by decide +kernel) rfl)) (C.ts _ (tq_1 17 (by decide +kernel) rfl)) (C.ts _ (tq_4 121 (by decide +kernel) rfl)) hf hl hc hs d kk
theorem gx_rcA (C : gx_C G p s m args meth c cc nL own A) (hW : gx_W G A s ws H locs) {x : vp_A} (ha : gx_at ws a (.inl (G.2.1 3, x))) : ∃ cell : Cell, H[a]? = some cell ∧ cell.vm.isStatics = false ∧ s.vm.findClass "[Ljava/lang/Object;" = some cell.cls := by
  obtain ⟨q0, hq⟩ := ha
  refine ⟨_, hW.1 q0 _ hq, ?_, ?_⟩
  · obtain ⟨k, g | g | g | g | g⟩ := x <;> rfl
  · have h := gx_find (C.2.2.2.1.2 3 _ rfl).2
    have e : ∀ x : vp_A, (vp_cell (G.2.1 3) x).cls = G.2.1 3 := by
      rintro ⟨k, g | g | g | g | g⟩ <;> rfl
    rw [e]
    exact h
theorem gx_getC (C : gx_C G p s m args meth c cc nL own A) (hW : gx_W G A s ws H locs) {x : vp_A} (ha : gx_at ws a (.inl (G.2.1 3, x))) (h1 : Cond.methodLink own idx ⟨"java/lang/Object", "getClass", "()Ljava/lang/Class;"⟩ ∈ lw_all) (hsize : ls.size = nL) (hf : 1 ≤ R.frames) (hl : (rest.map fun v => v.category).sum + 14 ≤ R.locals) (d : decode cc pc = .ok (.invokevirtual idx, 3)) (k : W p l e R s m args below meth c H locs cells slots Q (F0 m (pc + 3) ls (.ref (G.2.2 1) :: rest))) : W p l e R s m args below meth c H locs cells slots Q (F0 m pc ls (.ref a :: rest)) :=
  va_getC (C := "[Ljava/lang/Object;") C.x C.b (C.1.2.2.1.trans hsize.symm) C.hown (C.ts _ h1) ((C.2.2.2.2.1.2.2.1 (.declares ⟨"java/lang/Object", "getClass", "()Ljava/lang/Class;"⟩) (List.mem_of_getElem? (i := 7) (by decide +kernel))).use rfl) (C.ts _ (tq_6 38 (by decide +kernel) rfl)) (C.ts _ (tq_2 122 (by decide +kernel) rfl)) (C.ts _ (tq_2 139 (by decide +kernel) rfl)) C.2.2.2.2.2.1 (gx_rcA C hW ha) hf hl d k
theorem gx_ldcM (C : gx_C G p s m args meth c cc nL own A) (h1 : Cond.classLink own idx "[Ljava/lang/Object;" ∈ lw_all) (d : decode cc pc = .ok (.ldc idx, 2)) (k : W p l e R s m args below meth c H locs cells slots Q (F0 m (pc + 2) ls (.ref (G.2.2 1) :: rest))) : W p l e R s m args below meth c H locs cells slots Q (F0 m pc ls rest) := va_ldcM C.x C.b C.hown (C.ts _ h1) C.2.2.2.2.2.1 d k
theorem gx_castA (C : gx_C G p s m args meth c cc nL own A) (hW : gx_W G A s ws H locs) {x : vp_A} (ha : gx_at ws a (.inl (G.2.1 3, x))) (h1 : Cond.classLink own idx "[Ljava/lang/Object;" ∈ lw_all) (d : decode cc pc = .ok (.checkcast idx, 3)) (k : W p l e R s m args below meth c H locs cells slots Q (F0 m (pc + 3) ls (.ref a :: rest))) : W p l e R s m args below meth c H locs cells slots Q (F0 m pc ls (.ref a :: rest)) := by
  obtain ⟨q0, hq⟩ := ha
  exact va_castA C.x C.b C.hown (C.ts _ h1) hW.1 q0 hq (gx_find (C.2.2.2.1.2 3 _ rfl).2) d k
/-- an element that a row of Objects may hold -/
def gx_el (L : List Nat) (f : Nat → va_E) (x : Nat) : Prop := x ∈ L ∧ ∃ (ci N : Nat) (vs : List Value) (K : String) (T : u_T), f x = .inr (ci, vs) ∧ vwCl[ci]? = some (K, T, N) ∧ Cond.castable K "java/lang/Object" ∈ gx_nW
theorem gx_any (C : gx_C G p s m args meth c cc nL own A) (hW : gx_W G A s (va_pl L f) H locs) {x : Nat} (h : gx_el L f x) : va_Any "java/lang/Object" s H x := by
  obtain ⟨hx, ci, N, vs, K, T, hf, hc, hw⟩ := h
  obtain ⟨q0, hq⟩ := gx_pl hx hf
  refine va_rAny C.2.2.2.1 hW.1 hq hc (fun comp c0 h1 h2 => ?_)
  have h3 : (Cond.castable K "java/lang/Object").before args s = true := (C.2.2.2.2.1.2.2.1 _ hw).use rfl
  obtain ⟨c3, c4, hc3, hc4, hasg⟩ := Cond.castable_spec h3
  cases Option.some.inj (hc3.symm.trans h2)
  cases Option.some.inj (hc4.symm.trans h1)
  exact hasg
theorem gx_acopy (C : gx_C G p s m args meth c cc nL own A) (hW : gx_W G A s (va_pl L f) H locs) {a0 n0 n1 k : Nat} {g0 g1 : Nat → Option Nat} (hL0 : a0 ∈ L) (ha0 : f a0 = .inl (G.2.1 3, n0, .inr (.inr (.inr (.inr g0))))) (hL : a ∈ L) (ha : f a = .inl (G.2.1 3, n1, .inr (.inr (.inr (.inr g1))))) {i : Int32} (hi : i = nI k) (h0 : k ≤ n0) (h1 : k ≤ n1) (hk : k < 2 ^ 31) (hel : ∀ j : Nat, j < k → ∀ y : Nat, g0 j = some y → gx_el L f y) (hl1 : Cond.methodLink own idx arraycopyName ∈ lw_all) (hsize : ls.size = nL) (hf : 1 ≤ R.frames) (hl : (rest.map fun v => v.category).sum + (nativeFrameWords "java/lang/System" "arraycopy" 5 + 11) ≤ R.locals) (d : decode cc pc = .ok (.invokestatic idx, 3))
    (kk : ∀ (H1 : Heap) (locs1 : List Loc), gx_W G A s (va_pl L (va_up f a (.inl (G.2.1 3, n1, .inr (.inr (.inr (.inr (va_cpy g0 g1 0 0 k)))))))) H1 locs1 → W p l e R s m args below meth c H1 locs1 cells slots Q (F0 m (pc + 3) ls rest)) : W p l e R s m args below meth c H locs cells slots Q (F0 m pc ls (.int i :: .int 0 :: .ref a :: .int 0 :: .ref a0 :: rest)) := by
  subst hi
  obtain ⟨q0, hq0⟩ := gx_pl hL0 ha0
  obtain ⟨q1, hq1⟩ := gx_pl hL ha
  have e0 : (0 : Int32).toNatClampNeg = 0 := by decide
  have ek : (nI k).toNatClampNeg = k := nI_clamp hk
  refine va_copyM C.x C.b (C.1.2.2.1.trans hsize.symm) C.hown (C.ts _ hl1) (C.ts _ (tq_1 206 (by decide +kernel) rfl)) (C.ts _ (tq_1 205 (by decide +kernel) rfl)) (C.ts _ (tq_1 19 (by decide +kernel) rfl)) C.2.2.2.1 hW.1 hW.2.1 hW.2.2 q0 q1 3 3 hq0 hq1 rfl rfl (by decide) (by decide) (nI_pos hk) (by rw [e0, ek]; omega) (by rw [e0, ek]; omega) (fun j hj y hy => ?_) hf hl d (fun H1 locs1 k1 k2 k3 => kk H1 locs1 ?_)
  · rw [ek] at hj
    rw [e0, Nat.zero_add] at hy
    exact gx_any C hW (hel j hj y hy)
  · rw [(gx_setP hW.2.1 hL hq1 _).2, e0, ek] at k1 k2
    exact ⟨k1, k2, k3⟩
theorem gx_getsE (C : gx_C G p s m args meth c cc nL own A) (hW : gx_W G A s ws H locs) (h1 : Cond.fieldLink own idx "java/util/ArrayList" "DEFAULTCAPACITY_EMPTY_ELEMENTDATA" "[Ljava/lang/Object;" ∈ lw_all) (d : decode cc pc = .ok (.getstatic idx, 3)) (kk : W p l e R s m args below meth c H locs cells slots Q (F0 m (pc + 3) ls (.ref (G.2.2 0) :: rest))) : W p l e R s m args below meth c H locs cells slots Q (F0 m pc ls rest) :=
  va_gets C.x C.b C.2.2.2.2.2.2.2.2.1 hW.2.2 C.hown (C.ts _ h1) (fun _ h => h) d kk
theorem gx_lenE (C : gx_C G p s m args meth c cc nL own A) (hW : gx_W G A s ws H locs) (d : decode cc pc = .ok (.arraylength, 1)) (kk : W p l e R s m args below meth c H locs cells slots Q (F0 m (pc + 1) ls (.int 0 :: rest))) : W p l e R s m args below meth c H locs cells slots Q (F0 m pc ls (.ref (G.2.2 0) :: rest)) :=
  va_tlen C.x C.b C.2.2.2.2.2.2.2.2.2.1 hW.2.2 rfl d kk
theorem gx_getsC (C : gx_C G p s m args meth c cc nL own A) (hW : gx_W G A s ws H locs) (h1 : Cond.fieldLink own idx "java/lang/String" "COMPACT_STRINGS" "Z" ∈ lw_all) (d : decode cc pc = .ok (.getstatic idx, 3)) (kk : W p l e R s m args below meth c H locs cells slots Q (F0 m (pc + 3) ls (.int 1 :: rest))) : W p l e R s m args below meth c H locs cells slots Q (F0 m pc ls rest) :=
  va_gets C.x C.b C.2.2.2.2.2.2.2.2.2.2.1 hW.2.2 C.hown (C.ts _ h1) (fun _ h => h) d kk
/-- the formatter: some reference or null -/
theorem gx_getsF (C : gx_C G p s m args meth c cc nL own A) (hW : gx_W G A s ws H locs) (h1 : Cond.fieldLink own idx "jdk/internal/util/Preconditions" "SIOOBE_FORMATTER" "Ljava/util/function/BiFunction;" ∈ lw_all) (d : decode cc pc = .ok (.getstatic idx, 3)) (k0 : W p l e R s m args below meth c H locs cells slots Q (F0 m (pc + 3) ls (.null :: rest))) (k1 : ∀ t : Nat, W p l e R s m args below meth c H locs cells slots Q (F0 m (pc + 3) ls (.ref t :: rest))) : W p l e R s m args below meth c H locs cells slots Q (F0 m pc ls rest) := by
  rcases C.2.2.2.2.2.2.2.2.2.2.2 with h | ⟨t, h⟩
  · exact va_gets C.x C.b h hW.2.2 C.hown (C.ts _ h1) (fun _ h => h) d k0
  · exact va_gets C.x C.b h hW.2.2 C.hown (C.ts _ h1) (fun _ h => h) d (k1 t)
/-- a row's place that holds a reference -/
theorem gx_aaldS (C : gx_C G p s m args meth c cc nL own A) (hW : gx_W G A s ws H locs) {g : Nat → Option Nat} {w : Nat} {i : Int32} (ha : gx_at ws a (.inl (G.2.1 3, n, .inr (.inr (.inr (.inr g)))))) (hi : i = nI j) (hj : j < n) (hn : n < 2 ^ 31) (hg : g j = some w) (d : decode cc pc = .ok (.aaload, 1)) (kk : W p l e R s m args below meth c H locs cells slots Q (F0 m (pc + 1) ls (.ref w :: rest))) : W p l e R s m args below meth c H locs cells slots Q (F0 m pc ls (.int i :: .ref a :: rest)) := by
  refine gx_aald C hW ha hi hj hn d ?_
  rw [hg]
  exact kk
end GJ
