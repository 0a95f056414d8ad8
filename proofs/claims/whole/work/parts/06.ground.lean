/-! THE GROUND OF ALL CONTRACTS: one list of words, what every method takes as given (gx_K), the world (gx_W), contracts (gx_M, gx_MX), and a row a kind of instruction over them. -/
/-- inherited private methods, as a StringBuilder's own selection takes them -/
def gx_extra : List Cond := [.selects "java/lang/StringBuilder" yJ5_ensureCapacityInternal_d00df yJ5_ensureCapacityInternal_d00df, .selects "java/lang/StringBuilder" yJ5_newCapacity_0f7a4 yJ5_newCapacity_0f7a4]
def lw_all : List Cond := gx_extra ++ lw_tbl.filter goodWord
theorem gx_good : GoodIn lw_all lw_all := fun w h => ⟨h, (List.mem_append.mp h).elim (fun h => good_of_word (List.all_eq_true.mp (by decide +kernel : gx_extra.all goodWord = true) w h)) (fun h => good_of_word (List.mem_filter.mp h).2)⟩
theorem gx_selP {y y0 : MethodName} {C : String} {s : State} {args : Array Value} (hy : y.cls ≠ "java/lang/invoke/MethodHandle" ∧ y.cls ≠ "java/lang/invoke/VarHandle")
    (hs : (Cond.selects C y0 y0).before args s = true) (hcl : y0.cls = y.cls) (hpriv : (Cond.privateMethod y).before args s = true) (hinst : (Cond.instanceMethod y).before args s = true) :
    (Cond.selects C y y).before args s = true := by
  obtain ⟨c, r0, m0, hc, -, hn0, -, k, hk, hni⟩ := Cond.selects_spec hs
  obtain ⟨mk, methM, hnamed, hmethM, -, -⟩ := Cond.instanceMethod_spec hinst
  have hfound : s.methodFound? y.cls y.name y.desc = some mk := State.methodFound?_of_named hnamed hy
  have hcls : mk.cls = m0.cls := by
    have h1 := findClass_of_methodNamed hnamed
    have h2 := findClass_of_methodNamed hn0
    rw [hcl] at h2
    exact Option.some.inj (h1.symm.trans h2)
  have hsel : selectMethod {} s.vm c mk = .method mk := selectMethod_private hmethM (Cond.privateMethod_at hpriv mk methM hnamed hmethM)
  simp only [Cond.before, Cond.holds, Cond.value, hc, hfound, hnamed, hsel, hcls, hk]
  simp
  exact hni
theorem gx_words {s : State} {args : Array Value} (h : ∀ w ∈ lw_tbl, w.before args s = true) : ∀ w ∈ lw_all, w.before args s = true := by
  intro w hw
  rcases List.mem_append.mp hw with hw | hw
  · have hs : (Cond.selects "java/lang/StringBuilder" yJ5_isLatin1_aae02 yJ5_isLatin1_aae02).before args s = true := h _ (List.mem_append_right _ (List.mem_append_left _ (List.mem_of_getElem? (i := 210) (by decide +kernel))))
    rcases List.mem_cons.mp hw with rfl | hw
    · exact gx_selP ⟨by decide +kernel, by decide +kernel⟩ hs rfl (h _ (List.mem_append_right _ (List.mem_append_left _ (List.mem_of_getElem? (i := 173) (by decide +kernel))))) (h _ (List.mem_append_right _ (List.mem_append_left _ (List.mem_of_getElem? (i := 174) (by decide +kernel)))))
    · rcases List.mem_cons.mp hw with rfl | hw
      · exact gx_selP ⟨by decide +kernel, by decide +kernel⟩ hs rfl (h _ (List.mem_append_right _ (List.mem_append_left _ (List.mem_of_getElem? (i := 177) (by decide +kernel))))) (h _ (List.mem_append_right _ (List.mem_append_left _ (List.mem_of_getElem? (i := 178) (by decide +kernel)))))
      · cases hw
  · exact h w (List.mem_filter.mp hw).1
theorem tq_x {w : Cond} (i : Nat) (h : gx_extra[i]? = some w) : w ∈ lw_all := List.mem_append_left _ (List.mem_of_getElem? h)
theorem tq_ {w : Cond} (h : w ∈ tables_1) (hg : goodWord w = true) : w ∈ lw_all := List.mem_append_right _ (List.mem_filter.mpr ⟨List.mem_append_right _ h, hg⟩)
theorem tq_1 {w : Cond} (i : Nat) (h : tables_1_1[i]? = some w) (hg : goodWord w = true) : w ∈ lw_all := tq_ (List.mem_append_left _ (List.mem_of_getElem? h)) hg
theorem tq_2 {w : Cond} (i : Nat) (h : tables_1_2[i]? = some w) (hg : goodWord w = true) : w ∈ lw_all := tq_ (List.mem_append_right _ (List.mem_append_left _ (List.mem_of_getElem? h))) hg
theorem tq_3 {w : Cond} (i : Nat) (h : tables_1_3[i]? = some w) (hg : goodWord w = true) : w ∈ lw_all := tq_ (List.mem_append_right _ (List.mem_append_right _ (List.mem_append_left _ (List.mem_of_getElem? h)))) hg
theorem tq_4 {w : Cond} (i : Nat) (h : tables_1_4[i]? = some w) (hg : goodWord w = true) : w ∈ lw_all := tq_ (List.mem_append_right _ (List.mem_append_right _ (List.mem_append_right _ (List.mem_append_left _ (List.mem_of_getElem? h))))) hg
theorem tq_5 {w : Cond} (i : Nat) (h : tables_1_5[i]? = some w) (hg : goodWord w = true) : w ∈ lw_all := tq_ (List.mem_append_right _ (List.mem_append_right _ (List.mem_append_right _ (List.mem_append_right _ (List.mem_append_left _ (List.mem_of_getElem? h)))))) hg
theorem tq_6 {w : Cond} (i : Nat) (h : tables_1_6[i]? = some w) (hg : goodWord w = true) : w ∈ lw_all := tq_ (List.mem_append_right _ (List.mem_append_right _ (List.mem_append_right _ (List.mem_append_right _ (List.mem_append_right _ (List.mem_of_getElem? h)))))) hg
theorem tq_s {y : MethodName} (i n : Nat) (h : lw_privs[i]? = some (y, n)) : Cond.selects y.cls y y ∈ lw_all := List.mem_append_right _ (List.mem_filter.mpr ⟨List.mem_append_left _ (List.mem_map.mpr ⟨(y, n), List.mem_of_getElem? h, rfl⟩), rfl⟩)
theorem tq_u {C : String} {T : u_T} {N : Nat} (h : ∀ k, k < N → u_lay C T k ∈ lw_all) : ∀ w ∈ u_ws C T N, w ∈ lw_all := by
  intro w hw
  obtain ⟨k, hk, rfl⟩ := List.mem_map.mp hw
  exact h k (List.mem_range.mp hk)
abbrev gx_ws (y : MethodName) (b : ByteArray) (n : Nat) (r : Option FieldType) : List Cond := .code y b n r :: lw_all
theorem gx_goodws {y : MethodName} {b : ByteArray} {n : Nat} {r : Option FieldType} (h : Cond.code y b n r ∈ lw_all) : GoodIn lw_all (gx_ws y b n r) := fun w hw => (List.mem_cons.mp hw).elim (fun e => by rw [e]; exact gx_good _ h) (gx_good w)
/-- the class numbers, the array classes (byte, int, long, Object, double), old addresses (0: ArrayList's empty row, 1: the mirror of Object's rows) -/
abbrev gx_T : Type := va_G × (Nat → ClassId) × (Nat → Nat)
def gx_tys (G : gx_T) : List (ClassId × FieldType) := [(G.2.1 0, .byte), (G.2.1 1, .int), (G.2.1 2, .long), (G.2.1 3, .object "java/lang/Object"), (G.2.1 4, .double)]
def gx_nF : List (String × Nat × String × String × String × String) := [("StandTests", 102, "StandTests$Load", "out", "J", "StandTests"), ("StandTests", 106, "StandTests$Load", "x", "J", "StandTests"), ("StandTests", 109, "StandTests$Load", "y", "J", "StandTests"), ("StandTests", 112, "StandTests$Load", "grams", "J", "StandTests"), ("StandTests", 142, "StandTests$Side", "from", "LStandTests$Foot;", "StandTests"), ("StandTests", 146, "StandTests$Foot", "number", "I", "StandTests"), ("StandTests", 181, "StandTests$TrialReader", "place", "I", "StandTests"), ("StandTests", 184, "StandTests$TrialReader", "trials", "Ljava/util/ArrayList;", "StandTests"), ("StandTests", 191, "StandTests$Trial", "person", "LStandTests$Load;", "StandTests"), ("StandTests", 256, "StandTests$Trial", "drawersTold", "I", "StandTests"), ("StandTests", 99, "StandTests$Load", "drawer", "I", "StandTests"), ("StandTests$Side", 16, "StandTests$Foot", "x", "J", "StandTests"), ("StandTests$Side", 22, "StandTests$Foot", "y", "J", "StandTests")]
def gx_nM : List (String × Nat × MethodName × String) := [("StandTests", 119, yX1_placeOn, "StandTests"), ("StandTests", 170, yX4_init, "StandTests"), ("StandTests", 173, yX4_readTrials, "StandTests"), ("StandTests", 200, yX0_turn, "StandTests"), ("StandTests", 259, yX1_momentAbout, "StandTests"), ("StandTests", 274, yX2_init, "StandTests"), ("StandTests", 277, yX0_isBefore, "StandTests"), ("StandTests", 284, yX0_seesMoreRightOf, "StandTests"), ("StandTests", 31, yX1_init, "StandTests"), ("StandTests", 72, yX0_init, "StandTests"), ("StandTests$Load", 31, yX2_turnTo, "StandTests"), ("StandTests$TrialReader", 53, yX1_init, "StandTests"), ("StandTests$TrialReader", 56, yX3_init, "StandTests")]
abbrev gx_E1 : String := "java/lang/IllegalStateException"
abbrev gx_E2 : String := "java/lang/IllegalArgumentException"
abbrev gx_E3 : String := "java/lang/IndexOutOfBoundsException"
abbrev gx_up : List String := ["java/lang/RuntimeException", "java/lang/Exception"]
def gx_nW : List Cond := [.castable "StandTests$Foot" "java/lang/Object", .castable "StandTests$Load" "java/lang/Object", .castable "StandTests$Side" "java/lang/Object", .castable "StandTests$Trial" "java/lang/Object", .castable gx_E1 gx_E1, .castable gx_E2 gx_E2, .castable gx_E3 gx_E3, .declares ⟨"java/lang/Object", "getClass", "()Ljava/lang/Class;"⟩, .declares ⟨"java/lang/RuntimeException", "<init>", "(Ljava/lang/String;)V"⟩, .declares ⟨"java/lang/Exception", "<init>", "(Ljava/lang/String;)V"⟩, .declares ⟨"java/lang/Throwable", "<init>", "(Ljava/lang/String;)V"⟩]
def gx_nN : List (String × String) := [(gx_E1, gx_E2), (gx_E1, gx_E3), (gx_E2, gx_E1), (gx_E2, gx_E3), (gx_E3, gx_E1), (gx_E3, gx_E2)]
/-- what the tables say beside the good words -/
def gx_V (U : State) : Prop := (∀ q ∈ gx_nF, va_Nw (.fieldLinkNest q.1 q.2.1 q.2.2.1 q.2.2.2.1 q.2.2.2.2.1 q.2.2.2.2.2) U) ∧ (∀ q ∈ gx_nM, va_Nw (.methodLinkNest q.1 q.2.1 q.2.2.1 q.2.2.2) U) ∧ (∀ w ∈ gx_nW, va_Nw w U) ∧ (∀ q ∈ gx_nN, va_Nc q.1 q.2 U) ∧ (∀ (k : Nat) (tx : String), Cond.stringRef "StandTests" k tx ∈ tables_1 → ∃ a, vk_R "StandTests" k tx a U) ∧ va_AO "java/lang/Object" U
theorem gx_face {w : Cond} (h : (w.onTables && w.keepsFace) = true) {s U : State} (hW : s.WarmedH U.vm) (hz : va_Nw w s) : va_Nw w U := by
  simp only [Bool.and_eq_true] at h
  exact va_tabs h.1 (rfl : (s.setVm U.vm).vm = U.vm) (Cond.before_shiftedFace (State.Shifted.of_warmed hW) w h.2 hz)
theorem gx_nW_ok : ∀ w ∈ gx_nW, (w.onTables && w.keepsFace) = true := by decide +kernel
theorem gx_V.moved {s U : State} (hW : s.WarmedH U.vm) (h : gx_V s) : gx_V U :=
  ⟨fun q hq => (h.1 q hq).warmF hW, fun q hq => (h.2.1 q hq).warmM hW, fun w hw => gx_face (gx_nW_ok w hw) hW (h.2.2.1 w hw), fun q hq => va_Nc.moved hW.alike (h.2.2.2.1 q hq), fun k tx hk => (h.2.2.2.2.1 k tx hk).imp fun _ z => z.warm hW, va_AO.moved hW.alike h.2.2.2.2.2⟩
/-- what statics hold -/
def gx_Z (G : gx_T) (A : Nat → Prop) (U : State) (H : Heap) : Prop := vx_Zq Bundle.tN "UNASSIGNED_STACK" Bundle.steD A U H ∧ vx_Zq Bundle.tN "SUPPRESSED_SENTINEL" Bundle.listD A U H ∧ va_Z "java/util/ArrayList" "DEFAULTCAPACITY_EMPTY_ELEMENTDATA" "[Ljava/lang/Object;" (.ref (G.2.2 0)) A U H ∧ va_T (.object "java/lang/Object") (G.2.2 0) 0 (fun _ => .null) A U H ∧ va_Z "java/lang/String" "COMPACT_STRINGS" "Z" (.int 1) A U H ∧ va_Zq "jdk/internal/util/Preconditions" "SIOOBE_FORMATTER" "Ljava/util/function/BiFunction;" A U H
theorem gx_Z.go {G : gx_T} {A B : Nat → Prop} {u U : State} {H H1 : Heap} (h : gx_Z G A u H) (hvm : u.vm.Alike U.vm) (hq : ∀ a : Nat, a < H.size → ¬ A a → H1[a]? = H[a]?) (hAB : ∀ q, B q → A q) : gx_Z G B U H1 :=
  ⟨((h.1.moved hvm).kept hq).narrow hAB, ((h.2.1.moved hvm).kept hq).narrow hAB, ((h.2.2.1.moved hvm).kept hq).narrow hAB, ((h.2.2.2.1.moved hvm).kept hq).narrow hAB, ((h.2.2.2.2.1.moved hvm).kept hq).narrow hAB, ((h.2.2.2.2.2.moved hvm).kept hq).narrow hAB⟩
/-- all that a method takes as given, at its start -/
def gx_K (G : gx_T) (A : Nat → Prop) (s : State) : Prop := va_K G.1 vwCl (gx_tys G) s ∧ gx_V s ∧ va_Mi "[Ljava/lang/Object;" (G.2.2 1) s ∧ gx_Z G A s s.heap
theorem gx_K.go {G : gx_T} {A B : Nat → Prop} {s U : State} {H : Heap} (h : gx_K G A s) (hW : s.WarmedH U.vm) (hU : U.heap = H) (hq : ∀ a : Nat, a < s.heap.size → ¬ A a → H[a]? = s.heap[a]?) (hAB : ∀ q, B q → A q) : gx_K G B U := by
  subst hU
  exact ⟨va_K.moved hW.alike h.1, h.2.1.moved hW, va_Mi.moved hW.alike h.2.2.1, h.2.2.2.go hW.alike hq hAB⟩
/-- the world: cells ws, apart, in A; nothing else old has changed -/
def gx_W (G : gx_T) (A : Nat → Prop) (s : State) (ws : va_W) (H : Heap) (locs : List Loc) : Prop := va_P G.1 vwCl ws H ∧ va_D A ws ∧ va_S A s.heap H locs
abbrev gx_P (G : gx_T) (av : List Value) (ws : va_W) (sz : Nat) : Array Value → State → Prop := va_Pc av (fun U => U.heap.size = sz ∧ va_P G.1 vwCl ws U.heap ∧ va_D (fun _ => True) ws ∧ gx_K G (va_A ws sz) U)
abbrev gx_Q (G : gx_T) (A : Nat → Prop) (post : Option Value → va_W → Prop) : Array Value → State → Outcome → State → Prop := fun _ st oc t => (∃ (v : Option Value) (u : va_W), oc = .returned v ∧ post v u ∧ va_P G.1 vwCl u t.heap ∧ va_D A u) ∧ va_F A st t
abbrev gx_X (G : gx_T) (A : Nat → Prop) (px : String → va_W → Prop) : String → State → State → Prop := fun E st t => (∃ u : va_W, px E u ∧ va_P G.1 vwCl u t.heap ∧ va_D A u) ∧ va_F A st t
/-- a contract: returns -/
abbrev gx_M (l : Launch) (G : gx_T) (y : MethodName) (b : ByteArray) (n : Nat) (r : Option FieldType) (rm : Room) (av : List Value) (ws : va_W) (post : Option Value → va_W → Prop) : Prop := ∀ sz : Nat, Met l y (gx_ws y b n r) rm (gx_P G av ws sz) (gx_Q G (va_A ws sz) post) rm.cells rm.slots (va_A ws sz)
/-- a contract: returns or throws -/
abbrev gx_MX (l : Launch) (G : gx_T) (y : MethodName) (b : ByteArray) (n : Nat) (r : Option FieldType) (rm : Room) (av : List Value) (ws : va_W) (post : Option Value → va_W → Prop) (px : String → va_W → Prop) : Prop := ∀ sz : Nat, vx_Met l y (gx_ws y b n r) rm (gx_P G av ws sz) (gx_Q G (va_A ws sz) post) (gx_X G (va_A ws sz) px) rm.cells rm.slots (va_A ws sz)
/-- what stands throughout a body -/
def gx_C (G : gx_T) (p : Program) (s : State) (m : MethodId) (args : Array Value) (meth : Method) (c : Code) (cc : ByteArray) (nL : Nat) (own : String) (A : Nat → Prop) : Prop :=
  (p.tables.exec = Jvm.exec ∧ c.code = cc ∧ c.maxLocals = nL ∧ s.vm.findClass own = some m.cls ∧ ∀ w ∈ lw_all, w.before args s = true) ∧ meth.locks = false ∧ (∀ q, s.heap.size ≤ q → A q) ∧ gx_K G A s
abbrev gx_at (ws : va_W) (a : Nat) (e : va_E) : Prop := ∃ k : Nat, ws[k]? = some (a, e)
theorem gx_pl {L : List Nat} {f : Nat → va_E} {a : Nat} {e : va_E} (ha : a ∈ L) (hf : f a = e) : gx_at (va_pl L f) a e := by
  obtain ⟨k, hk⟩ := va_pl_get (X := []) (f := f) ha
  exact ⟨k, by rw [← hf]; exact hk⟩
/-- FIELD SITES: what the tables say of a field at a place of the pool -/
def gx_fld (own : String) (idx ci k : Nat) (C : String) (T : u_T) (N : Nat) (ref : String) : Prop := (∀ w ∈ u_ws C T N, w ∈ lw_all) ∧ vwCl[ci]? = some (C, T, N) ∧ k < N ∧ Cond.fieldLink own idx ref (T k).2.1 (T k).2.2.1 ∈ lw_all ∧ ((T k).1 = ref ∨ Cond.sameField ref (T k).1 (T k).2.1 (T k).2.2.1 ∈ lw_all)
def gx_fldN (own : String) (idx ci k : Nat) (C : String) (T : u_T) (N : Nat) (ref host : String) : Prop := (∀ w ∈ u_ws C T N, w ∈ lw_all) ∧ vwCl[ci]? = some (C, T, N) ∧ k < N ∧ (own, idx, ref, (T k).2.1, (T k).2.2.1, host) ∈ gx_nF ∧ (T k).1 = ref
def gx_cls (C : String) (T : u_T) (N : Nat) (ty : Nat → FieldType) : Prop := (∀ k, k < N → parseFieldDescriptor (T k).2.2.1 = some (ty k)) ∧ (∀ a, a < N → ∀ b, b < N → a ≠ b → (T a).2.1 ≠ (T b).2.1)
theorem gx_fs {s : State} {args : Array Value} {ref O n d : String} (hts : ∀ w ∈ lw_all, w.before args s = true) (h : O = ref ∨ Cond.sameField ref O n d ∈ lw_all) : ∀ x, s.fieldFound? O n d = some x → s.fieldFound? ref n d = some x := by
  rcases h with h | h
  · subst h
    exact fun _ z => z
  · exact fun x z => u_same (hts _ h) x z
theorem gx_frame {G : gx_T} {A : Nat → Prop} {s : State} {ws : va_W} {H : Heap} {locs : List Loc} (h : gx_W G A s ws H locs) (hA : ∀ q, s.heap.size ≤ q → A q) : ∀ q, va_A ws H.size q → A q := by
  rintro q (⟨k, e, hk⟩ | hq)
  · exact h.2.1.2 k _ hk
  · exact hA q (Nat.le_trans h.2.2.1 hq)
section GX
variable {G : gx_T} {p : Program} {l : Launch} {e : Env} {R : Room} {s : State} {m : MethodId} {args : Array Value} {below : List Frame} {meth : Method} {c : Code} {H : Heap} {locs : List Loc} {cells slots : Nat} {Q : State → Prop}
variable {cc : ByteArray} {nL pc : Nat} {own : String} {A : Nat → Prop} {ls : Array Slot} {rest : List Value} {ws : va_W} {a : Nat} {L : List Nat} {f : Nat → va_E}
theorem gx_C.x (C : gx_C G p s m args meth c cc nL own A) : p.tables.exec = Jvm.exec := C.1.1
theorem gx_C.b (C : gx_C G p s m args meth c cc nL own A) : c.code = cc := C.1.2.1
theorem gx_C.ts (C : gx_C G p s m args meth c cc nL own A) : ∀ w ∈ lw_all, w.before args s = true := C.1.2.2.2.2
theorem gx_C.hown (C : gx_C G p s m args meth c cc nL own A) : s.vm.findClass own = some m.cls := C.1.2.2.2.1
/-- getfield -/
theorem gx_get (C : gx_C G p s m args meth c cc nL own A) (hW : gx_W G A s ws H locs) {idx ci k N : Nat} {K ref : String} {T : u_T} (hf : gx_fld own idx ci k K T N ref) {fs : List Value} (ha : gx_at ws a (.inr (ci, fs))) {v : Value} (hv : fs[k]? = some v) (d : decode cc pc = .ok (.getfield idx, 3))
    (kk : W p l e R s m args below meth c H locs cells slots Q (F0 m (pc + 3) ls (v :: rest))) : W p l e R s m args below meth c H locs cells slots Q (F0 m pc ls (.ref a :: rest)) := by
  obtain ⟨q0, hq⟩ := ha
  exact va_get C.x C.b C.ts hf.1 C.hown C.2.2.2.1 hW.1 q0 hq hf.2.1 k hf.2.2.1 (C.ts _ hf.2.2.2.1) (gx_fs C.ts hf.2.2.2.2) hv d kk
theorem gx_getN (C : gx_C G p s m args meth c cc nL own A) (hW : gx_W G A s ws H locs) {idx ci k N : Nat} {K ref host : String} {T : u_T} (hf : gx_fldN own idx ci k K T N ref host) {fs : List Value} (ha : gx_at ws a (.inr (ci, fs))) {v : Value} (hv : fs[k]? = some v) (d : decode cc pc = .ok (.getfield idx, 3))
    (kk : W p l e R s m args below meth c H locs cells slots Q (F0 m (pc + 3) ls (v :: rest))) : W p l e R s m args below meth c H locs cells slots Q (F0 m pc ls (.ref a :: rest)) := by
  obtain ⟨q0, hq⟩ := ha
  refine va_getN C.x C.b C.ts hf.1 C.hown C.2.2.2.1 hW.1 q0 hq hf.2.1 k hf.2.2.1 ((C.2.2.2.2.1.1 _ hf.2.2.2.1).use rfl) (fun x z => ?_) hv d kk
  rw [← hf.2.2.2.2]
  exact z
/-- putfield, the world a list: the place k0 of the cell -/
theorem gx_putE (C : gx_C G p s m args meth c cc nL own A) (hW : gx_W G A s ws H locs) {idx ci k N : Nat} {K ref : String} {T : u_T} {ty : Nat → FieldType} (hc : gx_cls K T N ty) (hf : gx_fld own idx ci k K T N ref) (q0 : Nat) {fs : List Value} (ha : ws[q0]? = some (a, .inr (ci, fs))) {v : Value} (hfin : (T k).2.2.2 = false ∨ (meth.name = "<init>" ∧ (T k).1 = own)) (hn : narrow (ty k) v = v) (hfit : fits (ty k) v = true) (hl : k < fs.length) (d : decode cc pc = .ok (.putfield idx, 3))
    (kk : ∀ (H1 : Heap) (locs1 : List Loc), gx_W G A s (ws.set q0 (a, .inr (ci, fs.set k v))) H1 locs1 → W p l e R s m args below meth c H1 locs1 cells slots Q (F0 m (pc + 3) ls rest)) : W p l e R s m args below meth c H locs cells slots Q (F0 m pc ls (v :: .ref a :: rest)) := by
  cases hfk : (T k).2.2.2 with
  | false => exact va_put C.x C.b C.ts hf.1 ty hc.1 hc.2 C.hown C.2.2.2.1 hW.1 hW.2.1 hW.2.2 q0 ha hf.2.1 k hf.2.2.1 (C.ts _ hf.2.2.2.1) (gx_fs C.ts hf.2.2.2.2) hfk (hc.1 k hf.2.2.1) hn hfit hl d (fun H1 locs1 h1 h2 h3 => kk H1 locs1 ⟨h1, h2, h3⟩)
  | true =>
    rcases hfin with h0 | h0
    · rw [hfk] at h0
      cases h0
    · exact va_putF C.x C.b C.ts hf.1 ty hc.1 hc.2 C.hown C.2.2.2.1 hW.1 hW.2.1 hW.2.2 q0 ha hf.2.1 k hf.2.2.1 (C.ts _ hf.2.2.2.1) (gx_fs C.ts hf.2.2.2.2) hfk h0.1 h0.2 (hc.1 k hf.2.2.1) hn hfit hl d (fun H1 locs1 h1 h2 h3 => kk H1 locs1 ⟨h1, h2, h3⟩)
theorem gx_setP (hW : va_D A (va_pl L f)) (ha : a ∈ L) {e0 : va_E} {k : Nat} (hk : (va_pl L f)[k]? = some (a, e0)) (e1 : va_E) : f a = e0 ∧ (va_pl L f).set k (a, e1) = va_pl L (va_up f a e1) := by
  have h0 : f a = e0 := by
    obtain ⟨x, hx, hy⟩ := List.mem_map.mp (List.mem_of_getElem? hk)
    cases hy
    rfl
  refine ⟨h0, ?_⟩
  have h1 := va_pl_set (X := []) (e := e1) hW ha (by rw [h0]; exact hk)
  exact h1
/-- putfield, the world a pool -/
theorem gx_put (C : gx_C G p s m args meth c cc nL own A) (hW : gx_W G A s (va_pl L f) H locs) {idx ci k N : Nat} {K ref : String} {T : u_T} {ty : Nat → FieldType} (hc : gx_cls K T N ty) (hf : gx_fld own idx ci k K T N ref) {fs : List Value} (hL : a ∈ L) (ha : f a = .inr (ci, fs)) {v : Value} (hfin : (T k).2.2.2 = false ∨ (meth.name = "<init>" ∧ (T k).1 = own)) (hn : narrow (ty k) v = v) (hfit : fits (ty k) v = true) (hl : k < fs.length) (d : decode cc pc = .ok (.putfield idx, 3))
    (kk : ∀ (H1 : Heap) (locs1 : List Loc), gx_W G A s (va_pl L (va_up f a (.inr (ci, fs.set k v)))) H1 locs1 → W p l e R s m args below meth c H1 locs1 cells slots Q (F0 m (pc + 3) ls rest)) : W p l e R s m args below meth c H locs cells slots Q (F0 m pc ls (v :: .ref a :: rest)) := by
  obtain ⟨q0, hq⟩ := gx_pl hL ha
  refine gx_putE C hW hc hf q0 hq hfin hn hfit hl d (fun H1 locs1 h => kk H1 locs1 ?_)
  rw [(gx_setP hW.2.1 hL hq (.inr (ci, fs.set k v))).2] at h
  exact h
theorem gx_putN (C : gx_C G p s m args meth c cc nL own A) (hW : gx_W G A s (va_pl L f) H locs) {idx ci k N : Nat} {K ref host : String} {T : u_T} {ty : Nat → FieldType} (hc : gx_cls K T N ty) (hf : gx_fldN own idx ci k K T N ref host) {fs : List Value} (hL : a ∈ L) (ha : f a = .inr (ci, fs)) {v : Value} (hfin : (T k).2.2.2 = false) (hn : narrow (ty k) v = v) (hfit : fits (ty k) v = true) (hl : k < fs.length) (d : decode cc pc = .ok (.putfield idx, 3))
    (kk : ∀ (H1 : Heap) (locs1 : List Loc), gx_W G A s (va_pl L (va_up f a (.inr (ci, fs.set k v)))) H1 locs1 → W p l e R s m args below meth c H1 locs1 cells slots Q (F0 m (pc + 3) ls rest)) : W p l e R s m args below meth c H locs cells slots Q (F0 m pc ls (v :: .ref a :: rest)) := by
  obtain ⟨q0, hq⟩ := gx_pl hL ha
  refine va_putN C.x C.b C.ts hf.1 ty hc.1 hc.2 C.hown C.2.2.2.1 hW.1 hW.2.1 hW.2.2 q0 hq hf.2.1 k hf.2.2.1 ((C.2.2.2.2.1.1 _ hf.2.2.2.1).use rfl) (fun x z => by rw [← hf.2.2.2.2]; exact z) hfin (hc.1 k hf.2.2.1) hn hfit hl d (fun H1 locs1 h1 h2 h3 => kk H1 locs1 ?_)
  rw [(gx_setP hW.2.1 hL hq (.inr (ci, fs.set k v))).2] at h1 h2
  exact ⟨h1, h2, h3⟩
/-- new -/
theorem gx_newE (C : gx_C G p s m args meth c cc nL own A) (hW : gx_W G A s ws H locs) {idx ci N : Nat} {K : String} {T : u_T} {ty : Nat → FieldType} (hc : gx_cls K T N ty) (hin : ∀ w ∈ u_ws K T N, w ∈ lw_all) (hcl : vwCl[ci]? = some (K, T, N)) (h1 : Cond.classLink own idx K ∈ lw_all) (h2 : Cond.instantiable K N ∈ lw_all) (h3 : Cond.initialized K ∈ lw_all) {fs : List Value} (hfs : ∀ j, j < N → defaultValue (ty j) = vp_V fs j) (hcells : cells + 1 ≤ R.cells) (hslots : slots + N ≤ R.slots) (d : decode cc pc = .ok (.new idx, 3))
    (kk : ∀ (q : Nat) (H1 : Heap), gx_W G A s (ws ++ [(q, .inr (ci, fs))]) H1 locs → W p l e R s m args below meth c H1 locs (cells + 1) (slots + N) Q (F0 m (pc + 3) ls (.ref q :: rest))) : W p l e R s m args below meth c H locs cells slots Q (F0 m pc ls rest) :=
  va_new C.x C.b C.ts hin ty hc.1 C.hown (C.ts _ h1) (C.ts _ h2) (C.ts _ h3) C.2.2.2.1 hW.1 hW.2.1 hW.2.2 C.2.2.1 hcl hfs hcells hslots d (fun q H1 k1 k2 k3 => kk q H1 ⟨k1, k2, k3⟩)
theorem gx_pushP {q : Nat} {e1 : va_E} {H1 : Heap} {locs1 : List Loc} (h : gx_W G A s (va_pl L f ++ [(q, e1)]) H1 locs1) : q ∉ L ∧ gx_W G A s (va_pl (L ++ [q]) (va_up f q e1)) H1 locs1 := by
  have hq : q ∉ L := va_pl_fresh2 (X := []) h.2.1
  refine ⟨hq, ?_⟩
  rw [va_pl_push hq] at h
  exact h
theorem gx_new (C : gx_C G p s m args meth c cc nL own A) (hW : gx_W G A s (va_pl L f) H locs) {idx ci N : Nat} {K : String} {T : u_T} {ty : Nat → FieldType} (hc : gx_cls K T N ty) (hin : ∀ w ∈ u_ws K T N, w ∈ lw_all) (hcl : vwCl[ci]? = some (K, T, N)) (h1 : Cond.classLink own idx K ∈ lw_all) (h2 : Cond.instantiable K N ∈ lw_all) (h3 : Cond.initialized K ∈ lw_all) {fs : List Value} (hfs : ∀ j, j < N → defaultValue (ty j) = vp_V fs j) (hcells : cells + 1 ≤ R.cells) (hslots : slots + N ≤ R.slots) (d : decode cc pc = .ok (.new idx, 3))
    (kk : ∀ (q : Nat) (H1 : Heap), q ∉ L → gx_W G A s (va_pl (L ++ [q]) (va_up f q (.inr (ci, fs)))) H1 locs → W p l e R s m args below meth c H1 locs (cells + 1) (slots + N) Q (F0 m (pc + 3) ls (.ref q :: rest))) : W p l e R s m args below meth c H locs cells slots Q (F0 m pc ls rest) :=
  gx_newE C hW hc hin hcl h1 h2 h3 hfs hcells hslots d (fun q H1 h => kk q H1 (gx_pushP h).1 (gx_pushP h).2)
end GX
