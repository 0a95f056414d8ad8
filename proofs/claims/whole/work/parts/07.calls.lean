/-! CALLS, RETURNS, ENTRIES over the ground: the callee's world is a part of ours, what comes back stands beside the rest. -/
section GCA
variable {G : gx_T} {p : Program} {l : Launch} {e : Env} {R : Room} {s : State} {m : MethodId} {args : Array Value} {below : List Frame} {meth : Method} {c : Code} {H : Heap} {locs : List Loc} {cells slots : Nat} {Q : State → Prop}
variable {cc : ByteArray} {nL pc : Nat} {own : String} {A : Nat → Prop} {ls : Array Slot} {rest st0 : List Value} {ws wr wc : va_W} {o : Nat} {L : List Nat} {f : Nat → va_E}
variable {y : MethodName} {b : ByteArray} {n k idx : Nat} {r : Option FieldType} {rm : Room} {As : List Value} {post : Option Value → va_W → Prop} {px : String → va_W → Prop}
theorem gx_W.cut (h : gx_W G A s (wr ++ wc) H locs) : gx_W G A s wc H locs := by
  have hg : ∀ (k : Nat) (q : Nat × va_E), wc[k]? = some q → (wr ++ wc)[wr.length + k]? = some q := fun k q hk => by
    rw [List.getElem?_append_right (Nat.le_add_right _ _), Nat.add_sub_cancel_left]
    exact hk
  refine ⟨fun k q hk => h.1 _ q (hg k q hk), ⟨fun i j p q hi hj e => ?_, fun k q hk => h.2.1.2 _ q (hg k q hk)⟩, h.2.2⟩
  have := h.2.1.1 _ _ p q (hg i p hi) (hg j q hj) e
  omega
theorem gx_W.cutl (h : gx_W G A s (wc ++ wr) H locs) : gx_W G A s wc H locs := by
  have hg : ∀ (k : Nat) (q : Nat × va_E), wc[k]? = some q → (wc ++ wr)[k]? = some q := fun k q hk => by
    rw [List.getElem?_append_left (List.getElem?_eq_some_iff.mp hk).1]
    exact hk
  exact ⟨fun k q hk => h.1 _ q (hg k q hk), ⟨fun i j p q hi hj e => h.2.1.1 i j p q (hg i p hi) (hg j q hj) e, fun k q hk => h.2.1.2 _ q (hg k q hk)⟩, h.2.2⟩
theorem gx_pre (C : gx_C G p s m args meth c cc nL own A) (hW : gx_W G A s ws H locs) (av : List Value) : FrameBlind (gx_P G av ws H.size) ∧ ∀ U : State, U.heap = H → s.WarmedH U.vm → gx_P G av ws H.size av.toArray U := by
  refine ⟨fun a U g mk q => ?_, fun U hU hWm => ?_⟩
  · obtain ⟨q0, q1, q2, q3, q4⟩ := q
    exact ⟨q0, q1, q2, q3, q4.go (State.WarmedH.refl U) rfl (fun _ _ _ => rfl) (fun _ h => h)⟩
  · exact ⟨rfl, by rw [hU], by rw [hU]; exact hW.1, hW.2.1.weaken (fun _ _ _ _ => trivial), C.2.2.2.go hWm hU hW.2.2.2.1 (gx_frame hW C.2.2.1)⟩
theorem gx_join {u : va_W} {H1 : Heap} {locs1 : List Loc} (hW : gx_W G A s (wr ++ wc) H locs) (hA : ∀ q, s.heap.size ≤ q → A q) (hP1 : va_P G.1 vwCl u H1) (hD1 : va_D (va_A wc H.size) u) (hk : ∀ q : Nat, q < H.size → ¬ va_A wc H.size q → H1[q]? = H[q]?) (hS : va_S A s.heap H1 locs1) : gx_W G A s (wr ++ u) H1 locs1 := by
  have hl : ∀ (k : Nat) (q : Nat × va_E), wr[k]? = some q → (wr ++ wc)[k]? = some q := fun k q hk => by
    rw [List.getElem?_append_left (List.getElem?_eq_some_iff.mp hk).1]
    exact hk
  have hg : ∀ (k : Nat) (q : Nat × va_E), wc[k]? = some q → (wr ++ wc)[wr.length + k]? = some q := fun k q hk => by
    rw [List.getElem?_append_right (Nat.le_add_right _ _), Nat.add_sub_cancel_left]
    exact hk
  have hlt : ∀ (k : Nat) (q : Nat × va_E), wr[k]? = some q → q.1 < H.size := fun k q hk => (hW.1 k q (hl k q hk)).lt
  have hno : ∀ (k : Nat) (q : Nat × va_E), wr[k]? = some q → ¬ va_A wc H.size q.1 := by
    rintro k q hq (⟨j, e9, hj⟩ | hz)
    · have h1 := hW.2.1.1 _ _ _ _ (hl k q hq) (hg j _ hj) rfl
      have h2 := (List.getElem?_eq_some_iff.mp hq).1
      omega
    · exact Nat.not_le.mpr (hlt k q hq) hz
  have hF : ∀ q, va_A wc H.size q → A q := gx_frame hW.cut hA
  refine ⟨fun k q hkq => ?_, ⟨fun i j p q hi hj e9 => ?_, fun k q hkq => ?_⟩, hS⟩
  · by_cases h : k < wr.length
    · rw [List.getElem?_append_left h] at hkq
      exact (hW.1 k q (hl k q hkq)).kept (hk _ (hlt k q hkq) (hno k q hkq))
    · rw [List.getElem?_append_right (Nat.not_lt.mp h)] at hkq
      exact hP1 _ q hkq
  · by_cases h1 : i < wr.length <;> by_cases h2 : j < wr.length
    · rw [List.getElem?_append_left h1] at hi
      rw [List.getElem?_append_left h2] at hj
      exact hW.2.1.1 i j p q (hl i p hi) (hl j q hj) e9
    · rw [List.getElem?_append_left h1] at hi
      rw [List.getElem?_append_right (Nat.not_lt.mp h2)] at hj
      exact absurd (by rw [e9]; exact hD1.2 _ q hj) (hno i p hi)
    · rw [List.getElem?_append_right (Nat.not_lt.mp h1)] at hi
      rw [List.getElem?_append_left h2] at hj
      exact absurd (by rw [← e9]; exact hD1.2 _ p hi) (hno j q hj)
    · rw [List.getElem?_append_right (Nat.not_lt.mp h1)] at hi
      rw [List.getElem?_append_right (Nat.not_lt.mp h2)] at hj
      have := hD1.1 _ _ p q hi hj e9
      omega
  · by_cases h : k < wr.length
    · rw [List.getElem?_append_left h] at hkq
      exact hW.2.1.2 k q (hl k q hkq)
    · rw [List.getElem?_append_right (Nat.not_lt.mp h)] at hkq
      exact hF _ (hD1.2 _ q hkq)
/-- what a call gives, from its run -/
theorem gx_ret {mc ms : Nat} {a : Array Value} (C : gx_C G p s m args meth c cc nL own A) (hW : gx_W G A s (wr ++ wc) H locs) (hr : va_Run p l e R s m args below meth c H locs cells slots mc ms (F0 m pc ls st0) rest (gx_Q G (va_A wc H.size) post a) (va_A wc H.size))
    (kk : ∀ (v : Option Value) (u : va_W) (H1 : Heap) (locs1 : List Loc), post v u → gx_W G A s (wr ++ u) H1 locs1 → W p l e R s m args below meth c H1 locs1 (cells + mc) (slots + ms) Q (F0 m (pc + 3) ls (v.toList ++ rest))) : W p l e R s m args below meth c H locs cells slots Q (F0 m pc ls st0) := by
  intro T hT X
  obtain ⟨v, st₀, t, T', L', h0, X', hL, e1, e2, ⟨⟨v', u, hv, hp, hP1, hD1⟩, hF⟩, st⟩ := hr T hT X
  cases hv
  have hf := gx_frame hW.cut C.2.2.1
  obtain ⟨k1, k2, k3⟩ := vx_keep h0 e1 hW.2.2 (fun q _ h => hf q h) hf hL hF
  obtain ⟨t2, a1, b1⟩ := kk v u T'.heap (locs ++ L') hp (gx_join hW C.2.2.1 (by rw [e1]; exact hP1) hD1 k2 k3) T' rfl X'
  exact ⟨t2, st t2 a1, b1⟩
theorem gx_retX {mc ms : Nat} {a : Array Value} (C : gx_C G p s m args meth c cc nL own A) (hW : gx_W G A s (wr ++ wc) H locs) (hr : vx_Run p l e R s m args below meth c H locs cells slots mc ms (F0 m pc ls st0) rest (gx_Q G (va_A wc H.size) post a) (gx_X G (va_A wc H.size) px) (va_A wc H.size))
    (kx : ∀ (E : String) (ce : Cell) (q9 : Addr) (u : va_W) (H1 : Heap) (locs1 : List Loc), px E u → gx_W G A s (wr ++ u) H1 locs1 → H1[q9]? = some ce → ce.vm = .none → s.vm.findClass E = some ce.cls → vx_W p l e R s m args below meth c H1 locs1 (cells + mc) (slots + ms) Q (F0 m pc ls rest) q9)
    (kk : ∀ (v : Option Value) (u : va_W) (H1 : Heap) (locs1 : List Loc), post v u → gx_W G A s (wr ++ u) H1 locs1 → W p l e R s m args below meth c H1 locs1 (cells + mc) (slots + ms) Q (F0 m (pc + 3) ls (v.toList ++ rest))) : W p l e R s m args below meth c H locs cells slots Q (F0 m pc ls st0) := by
  intro T hT X
  have hf := gx_frame hW.cut C.2.2.1
  rcases hr T hT X with ⟨v, st₀, t, T', L', h0, X', hL, e1, e2, ⟨⟨v', u, hv, hp, hP1, hD1⟩, hF⟩, st⟩ | ⟨q, st₀, t, T', L', E, ce, h0, X', hL, e1, e2, ⟨⟨u, hp, hP1, hD1⟩, hF⟩, hce, hcv, hcl, st⟩
  · cases hv
    obtain ⟨k1, k2, k3⟩ := vx_keep h0 e1 hW.2.2 (fun q _ h => hf q h) hf hL hF
    obtain ⟨t2, a1, b1⟩ := kk v u T'.heap (locs ++ L') hp (gx_join hW C.2.2.1 (by rw [e1]; exact hP1) hD1 k2 k3) T' rfl X'
    exact ⟨t2, st t2 a1, b1⟩
  · obtain ⟨k1, k2, k3⟩ := vx_keep h0 e1 hW.2.2 (fun q _ h => hf q h) hf hL hF
    obtain ⟨t2, a1, b1⟩ := kx E ce q u T'.heap (locs ++ L') hp (gx_join hW C.2.2.1 (by rw [e1]; exact hP1) hD1 k2 k3) (by rw [e1]; exact hce) hcv hcl T' rfl X'
    exact ⟨t2, st.trans a1, b1⟩
/-- CALL SITES: what the tables say -/
def gx_desc (y : MethodName) (k : Nat) : Prop := y.cls ≠ "java/lang/invoke/MethodHandle" ∧ y.cls ≠ "java/lang/invoke/VarHandle" ∧ (parseMethodDescriptor y.desc).map (fun d => d.parameters.length) = some k
def gx_sV (own : String) (idx : Nat) (y : MethodName) (b : ByteArray) (n : Nat) (r : Option FieldType) (k : Nat) : Prop := (Cond.methodLink own idx y ∈ lw_all ∧ Cond.instanceMethod y ∈ lw_all ∧ Cond.selects y.cls y y ∈ lw_all ∧ Cond.initialized y.cls ∈ lw_all ∧ Cond.code y b n r ∈ lw_all) ∧ gx_desc y k
def gx_sVK (own : String) (idx : Nat) (K : String) (y : MethodName) (b : ByteArray) (n : Nat) (r : Option FieldType) (k : Nat) : Prop := (Cond.methodLink own idx y ∈ lw_all ∧ Cond.instanceMethod y ∈ lw_all ∧ Cond.selects K y y ∈ lw_all ∧ Cond.initialized y.cls ∈ lw_all ∧ Cond.code y b n r ∈ lw_all) ∧ gx_desc y k
def gx_sS (own : String) (idx : Nat) (y : MethodName) (b : ByteArray) (n : Nat) (r : Option FieldType) (k : Nat) : Prop := (Cond.methodLink own idx y ∈ lw_all ∧ Cond.static y ∈ lw_all ∧ Cond.initialized y.cls ∈ lw_all ∧ Cond.code y b n r ∈ lw_all) ∧ gx_desc y k
def gx_sI (own : String) (idx : Nat) (y : MethodName) (b : ByteArray) (n : Nat) (k : Nat) : Prop := (Cond.methodLink own idx y ∈ lw_all ∧ Cond.instanceMethod y ∈ lw_all ∧ Cond.initialized y.cls ∈ lw_all ∧ Cond.code y b n none ∈ lw_all) ∧ y.name = "<init>" ∧ gx_desc y k
def gx_sVN (own : String) (idx : Nat) (y : MethodName) (host : String) (b : ByteArray) (n : Nat) (r : Option FieldType) (k : Nat) : Prop := ((own, idx, y, host) ∈ gx_nM ∧ Cond.instanceMethod y ∈ lw_all ∧ Cond.selects y.cls y y ∈ lw_all ∧ Cond.initialized y.cls ∈ lw_all ∧ Cond.code y b n r ∈ lw_all) ∧ gx_desc y k
def gx_sIN (own : String) (idx : Nat) (y : MethodName) (host : String) (b : ByteArray) (n : Nat) (k : Nat) : Prop := ((own, idx, y, host) ∈ gx_nM ∧ Cond.instanceMethod y ∈ lw_all ∧ Cond.initialized y.cls ∈ lw_all ∧ Cond.code y b n none ∈ lw_all) ∧ y.name = "<init>" ∧ gx_desc y k
def gx_sU (own : String) (idx : Nat) (C owner : String) (x y : MethodName) (b : ByteArray) (n : Nat) (r : Option FieldType) (k : Nat) : Prop := (Cond.methodLink own idx x ∈ lw_all ∧ Cond.sameMethod x.cls owner x.name x.desc ∈ lw_all ∧ Cond.selects C x y ∈ lw_all ∧ Cond.instanceMethod y ∈ lw_all ∧ Cond.initialized y.cls ∈ lw_all ∧ Cond.code y b n r ∈ lw_all) ∧ y = ⟨owner, x.name, x.desc⟩ ∧ owner ≠ "java/lang/invoke/MethodHandle" ∧ owner ≠ "java/lang/invoke/VarHandle" ∧ (parseMethodDescriptor x.desc).map (fun d => d.parameters.length) = some k
def gx_sSU (own : String) (idx : Nat) (y : MethodName) (b : ByteArray) (n : Nat) (r : Option FieldType) (k : Nat) : Prop := (Cond.methodLink own idx y ∈ lw_all ∧ Cond.sameMethod y.cls y.cls y.name y.desc ∈ lw_all ∧ Cond.superclass own y.cls ∈ lw_all ∧ Cond.instanceMethod y ∈ lw_all ∧ Cond.initialized y.cls ∈ lw_all ∧ Cond.code y b n r ∈ lw_all) ∧ y.name ≠ "<init>" ∧ (parseMethodDescriptor y.desc).map (fun d => d.parameters.length) = some k
theorem gx_goodV (hs : gx_sV own idx y b n r k) : GoodIn lw_all (wsV own idx y.cls y (gx_ws y b n r)) := goodIn_app (fun w hw => gx_good w (by
  obtain ⟨⟨h1, h2, h3, h4, h5⟩, -⟩ := hs
  simp only [List.mem_cons, List.not_mem_nil, or_false] at hw
  rcases hw with rfl | rfl | rfl | rfl <;> assumption)) (gx_goodws hs.1.2.2.2.2)
theorem gx_goodS (hs : gx_sS own idx y b n r k) : GoodIn lw_all (va_wsS own idx y (gx_ws y b n r)) := goodIn_app (fun w hw => gx_good w (by
  obtain ⟨⟨h1, h2, h3, h4⟩, -⟩ := hs
  simp only [List.mem_cons, List.not_mem_nil, or_false] at hw
  rcases hw with rfl | rfl | rfl <;> assumption)) (gx_goodws hs.1.2.2.2)
theorem gx_goodU {C owner : String} {x : MethodName} (hs : gx_sU own idx C owner x y b n r k) : GoodIn lw_all (va_wsU own idx C owner x y (gx_ws y b n r)) := goodIn_app (fun w hw => gx_good w (by
  obtain ⟨⟨h1, h2, h3, h4, h5, h6⟩, -⟩ := hs
  simp only [List.mem_cons, List.not_mem_nil, or_false] at hw
  rcases hw with rfl | rfl | rfl | rfl | rfl <;> assumption)) (gx_goodws hs.1.2.2.2.2.2)
theorem gx_goodSU (hs : gx_sSU own idx y b n r k) : GoodIn lw_all (va_wsSU own idx y (gx_ws y b n r)) := goodIn_app (fun w hw => gx_good w (by
  obtain ⟨⟨h1, h2, h3, h4, h5, h6⟩, -⟩ := hs
  simp only [List.mem_cons, List.not_mem_nil, or_false] at hw
  rcases hw with rfl | rfl | rfl | rfl | rfl <;> assumption)) (gx_goodws hs.1.2.2.2.2.2)
theorem gx_recv (C : gx_C G p s m args meth c cc nL own A) (hW : gx_W G A s ws H locs) {ci N : Nat} {K : String} {T : u_T} {fs : List Value} (ho : gx_at ws o (.inr (ci, fs))) (hc : vwCl[ci]? = some (K, T, N)) : ∃ cell : Cell, H[o]? = some cell ∧ cell.vm.isStatics = false ∧ s.vm.findClass K = some cell.cls := by
  obtain ⟨q0, hq⟩ := ho
  exact va_recv C.2.2.2.1 hW.1 hc hq
abbrev gx_room (rm R : Room) (n : Nat) : Prop := rm.frames + 1 ≤ R.frames ∧ 8 + (n + 11) + rm.locals ≤ R.locals
/-- invokevirtual of the object's own class -/
theorem gx_callV (C : gx_C G p s m args meth c cc nL own A) (hW : gx_W G A s (wr ++ wc) H locs) (hs : gx_sV own idx y b n r k) (hM : gx_M l G y b n r rm (.ref o :: As) wc post) {ci N : Nat} {T : u_T} {fs : List Value} (ho : gx_at wc o (.inr (ci, fs))) (hc : vwCl[ci]? = some (y.cls, T, N)) (hn : As.length = k) (hR : gx_room rm R n) (hsize : ls.size = nL) (hst : st0 = As.reverse ++ .ref o :: rest) (hrest : (rest.map fun v => v.category).sum ≤ 8) (d : decode cc pc = .ok (.invokevirtual idx, 3)) (hf : cells + rm.cells ≤ R.cells ∧ slots + rm.slots ≤ R.slots)
    (kk : ∀ (v : Option Value) (u : va_W) (H1 : Heap) (locs1 : List Loc), post v u → gx_W G A s (wr ++ u) H1 locs1 → W p l e R s m args below meth c H1 locs1 (cells + rm.cells) (slots + rm.slots) Q (F0 m (pc + 3) ls (v.toList ++ rest))) : W p l e R s m args below meth c H locs cells slots Q (F0 m pc ls st0) :=
  gx_ret C hW (va_runV (As := As) (rest := rest) C.1 (hM H.size) (cwV k C.ts (gx_goodV hs) rfl rfl rfl ⟨rfl, hs.2.1, hs.2.2.1, hs.2.2.2⟩ hR) ⟨(gx_pre C hW.cut _).1, gx_recv C hW.cut ho hc, (gx_pre C hW.cut _).2⟩ rfl hn hsize hst (lv_room hrest) d hf) kk
theorem gx_callVK {K : String} (C : gx_C G p s m args meth c cc nL own A) (hW : gx_W G A s (wr ++ wc) H locs) (hs : gx_sVK own idx K y b n r k) (hM : gx_M l G y b n r rm (.ref o :: As) wc post) {ci N : Nat} {T : u_T} {fs : List Value} (ho : gx_at wc o (.inr (ci, fs))) (hc : vwCl[ci]? = some (K, T, N)) (hn : As.length = k) (hR : gx_room rm R n) (hsize : ls.size = nL) (hst : st0 = As.reverse ++ .ref o :: rest) (hrest : (rest.map fun v => v.category).sum ≤ 8) (d : decode cc pc = .ok (.invokevirtual idx, 3)) (hf : cells + rm.cells ≤ R.cells ∧ slots + rm.slots ≤ R.slots)
    (kk : ∀ (v : Option Value) (u : va_W) (H1 : Heap) (locs1 : List Loc), post v u → gx_W G A s (wr ++ u) H1 locs1 → W p l e R s m args below meth c H1 locs1 (cells + rm.cells) (slots + rm.slots) Q (F0 m (pc + 3) ls (v.toList ++ rest))) : W p l e R s m args below meth c H locs cells slots Q (F0 m pc ls st0) :=
  gx_ret C hW (va_runV (As := As) (rest := rest) C.1 (hM H.size) ⟨callB_of k C.ts (gx_goodws hs.1.2.2.2.2) rfl rfl rfl (C.ts _ hs.1.2.2.2.1) (C.ts _ hs.1.1) hs.2 hR, C.ts _ hs.1.2.1, C.ts _ hs.1.2.2.1⟩ ⟨(gx_pre C hW.cut _).1, gx_recv C hW.cut ho hc, (gx_pre C hW.cut _).2⟩ rfl hn hsize hst (lv_room hrest) d hf) kk
theorem gx_callVN {host : String} (C : gx_C G p s m args meth c cc nL own A) (hW : gx_W G A s (wr ++ wc) H locs) (hs : gx_sVN own idx y host b n r k) (hM : gx_M l G y b n r rm (.ref o :: As) wc post) {ci N : Nat} {T : u_T} {fs : List Value} (ho : gx_at wc o (.inr (ci, fs))) (hc : vwCl[ci]? = some (y.cls, T, N)) (hn : As.length = k) (hR : gx_room rm R n) (hsize : ls.size = nL) (hst : st0 = As.reverse ++ .ref o :: rest) (hrest : (rest.map fun v => v.category).sum ≤ 8) (d : decode cc pc = .ok (.invokevirtual idx, 3)) (hf : cells + rm.cells ≤ R.cells ∧ slots + rm.slots ≤ R.slots)
    (kk : ∀ (v : Option Value) (u : va_W) (H1 : Heap) (locs1 : List Loc), post v u → gx_W G A s (wr ++ u) H1 locs1 → W p l e R s m args below meth c H1 locs1 (cells + rm.cells) (slots + rm.slots) Q (F0 m (pc + 3) ls (v.toList ++ rest))) : W p l e R s m args below meth c H locs cells slots Q (F0 m pc ls st0) :=
  gx_ret C hW (va_runVN (As := As) (rest := rest) C.1 (hM H.size) ⟨va_cnB k C.ts (gx_goodws hs.1.2.2.2.2) rfl rfl rfl (C.2.2.2.2.1.2.1 _ hs.1.1) (C.ts _ hs.1.2.2.2.1) hs.2 hR, C.ts _ hs.1.2.1, C.ts _ hs.1.2.2.1⟩ ⟨(gx_pre C hW.cut _).1, gx_recv C hW.cut ho hc, (gx_pre C hW.cut _).2⟩ rfl hn hsize hst (lv_room hrest) d hf) kk
theorem gx_callU {K owner : String} {x : MethodName} (C : gx_C G p s m args meth c cc nL own A) (hW : gx_W G A s (wr ++ wc) H locs) (hs : gx_sU own idx K owner x y b n r k) (hM : gx_M l G y b n r rm (.ref o :: As) wc post) {ci N : Nat} {T : u_T} {fs : List Value} (ho : gx_at wc o (.inr (ci, fs))) (hc : vwCl[ci]? = some (K, T, N)) (hn : As.length = k) (hR : gx_room rm R n) (hsize : ls.size = nL) (hst : st0 = As.reverse ++ .ref o :: rest) (hrest : (rest.map fun v => v.category).sum ≤ 8) (d : decode cc pc = .ok (.invokevirtual idx, 3)) (hf : cells + rm.cells ≤ R.cells ∧ slots + rm.slots ≤ R.slots)
    (kk : ∀ (v : Option Value) (u : va_W) (H1 : Heap) (locs1 : List Loc), post v u → gx_W G A s (wr ++ u) H1 locs1 → W p l e R s m args below meth c H1 locs1 (cells + rm.cells) (slots + rm.slots) Q (F0 m (pc + 3) ls (v.toList ++ rest))) : W p l e R s m args below meth c H locs cells slots Q (F0 m pc ls st0) :=
  gx_ret C hW (va_runU (As := As) (rest := rest) C.1 (hM H.size) (va_cwU k C.ts (gx_goodU hs) rfl rfl rfl hs.2.1 hs.2.2 hR) ⟨(gx_pre C hW.cut _).1, gx_recv C hW.cut ho hc, (gx_pre C hW.cut _).2⟩ rfl hn hsize hst (lv_room hrest) d hf) kk
/-- invokespecial of a superclass's method -/
theorem gx_callSU {K : String} (C : gx_C G p s m args meth c cc nL own A) (hW : gx_W G A s (wr ++ wc) H locs) (hs : gx_sSU own idx y b n r k) (hM : gx_M l G y b n r rm (.ref o :: As) wc post) {ci N : Nat} {T : u_T} {fs : List Value} (ho : gx_at wc o (.inr (ci, fs))) (hc : vwCl[ci]? = some (K, T, N)) (hn : As.length = k) (hR : gx_room rm R n) (hsize : ls.size = nL) (hst : st0 = As.reverse ++ .ref o :: rest) (hrest : (rest.map fun v => v.category).sum ≤ 8) (d : decode cc pc = .ok (.invokespecial idx, 3)) (hf : cells + rm.cells ≤ R.cells ∧ slots + rm.slots ≤ R.slots)
    (kk : ∀ (v : Option Value) (u : va_W) (H1 : Heap) (locs1 : List Loc), post v u → gx_W G A s (wr ++ u) H1 locs1 → W p l e R s m args below meth c H1 locs1 (cells + rm.cells) (slots + rm.slots) Q (F0 m (pc + 3) ls (v.toList ++ rest))) : W p l e R s m args below meth c H locs cells slots Q (F0 m pc ls st0) :=
  gx_ret C hW (va_runSU (As := As) (rest := rest) (C.2.2.2.1.1 ci _ hc).2 C.1 (hM H.size) (va_cwSU k C.ts (gx_goodSU hs) rfl rfl rfl hs.2 hR) ⟨(gx_pre C hW.cut _).1, gx_recv C hW.cut ho hc, (gx_pre C hW.cut _).2⟩ rfl hn hsize hst (lv_room hrest) d hf) kk
/-- invokestatic -/
theorem gx_callS (C : gx_C G p s m args meth c cc nL own A) (hW : gx_W G A s (wr ++ wc) H locs) (hs : gx_sS own idx y b n r k) (hM : gx_M l G y b n r rm As wc post) (hn : As.length = k) (hR : gx_room rm R n) (hsize : ls.size = nL) (hst : st0 = As.reverse ++ rest) (hrest : (rest.map fun v => v.category).sum ≤ 8) (d : decode cc pc = .ok (.invokestatic idx, 3)) (hf : cells + rm.cells ≤ R.cells ∧ slots + rm.slots ≤ R.slots)
    (kk : ∀ (v : Option Value) (u : va_W) (H1 : Heap) (locs1 : List Loc), post v u → gx_W G A s (wr ++ u) H1 locs1 → W p l e R s m args below meth c H1 locs1 (cells + rm.cells) (slots + rm.slots) Q (F0 m (pc + 3) ls (v.toList ++ rest))) : W p l e R s m args below meth c H locs cells slots Q (F0 m pc ls st0) :=
  gx_ret C hW (va_runS (As := As) (rest := rest) C.1 (hM H.size) (va_cwS k C.ts (gx_goodS hs) rfl rfl rfl hs.2 hR) (gx_pre C hW.cut _) rfl hn hsize hst (lv_room hrest) d hf) kk
/-- invokespecial <init> -/
theorem gx_callI (C : gx_C G p s m args meth c cc nL own A) (hW : gx_W G A s (wr ++ wc) H locs) (hs : gx_sI own idx y b n k) (hM : gx_M l G y b n none rm (.ref o :: As) wc post) (hn : As.length = k) (hR : gx_room rm R n) (hsize : ls.size = nL) (hst : st0 = As.reverse ++ .ref o :: rest) (hrest : (rest.map fun v => v.category).sum ≤ 8) (d : decode cc pc = .ok (.invokespecial idx, 3)) (hf : cells + rm.cells ≤ R.cells ∧ slots + rm.slots ≤ R.slots)
    (kk : ∀ (v : Option Value) (u : va_W) (H1 : Heap) (locs1 : List Loc), post v u → gx_W G A s (wr ++ u) H1 locs1 → W p l e R s m args below meth c H1 locs1 (cells + rm.cells) (slots + rm.slots) Q (F0 m (pc + 3) ls (v.toList ++ rest))) : W p l e R s m args below meth c H locs cells slots Q (F0 m pc ls st0) :=
  gx_ret C hW (va_runI (As := As) (rest := rest) C.1 (hM H.size) (cwI k C.ts (gx_goodws hs.1.2.2.2) rfl rfl rfl (C.ts _ hs.1.2.2.1) (C.ts _ hs.1.1) (C.ts _ hs.1.2.1) hs.2.1 hs.2.2 hR) (gx_pre C hW.cut _) rfl hn hsize hst (lv_room hrest) d hf) kk
theorem gx_callIN {host : String} (C : gx_C G p s m args meth c cc nL own A) (hW : gx_W G A s (wr ++ wc) H locs) (hs : gx_sIN own idx y host b n k) (hM : gx_M l G y b n none rm (.ref o :: As) wc post) (hn : As.length = k) (hR : gx_room rm R n) (hsize : ls.size = nL) (hst : st0 = As.reverse ++ .ref o :: rest) (hrest : (rest.map fun v => v.category).sum ≤ 8) (d : decode cc pc = .ok (.invokespecial idx, 3)) (hf : cells + rm.cells ≤ R.cells ∧ slots + rm.slots ≤ R.slots)
    (kk : ∀ (v : Option Value) (u : va_W) (H1 : Heap) (locs1 : List Loc), post v u → gx_W G A s (wr ++ u) H1 locs1 → W p l e R s m args below meth c H1 locs1 (cells + rm.cells) (slots + rm.slots) Q (F0 m (pc + 3) ls (v.toList ++ rest))) : W p l e R s m args below meth c H locs cells slots Q (F0 m pc ls st0) :=
  gx_ret C hW (va_runIN (As := As) (rest := rest) C.1 (hM H.size) ⟨va_cnB k C.ts (gx_goodws hs.1.2.2.2) rfl rfl rfl (C.2.2.2.2.1.2.1 _ hs.1.1) (C.ts _ hs.1.2.2.1) hs.2.2 hR, hs.2.1, C.ts _ hs.1.2.1⟩ (gx_pre C hW.cut _) rfl hn hsize hst (lv_room hrest) d hf) kk
/-- calls that may throw -/
theorem gx_callVX (C : gx_C G p s m args meth c cc nL own A) (hW : gx_W G A s (wr ++ wc) H locs) (hs : gx_sV own idx y b n r k) (hM : gx_MX l G y b n r rm (.ref o :: As) wc post px) {ci N : Nat} {T : u_T} {fs : List Value} (ho : gx_at wc o (.inr (ci, fs))) (hc : vwCl[ci]? = some (y.cls, T, N)) (hn : As.length = k) (hR : gx_room rm R n) (hsize : ls.size = nL) (hst : st0 = As.reverse ++ .ref o :: rest) (hrest : (rest.map fun v => v.category).sum ≤ 8) (d : decode cc pc = .ok (.invokevirtual idx, 3)) (hf : cells + rm.cells ≤ R.cells ∧ slots + rm.slots ≤ R.slots)
    (kx : ∀ (E : String) (ce : Cell) (q9 : Addr) (u : va_W) (H1 : Heap) (locs1 : List Loc), px E u → gx_W G A s (wr ++ u) H1 locs1 → H1[q9]? = some ce → ce.vm = .none → s.vm.findClass E = some ce.cls → vx_W p l e R s m args below meth c H1 locs1 (cells + rm.cells) (slots + rm.slots) Q (F0 m pc ls rest) q9)
    (kk : ∀ (v : Option Value) (u : va_W) (H1 : Heap) (locs1 : List Loc), post v u → gx_W G A s (wr ++ u) H1 locs1 → W p l e R s m args below meth c H1 locs1 (cells + rm.cells) (slots + rm.slots) Q (F0 m (pc + 3) ls (v.toList ++ rest))) : W p l e R s m args below meth c H locs cells slots Q (F0 m pc ls st0) :=
  gx_retX C hW (vx_runV (As := As) (rest := rest) C.1 (hM H.size) (cwV k C.ts (gx_goodV hs) rfl rfl rfl ⟨rfl, hs.2.1, hs.2.2.1, hs.2.2.2⟩ hR) ⟨(gx_pre C hW.cut _).1, gx_recv C hW.cut ho hc, (gx_pre C hW.cut _).2⟩ rfl hn hsize hst (lv_room hrest) d hf) kx kk
theorem gx_callSX (C : gx_C G p s m args meth c cc nL own A) (hW : gx_W G A s (wr ++ wc) H locs) (hs : gx_sS own idx y b n r k) (hM : gx_MX l G y b n r rm As wc post px) (hn : As.length = k) (hR : gx_room rm R n) (hsize : ls.size = nL) (hst : st0 = As.reverse ++ rest) (hrest : (rest.map fun v => v.category).sum ≤ 8) (d : decode cc pc = .ok (.invokestatic idx, 3)) (hf : cells + rm.cells ≤ R.cells ∧ slots + rm.slots ≤ R.slots)
    (kx : ∀ (E : String) (ce : Cell) (q9 : Addr) (u : va_W) (H1 : Heap) (locs1 : List Loc), px E u → gx_W G A s (wr ++ u) H1 locs1 → H1[q9]? = some ce → ce.vm = .none → s.vm.findClass E = some ce.cls → vx_W p l e R s m args below meth c H1 locs1 (cells + rm.cells) (slots + rm.slots) Q (F0 m pc ls rest) q9)
    (kk : ∀ (v : Option Value) (u : va_W) (H1 : Heap) (locs1 : List Loc), post v u → gx_W G A s (wr ++ u) H1 locs1 → W p l e R s m args below meth c H1 locs1 (cells + rm.cells) (slots + rm.slots) Q (F0 m (pc + 3) ls (v.toList ++ rest))) : W p l e R s m args below meth c H locs cells slots Q (F0 m pc ls st0) :=
  gx_retX C hW (vx_runS (As := As) (rest := rest) C.1 (hM H.size) (va_cwS k C.ts (gx_goodS hs) rfl rfl rfl hs.2 hR) (gx_pre C hW.cut _) rfl hn hsize hst (lv_room hrest) d hf) kx kk
/-- ENTRIES -/
theorem gx_start {av : List Value} (hy : plainName y.cls = true) (hlen : (lg_sl av).length ≤ n)
    (body : ∀ (p : Program) (e : Env) (s : State) (m : MethodId) (args : Array Value) (below : List Frame) (meth : Method) (c : Code) (A : Nat → Prop) (ls : Array Slot), gx_C G p s m args meth c b n y.cls A → meth.sig.returnType = r → meth.name = y.name → gx_W G A s ws s.heap [] → lv_has ls n (lv_args 0 av) →
      W p l e rm s m args below meth c s.heap [] 0 0 (MQ below (gx_Q G A post) args s rm.cells rm.slots A) (F0 m 0 ls [])) : gx_M l G y b n r rm av ws post := by
  intro sz
  refine Met.ofW (cc := b) (maxL := n) (ret := r) hy rfl ?_
  intro p e s m args below meth c s₁ B hml hv
  obtain ⟨rfl, hsz, hP, hD, hK⟩ := hv
  subst hsz
  have hts := atoms_spec (ws := gx_ws y b n r) B.pre
  have hl := lv_entry av hlen
  rw [lg_entry_eq]
  exact body p e s m _ below meth c (va_A ws s.heap.size) _ ⟨⟨B.exec, B.bytes, hml, findClass_of_methodNamed B.named, fun w hw => hts w (List.mem_cons_of_mem _ hw)⟩, B.notSynchronized, fun q h => Or.inr h, hK⟩ B.returns (name_of_methodNamed B.named B.method).1 ⟨hP, hD.self, va_S.rf⟩ hl
theorem gx_startX {av : List Value} (hy : plainName y.cls = true) (hlen : (lg_sl av).length ≤ n)
    (body : ∀ (p : Program) (e : Env) (s : State) (m : MethodId) (args : Array Value) (below : List Frame) (meth : Method) (c : Code) (A : Nat → Prop) (ls : Array Slot), gx_C G p s m args meth c b n y.cls A → meth.sig.returnType = r → (∀ x ∈ c.exceptionTable.toList, False) → gx_W G A s ws s.heap [] → lv_has ls n (lv_args 0 av) →
      W p l e rm s m args below meth c s.heap [] 0 0 (vx_MQ below (gx_Q G A post) (gx_X G A px) args s rm.cells rm.slots A) (F0 m 0 ls [])) : gx_MX l G y b n r rm av ws post px := by
  intro sz
  refine vx_ofW (cc := b) (maxL := n) (ret := r) hy rfl ?_
  intro p e s m args below meth c s₁ B hml hno hv
  obtain ⟨rfl, hsz, hP, hD, hK⟩ := hv
  subst hsz
  have hts := atoms_spec (ws := gx_ws y b n r) B.pre
  have hl := lv_entry av hlen
  rw [lg_entry_eq]
  exact body p e s m _ below meth c (va_A ws s.heap.size) _ ⟨⟨B.exec, B.bytes, hml, findClass_of_methodNamed B.named, fun w hw => hts w (List.mem_cons_of_mem _ hw)⟩, B.notSynchronized, fun q h => Or.inr h, hK⟩ B.returns hno ⟨hP, hD.self, va_S.rf⟩ hl
/-- ENDS -/
theorem gx_end {v : Option Value} (hW : gx_W G A s ws H locs) (hp : post v ws) : ∀ t : State, t.heap = H → s.WarmedH t.vm → gx_Q G A post args s (.returned v) t := fun t ht _ => ⟨⟨v, ws, rfl, hp, by rw [ht]; exact hW.1, hW.2.1⟩, hW.2.2.F ht⟩
theorem gx_iret {v : Int32} {mc ms : Nat} (C : gx_C G p s m args meth c cc nL own A) (hr : meth.sig.returnType = some .int) (hW : gx_W G A s ws H locs) (hp : post (some (.int v)) ws) (hc : cells ≤ mc) (hs : slots ≤ ms) (d : decode cc pc = .ok (.ireturn, 1)) : W p l e R s m args below meth c H locs cells slots (MQ below (gx_Q G A post) args s mc ms A) (F0 m pc ls [.int v]) :=
  W.widen hc hs (W.iret C.x C.b hr (gx_end hW hp) hW.2.2.2.2 d C.2.1)
theorem gx_zret {v : Int32} {ty : FieldType} {mc ms : Nat} (C : gx_C G p s m args meth c cc nL own A) (hr : meth.sig.returnType = some ty) (hn : narrow ty (.int v) = .int v) (hW : gx_W G A s ws H locs) (hp : post (some (.int v)) ws) (hc : cells ≤ mc) (hs : slots ≤ ms) (d : decode cc pc = .ok (.ireturn, 1)) : W p l e R s m args below meth c H locs cells slots (MQ below (gx_Q G A post) args s mc ms A) (F0 m pc ls [.int v]) :=
  W.widen hc hs (W.zret C.x C.b hr hn (gx_end hW hp) hW.2.2.2.2 d C.2.1)
theorem gx_lret {v : Int64} {mc ms : Nat} (C : gx_C G p s m args meth c cc nL own A) (hr : meth.sig.returnType = some .long) (hW : gx_W G A s ws H locs) (hp : post (some (.long v)) ws) (hc : cells ≤ mc) (hs : slots ≤ ms) (d : decode cc pc = .ok (.lreturn, 1)) : W p l e R s m args below meth c H locs cells slots (MQ below (gx_Q G A post) args s mc ms A) (F0 m pc ls [.long v]) :=
  W.widen hc hs (W.lret C.x C.b hr (gx_end hW hp) hW.2.2.2.2 d C.2.1)
theorem gx_vret {mc ms : Nat} (C : gx_C G p s m args meth c cc nL own A) (hr : meth.sig.returnType = none) (hW : gx_W G A s ws H locs) (hp : post none ws) (hc : cells ≤ mc) (hs : slots ≤ ms) (d : decode cc pc = .ok (.return_, 1)) : W p l e R s m args below meth c H locs cells slots (MQ below (gx_Q G A post) args s mc ms A) (F0 m pc ls []) :=
  W.widen hc hs (W.vret C.x C.b hr (gx_end hW hp) hW.2.2.2.2 d C.2.1)
theorem gx_aret {v : Nat} {rt : FieldType} {mc ms : Nat} (C : gx_C G p s m args meth c cc nL own A) (hr : meth.sig.returnType = some rt) (hrt : (∃ n, rt = .object n) ∨ ∃ t, rt = .array t) (hW : gx_W G A s ws H locs) (hp : post (some (.ref v)) ws) (hc : cells ≤ mc) (hs : slots ≤ ms) (d : decode cc pc = .ok (.areturn, 1)) : W p l e R s m args below meth c H locs cells slots (MQ below (gx_Q G A post) args s mc ms A) (F0 m pc ls [.ref v]) :=
  W.widen hc hs (W.aret C.x C.b hr hrt (Or.inr ⟨v, rfl⟩) (gx_end hW hp) hW.2.2.2.2 d C.2.1)
end GCA
