/-! THE LAW: methods with handlers. -/
abbrev gx_wsH (y : MethodName) (b : ByteArray) (n : Nat) (r : Option FieldType) (hh : List (Nat × Nat × Nat × Nat)) : List Cond := .codeWith y b n r hh :: lw_all
abbrev gx_MH (l : Launch) (G : gx_T) (y : MethodName) (b : ByteArray) (n : Nat) (r : Option FieldType) (hh : List (Nat × Nat × Nat × Nat)) (rm : Room) (av : List Value) (ws : va_W) (post : Option Value → va_W → Prop) : Prop := ∀ sz : Nat, vx_Met l y (gx_wsH y b n r hh) rm (gx_P G av ws sz) (gx_Q G (va_A ws sz) post) (gx_X G (va_A ws sz) (fun _ _ => False)) rm.cells rm.slots (va_A ws sz)
def gx_sSH (own : String) (idx : Nat) (y : MethodName) (b : ByteArray) (n : Nat) (r : Option FieldType) (hh : List (Nat × Nat × Nat × Nat)) (k : Nat) : Prop := (Cond.methodLink own idx y ∈ lw_all ∧ Cond.static y ∈ lw_all ∧ Cond.initialized y.cls ∈ lw_all ∧ Cond.codeWith y b n r hh ∈ lw_all) ∧ gx_desc y k
section GH
variable {G : gx_T} {p : Program} {l : Launch} {e : Env} {R : Room} {s : State} {m : MethodId} {args : Array Value} {below : List Frame} {meth : Method} {c : Code} {H : Heap} {locs : List Loc} {cells slots : Nat} {Q : State → Prop}
variable {cc : ByteArray} {nL pc : Nat} {own : String} {A : Nat → Prop} {ls : Array Slot} {rest : List Value} {ws wr wc : va_W}
variable {y : MethodName} {b : ByteArray} {n : Nat} {r : Option FieldType} {hh : List (Nat × Nat × Nat × Nat)} {rm : Room} {post : Option Value → va_W → Prop}
theorem gx_startH {av : List Value} (hy : plainName y.cls = true) (hlen : (lg_sl av).length ≤ n)
    (body : ∀ (p : Program) (e : Env) (s : State) (m : MethodId) (args : Array Value) (below : List Frame) (meth : Method) (c : Code) (A : Nat → Prop) (ls : Array Slot), gx_C G p s m args meth c b n y.cls A → meth.sig.returnType = r → c.exceptionTable.toList = tableOf hh → gx_W G A s ws s.heap [] → lv_has ls n (lv_args 0 av) →
      W p l e rm s m args below meth c s.heap [] 0 0 (vx_MQ below (gx_Q G A post) (gx_X G A (fun _ _ => False)) args s rm.cells rm.slots A) (F0 m 0 ls [])) : gx_MH l G y b n r hh rm av ws post := by
  intro sz
  refine vx_ofWH (cc := b) (maxL := n) (ret := r) (hh := hh) hy rfl ?_
  intro p e s m args below meth c s₁ B hml hv
  obtain ⟨rfl, hsz, hP, hD, hK⟩ := hv
  subst hsz
  have hts := atoms_spec (ws := gx_wsH y b n r hh) B.pre
  have hl := lv_entry av hlen
  rw [lg_entry_eq]
  exact body p e s m _ below meth c (va_A ws s.heap.size) _ ⟨⟨B.exec, B.bytes, hml, findClass_of_methodNamed B.named, fun w hw => hts w (List.mem_cons_of_mem _ hw)⟩, B.notSynchronized, fun q h => Or.inr h, hK⟩ B.returns (vx_table (x := y) B (hts _ List.mem_cons_self)) ⟨hP, hD.self, va_S.rf⟩ hl
theorem gx_goodSH {idx k : Nat} (hs : gx_sSH own idx y b n r hh k) : GoodIn lw_all (va_wsS own idx y (gx_wsH y b n r hh)) := goodIn_app (fun w hw => gx_good w (by
  obtain ⟨⟨h1, h2, h3, h4⟩, -⟩ := hs
  simp only [List.mem_cons, List.not_mem_nil, or_false] at hw
  rcases hw with rfl | rfl | rfl <;> assumption)) (fun w hw => gx_good w (by
  rcases List.mem_cons.mp hw with h9 | h9
  · rw [h9]; exact hs.1.2.2.2
  · exact h9))
theorem gx_callSH {idx k : Nat} {As st0 : List Value} (C : gx_C G p s m args meth c cc nL own A) (hW : gx_W G A s (wr ++ wc) H locs) (hs : gx_sSH own idx y b n r hh k) (hM : gx_MH l G y b n r hh rm As wc post) (hn : As.length = k) (hR : gx_room rm R n) (hsize : ls.size = nL) (hst : st0 = As.reverse ++ rest) (hrest : (rest.map fun v => v.category).sum ≤ 8) (d : decode cc pc = .ok (.invokestatic idx, 3)) (hf : cells + rm.cells ≤ R.cells ∧ slots + rm.slots ≤ R.slots)
    (kk : ∀ (v : Option Value) (u : va_W) (H1 : Heap) (locs1 : List Loc), post v u → gx_W G A s (wr ++ u) H1 locs1 → W p l e R s m args below meth c H1 locs1 (cells + rm.cells) (slots + rm.slots) Q (F0 m (pc + 3) ls (v.toList ++ rest))) : W p l e R s m args below meth c H locs cells slots Q (F0 m pc ls st0) :=
  gx_retX (px := fun _ _ => False) C hW (vx_runSX (hh := hh) (As := As) (rest := rest) C.1 (hM H.size) (vx_cwSW k C.ts (gx_goodSH hs) rfl rfl rfl hs.2 hR) (gx_pre C hW.cut _) rfl hn hsize hst (lv_room hrest) d hf) (fun _ _ _ _ _ _ hpx _ _ _ _ => hpx.elim) kk
theorem gx_catch {E : String} {ce : Cell} {q : Addr} (C : gx_C G p s m args meth c cc nL own A) (pre : List ExceptionTableEntry) (x : ExceptionTableEntry) (suf : List ExceptionTableEntry) (hT : c.exceptionTable.toList = pre ++ x :: suf) (hpass : ∀ z ∈ pre, z.catchType ≠ 0 ∧ ∃ nm : String, Cond.classLink own z.catchType nm ∈ lw_all ∧ (E, nm) ∈ gx_nN) (hx : covers x pc = true) (h0 : x.catchType ≠ 0) (hlink : Cond.classLink own x.catchType E ∈ lw_all) (hcast : Cond.castable E E ∈ gx_nW) (hcell : H[q]? = some ce) (hv : ce.vm = .none) (hcl : s.vm.findClass E = some ce.cls)
    (kk : W p l e R s m args below meth c H locs cells slots Q (F0 m x.handlerPc ls [.ref q])) : vx_W p l e R s m args below meth c H locs cells slots Q (F0 m pc ls rest) q :=
  vx_catch C.hown pre x suf hT (fun z hz => Or.inr ⟨(hpass z hz).1, (hpass z hz).2.imp fun nm h => ⟨C.ts _ h.1, C.2.2.2.2.1.2.2.2.1 _ h.2⟩⟩) hx h0 (C.ts _ hlink) ((C.2.2.2.2.1.2.2.1 _ hcast).use ((Bool.and_eq_true _ _).mp (gx_nW_ok _ hcast)).1) hcell hv hcl kk
end GH
theorem dL_part_0 : decode cL_part 0 = .ok (.aload 9, 2) := by decide +kernel
theorem dL_part_2 : decode cL_part 2 = .ok (.iconst 0, 1) := by decide +kernel
theorem dL_part_3 : decode cL_part 3 = .ok (.aload_n 0, 1) := by decide +kernel
theorem dL_part_4 : decode cL_part 4 = .ok (.lload_n 1, 1) := by decide +kernel
theorem dL_part_5 : decode cL_part 5 = .ok (.lload_n 3, 1) := by decide +kernel
theorem dL_part_6 : decode cL_part 6 = .ok (.lload 5, 2) := by decide +kernel
theorem dL_part_8 : decode cL_part 8 = .ok (.lload 7, 2) := by decide +kernel
theorem dL_part_10 : decode cL_part 10 = .ok (.invokevirtual 7, 3) := by decide +kernel
theorem dL_part_13 : decode cL_part 13 = .ok (.i2l, 1) := by decide +kernel
theorem dL_part_14 : decode cL_part 14 = .ok (.lastore, 1) := by decide +kernel
theorem dL_part_15 : decode cL_part 15 = .ok (.goto 11, 3) := by decide +kernel
theorem dL_part_18 : decode cL_part 18 = .ok (.astore 10, 2) := by decide +kernel
theorem dL_part_20 : decode cL_part 20 = .ok (.iconst 1, 1) := by decide +kernel
theorem dL_part_21 : decode cL_part 21 = .ok (.ireturn, 1) := by decide +kernel
theorem dL_part_22 : decode cL_part 22 = .ok (.astore 10, 2) := by decide +kernel
theorem dL_part_24 : decode cL_part 24 = .ok (.iconst 2, 1) := by decide +kernel
theorem dL_part_25 : decode cL_part 25 = .ok (.ireturn, 1) := by decide +kernel
theorem dL_part_26 : decode cL_part 26 = .ok (.iconst 0, 1) := by decide +kernel
theorem dL_part_27 : decode cL_part 27 = .ok (.ireturn, 1) := by decide +kernel
theorem dL_foot_0 : decode cL_foot 0 = .ok (.aload 5, 2) := by decide +kernel
theorem dL_foot_2 : decode cL_foot 2 = .ok (.iconst 0, 1) := by decide +kernel
theorem dL_foot_3 : decode cL_foot 3 = .ok (.aload_n 0, 1) := by decide +kernel
theorem dL_foot_4 : decode cL_foot 4 = .ok (.lload_n 1, 1) := by decide +kernel
theorem dL_foot_5 : decode cL_foot 5 = .ok (.lload_n 3, 1) := by decide +kernel
theorem dL_foot_6 : decode cL_foot 6 = .ok (.invokevirtual 17, 3) := by decide +kernel
theorem dL_foot_9 : decode cL_foot 9 = .ok (.ifCond .eq 7, 3) := by decide +kernel
theorem dL_foot_12 : decode cL_foot 12 = .ok (.lconst 1, 1) := by decide +kernel
theorem dL_foot_13 : decode cL_foot 13 = .ok (.goto 4, 3) := by decide +kernel
theorem dL_foot_16 : decode cL_foot 16 = .ok (.lconst 0, 1) := by decide +kernel
theorem dL_foot_17 : decode cL_foot 17 = .ok (.lastore, 1) := by decide +kernel
theorem dL_foot_18 : decode cL_foot 18 = .ok (.goto 7, 3) := by decide +kernel
theorem dL_foot_21 : decode cL_foot 21 = .ok (.astore 6, 2) := by decide +kernel
theorem dL_foot_23 : decode cL_foot 23 = .ok (.iconst 1, 1) := by decide +kernel
theorem dL_foot_24 : decode cL_foot 24 = .ok (.ireturn, 1) := by decide +kernel
theorem dL_foot_25 : decode cL_foot 25 = .ok (.iconst 0, 1) := by decide +kernel
theorem dL_foot_26 : decode cL_foot 26 = .ok (.ireturn, 1) := by decide +kernel
theorem dL_drawer_0 : decode cL_drawer 0 = .ok (.aload 4, 2) := by decide +kernel
theorem dL_drawer_2 : decode cL_drawer 2 = .ok (.iconst 0, 1) := by decide +kernel
theorem dL_drawer_3 : decode cL_drawer 3 = .ok (.aload_n 0, 1) := by decide +kernel
theorem dL_drawer_4 : decode cL_drawer 4 = .ok (.iload_n 1, 1) := by decide +kernel
theorem dL_drawer_5 : decode cL_drawer 5 = .ok (.lload_n 2, 1) := by decide +kernel
theorem dL_drawer_6 : decode cL_drawer 6 = .ok (.invokevirtual 21, 3) := by decide +kernel
theorem dL_drawer_9 : decode cL_drawer 9 = .ok (.ifCond .eq 7, 3) := by decide +kernel
theorem dL_drawer_12 : decode cL_drawer 12 = .ok (.lconst 1, 1) := by decide +kernel
theorem dL_drawer_13 : decode cL_drawer 13 = .ok (.goto 4, 3) := by decide +kernel
theorem dL_drawer_16 : decode cL_drawer 16 = .ok (.lconst 0, 1) := by decide +kernel
theorem dL_drawer_17 : decode cL_drawer 17 = .ok (.lastore, 1) := by decide +kernel
theorem dL_drawer_18 : decode cL_drawer 18 = .ok (.goto 11, 3) := by decide +kernel
theorem dL_drawer_21 : decode cL_drawer 21 = .ok (.astore 5, 2) := by decide +kernel
theorem dL_drawer_23 : decode cL_drawer 23 = .ok (.iconst 1, 1) := by decide +kernel
theorem dL_drawer_24 : decode cL_drawer 24 = .ok (.ireturn, 1) := by decide +kernel
theorem dL_drawer_25 : decode cL_drawer 25 = .ok (.astore 5, 2) := by decide +kernel
theorem dL_drawer_27 : decode cL_drawer 27 = .ok (.iconst 2, 1) := by decide +kernel
theorem dL_drawer_28 : decode cL_drawer 28 = .ok (.ireturn, 1) := by decide +kernel
theorem dL_drawer_29 : decode cL_drawer 29 = .ok (.iconst 0, 1) := by decide +kernel
theorem dL_drawer_30 : decode cL_drawer 30 = .ok (.ireturn, 1) := by decide +kernel
theorem dL_person_0 : decode cL_person 0 = .ok (.aload 7, 2) := by decide +kernel
theorem dL_person_2 : decode cL_person 2 = .ok (.iconst 0, 1) := by decide +kernel
theorem dL_person_3 : decode cL_person 3 = .ok (.aload_n 0, 1) := by decide +kernel
theorem dL_person_4 : decode cL_person 4 = .ok (.lload_n 1, 1) := by decide +kernel
theorem dL_person_5 : decode cL_person 5 = .ok (.lload_n 3, 1) := by decide +kernel
theorem dL_person_6 : decode cL_person 6 = .ok (.lload 5, 2) := by decide +kernel
theorem dL_person_8 : decode cL_person 8 = .ok (.invokevirtual 27, 3) := by decide +kernel
theorem dL_person_11 : decode cL_person 11 = .ok (.ifCond .eq 7, 3) := by decide +kernel
theorem dL_person_14 : decode cL_person 14 = .ok (.lconst 1, 1) := by decide +kernel
theorem dL_person_15 : decode cL_person 15 = .ok (.goto 4, 3) := by decide +kernel
theorem dL_person_18 : decode cL_person 18 = .ok (.lconst 0, 1) := by decide +kernel
theorem dL_person_19 : decode cL_person 19 = .ok (.lastore, 1) := by decide +kernel
theorem dL_person_20 : decode cL_person 20 = .ok (.goto 7, 3) := by decide +kernel
theorem dL_person_23 : decode cL_person 23 = .ok (.astore 8, 2) := by decide +kernel
theorem dL_person_25 : decode cL_person 25 = .ok (.iconst 1, 1) := by decide +kernel
theorem dL_person_26 : decode cL_person 26 = .ok (.ireturn, 1) := by decide +kernel
theorem dL_person_27 : decode cL_person 27 = .ok (.iconst 0, 1) := by decide +kernel
theorem dL_person_28 : decode cL_person 28 = .ok (.ireturn, 1) := by decide +kernel
theorem dL_centre_0 : decode cL_centre 0 = .ok (.aload_n 3, 1) := by decide +kernel
theorem dL_centre_1 : decode cL_centre 1 = .ok (.iconst 0, 1) := by decide +kernel
theorem dL_centre_2 : decode cL_centre 2 = .ok (.aload_n 0, 1) := by decide +kernel
theorem dL_centre_3 : decode cL_centre 3 = .ok (.iload_n 1, 1) := by decide +kernel
theorem dL_centre_4 : decode cL_centre 4 = .ok (.iload_n 2, 1) := by decide +kernel
theorem dL_centre_5 : decode cL_centre 5 = .ok (.invokevirtual 31, 3) := by decide +kernel
theorem dL_centre_8 : decode cL_centre 8 = .ok (.lastore, 1) := by decide +kernel
theorem dL_centre_9 : decode cL_centre 9 = .ok (.goto 11, 3) := by decide +kernel
theorem dL_centre_12 : decode cL_centre 12 = .ok (.astore 4, 2) := by decide +kernel
theorem dL_centre_14 : decode cL_centre 14 = .ok (.iconst 1, 1) := by decide +kernel
theorem dL_centre_15 : decode cL_centre 15 = .ok (.ireturn, 1) := by decide +kernel
theorem dL_centre_16 : decode cL_centre 16 = .ok (.astore 4, 2) := by decide +kernel
theorem dL_centre_18 : decode cL_centre 18 = .ok (.iconst 2, 1) := by decide +kernel
theorem dL_centre_19 : decode cL_centre 19 = .ok (.ireturn, 1) := by decide +kernel
theorem dL_centre_20 : decode cL_centre 20 = .ok (.iconst 0, 1) := by decide +kernel
theorem dL_centre_21 : decode cL_centre 21 = .ok (.ireturn, 1) := by decide +kernel
theorem dL_side_0 : decode cL_side 0 = .ok (.aload_n 2, 1) := by decide +kernel
theorem dL_side_1 : decode cL_side 1 = .ok (.iconst 0, 1) := by decide +kernel
theorem dL_side_2 : decode cL_side 2 = .ok (.aload_n 0, 1) := by decide +kernel
theorem dL_side_3 : decode cL_side 3 = .ok (.iload_n 1, 1) := by decide +kernel
theorem dL_side_4 : decode cL_side 4 = .ok (.invokevirtual 35, 3) := by decide +kernel
theorem dL_side_7 : decode cL_side 7 = .ok (.i2l, 1) := by decide +kernel
theorem dL_side_8 : decode cL_side 8 = .ok (.lastore, 1) := by decide +kernel
theorem dL_side_9 : decode cL_side 9 = .ok (.goto 9, 3) := by decide +kernel
theorem dL_side_12 : decode cL_side 12 = .ok (.astore_n 3, 1) := by decide +kernel
theorem dL_side_13 : decode cL_side 13 = .ok (.iconst 1, 1) := by decide +kernel
theorem dL_side_14 : decode cL_side 14 = .ok (.ireturn, 1) := by decide +kernel
theorem dL_side_15 : decode cL_side 15 = .ok (.astore_n 3, 1) := by decide +kernel
theorem dL_side_16 : decode cL_side 16 = .ok (.iconst 2, 1) := by decide +kernel
theorem dL_side_17 : decode cL_side 17 = .ok (.ireturn, 1) := by decide +kernel
theorem dL_side_18 : decode cL_side 18 = .ok (.iconst 0, 1) := by decide +kernel
theorem dL_side_19 : decode cL_side 19 = .ok (.ireturn, 1) := by decide +kernel
theorem dL_tips_0 : decode cL_tips 0 = .ok (.aload_n 2, 1) := by decide +kernel
theorem dL_tips_1 : decode cL_tips 1 = .ok (.iconst 0, 1) := by decide +kernel
theorem dL_tips_2 : decode cL_tips 2 = .ok (.aload_n 0, 1) := by decide +kernel
theorem dL_tips_3 : decode cL_tips 3 = .ok (.iload_n 1, 1) := by decide +kernel
theorem dL_tips_4 : decode cL_tips 4 = .ok (.invokevirtual 39, 3) := by decide +kernel
theorem dL_tips_7 : decode cL_tips 7 = .ok (.i2l, 1) := by decide +kernel
theorem dL_tips_8 : decode cL_tips 8 = .ok (.lastore, 1) := by decide +kernel
theorem dL_tips_9 : decode cL_tips 9 = .ok (.goto 9, 3) := by decide +kernel
theorem dL_tips_12 : decode cL_tips 12 = .ok (.astore_n 3, 1) := by decide +kernel
theorem dL_tips_13 : decode cL_tips 13 = .ok (.iconst 1, 1) := by decide +kernel
theorem dL_tips_14 : decode cL_tips 14 = .ok (.ireturn, 1) := by decide +kernel
theorem dL_tips_15 : decode cL_tips 15 = .ok (.astore_n 3, 1) := by decide +kernel
theorem dL_tips_16 : decode cL_tips 16 = .ok (.iconst 2, 1) := by decide +kernel
theorem dL_tips_17 : decode cL_tips 17 = .ok (.ireturn, 1) := by decide +kernel
theorem dL_tips_18 : decode cL_tips 18 = .ok (.iconst 0, 1) := by decide +kernel
theorem dL_tips_19 : decode cL_tips 19 = .ok (.ireturn, 1) := by decide +kernel
theorem dL_moment_0 : decode cL_moment 0 = .ok (.aload_n 3, 1) := by decide +kernel
theorem dL_moment_1 : decode cL_moment 1 = .ok (.iconst 0, 1) := by decide +kernel
theorem dL_moment_2 : decode cL_moment 2 = .ok (.aload_n 0, 1) := by decide +kernel
theorem dL_moment_3 : decode cL_moment 3 = .ok (.iload_n 1, 1) := by decide +kernel
theorem dL_moment_4 : decode cL_moment 4 = .ok (.iload_n 2, 1) := by decide +kernel
theorem dL_moment_5 : decode cL_moment 5 = .ok (.invokevirtual 42, 3) := by decide +kernel
theorem dL_moment_8 : decode cL_moment 8 = .ok (.lastore, 1) := by decide +kernel
theorem dL_moment_9 : decode cL_moment 9 = .ok (.goto 11, 3) := by decide +kernel
theorem dL_moment_12 : decode cL_moment 12 = .ok (.astore 4, 2) := by decide +kernel
theorem dL_moment_14 : decode cL_moment 14 = .ok (.iconst 1, 1) := by decide +kernel
theorem dL_moment_15 : decode cL_moment 15 = .ok (.ireturn, 1) := by decide +kernel
theorem dL_moment_16 : decode cL_moment 16 = .ok (.astore 4, 2) := by decide +kernel
theorem dL_moment_18 : decode cL_moment 18 = .ok (.iconst 2, 1) := by decide +kernel
theorem dL_moment_19 : decode cL_moment 19 = .ok (.ireturn, 1) := by decide +kernel
theorem dL_moment_20 : decode cL_moment 20 = .ok (.iconst 0, 1) := by decide +kernel
theorem dL_moment_21 : decode cL_moment 21 = .ok (.ireturn, 1) := by decide +kernel
theorem dL_most_0 : decode cL_most 0 = .ok (.aload_n 1, 1) := by decide +kernel
theorem dL_most_1 : decode cL_most 1 = .ok (.iconst 0, 1) := by decide +kernel
theorem dL_most_2 : decode cL_most 2 = .ok (.aload_n 0, 1) := by decide +kernel
theorem dL_most_3 : decode cL_most 3 = .ok (.invokevirtual 45, 3) := by decide +kernel
theorem dL_most_6 : decode cL_most 6 = .ok (.i2l, 1) := by decide +kernel
theorem dL_most_7 : decode cL_most 7 = .ok (.lastore, 1) := by decide +kernel
theorem dL_most_8 : decode cL_most 8 = .ok (.goto 6, 3) := by decide +kernel
theorem dL_most_11 : decode cL_most 11 = .ok (.astore_n 2, 1) := by decide +kernel
theorem dL_most_12 : decode cL_most 12 = .ok (.iconst 1, 1) := by decide +kernel
theorem dL_most_13 : decode cL_most 13 = .ok (.ireturn, 1) := by decide +kernel
theorem dL_most_14 : decode cL_most 14 = .ok (.iconst 0, 1) := by decide +kernel
theorem dL_most_15 : decode cL_most 15 = .ok (.ireturn, 1) := by decide +kernel
theorem dL_test_0 : decode cL_test 0 = .ok (.aload_n 3, 1) := by decide +kernel
theorem dL_test_1 : decode cL_test 1 = .ok (.iconst 0, 1) := by decide +kernel
theorem dL_test_2 : decode cL_test 2 = .ok (.aload_n 0, 1) := by decide +kernel
theorem dL_test_3 : decode cL_test 3 = .ok (.iload_n 1, 1) := by decide +kernel
theorem dL_test_4 : decode cL_test 4 = .ok (.iload_n 2, 1) := by decide +kernel
theorem dL_test_5 : decode cL_test 5 = .ok (.invokevirtual 49, 3) := by decide +kernel
theorem dL_test_8 : decode cL_test 8 = .ok (.i2l, 1) := by decide +kernel
theorem dL_test_9 : decode cL_test 9 = .ok (.lastore, 1) := by decide +kernel
theorem dL_test_10 : decode cL_test 10 = .ok (.goto 15, 3) := by decide +kernel
theorem dL_test_13 : decode cL_test 13 = .ok (.astore 4, 2) := by decide +kernel
theorem dL_test_15 : decode cL_test 15 = .ok (.iconst 1, 1) := by decide +kernel
theorem dL_test_16 : decode cL_test 16 = .ok (.ireturn, 1) := by decide +kernel
theorem dL_test_17 : decode cL_test 17 = .ok (.astore 4, 2) := by decide +kernel
theorem dL_test_19 : decode cL_test 19 = .ok (.iconst 2, 1) := by decide +kernel
theorem dL_test_20 : decode cL_test 20 = .ok (.ireturn, 1) := by decide +kernel
theorem dL_test_21 : decode cL_test 21 = .ok (.astore 4, 2) := by decide +kernel
theorem dL_test_23 : decode cL_test 23 = .ok (.iconst 3, 1) := by decide +kernel
theorem dL_test_24 : decode cL_test 24 = .ok (.ireturn, 1) := by decide +kernel
theorem dL_test_25 : decode cL_test 25 = .ok (.iconst 0, 1) := by decide +kernel
theorem dL_test_26 : decode cL_test 26 = .ok (.ireturn, 1) := by decide +kernel
theorem dL_anchor_0 : decode cL_anchor 0 = .ok (.aload_n 1, 1) := by decide +kernel
theorem dL_anchor_1 : decode cL_anchor 1 = .ok (.iconst 0, 1) := by decide +kernel
theorem dL_anchor_2 : decode cL_anchor 2 = .ok (.aload_n 0, 1) := by decide +kernel
theorem dL_anchor_3 : decode cL_anchor 3 = .ok (.invokevirtual 53, 3) := by decide +kernel
theorem dL_anchor_6 : decode cL_anchor 6 = .ok (.ifCond .eq 7, 3) := by decide +kernel
theorem dL_anchor_9 : decode cL_anchor 9 = .ok (.lconst 1, 1) := by decide +kernel
theorem dL_anchor_10 : decode cL_anchor 10 = .ok (.goto 4, 3) := by decide +kernel
theorem dL_anchor_13 : decode cL_anchor 13 = .ok (.lconst 0, 1) := by decide +kernel
theorem dL_anchor_14 : decode cL_anchor 14 = .ok (.lastore, 1) := by decide +kernel
theorem dL_anchor_15 : decode cL_anchor 15 = .ok (.goto 6, 3) := by decide +kernel
theorem dL_anchor_18 : decode cL_anchor 18 = .ok (.astore_n 2, 1) := by decide +kernel
theorem dL_anchor_19 : decode cL_anchor 19 = .ok (.iconst 1, 1) := by decide +kernel
theorem dL_anchor_20 : decode cL_anchor 20 = .ok (.ireturn, 1) := by decide +kernel
theorem dL_anchor_21 : decode cL_anchor 21 = .ok (.iconst 0, 1) := by decide +kernel
theorem dL_anchor_22 : decode cL_anchor 22 = .ok (.ireturn, 1) := by decide +kernel
theorem dL_wobble_0 : decode cL_wobble 0 = .ok (.aload 9, 2) := by decide +kernel
theorem dL_wobble_2 : decode cL_wobble 2 = .ok (.iconst 0, 1) := by decide +kernel
theorem dL_wobble_3 : decode cL_wobble 3 = .ok (.aload_n 0, 1) := by decide +kernel
theorem dL_wobble_4 : decode cL_wobble 4 = .ok (.lload_n 1, 1) := by decide +kernel
theorem dL_wobble_5 : decode cL_wobble 5 = .ok (.lload_n 3, 1) := by decide +kernel
theorem dL_wobble_6 : decode cL_wobble 6 = .ok (.lload 5, 2) := by decide +kernel
theorem dL_wobble_8 : decode cL_wobble 8 = .ok (.lload 7, 2) := by decide +kernel
theorem dL_wobble_10 : decode cL_wobble 10 = .ok (.invokevirtual 57, 3) := by decide +kernel
theorem dL_wobble_13 : decode cL_wobble 13 = .ok (.dastore, 1) := by decide +kernel
theorem dL_wobble_14 : decode cL_wobble 14 = .ok (.goto 11, 3) := by decide +kernel
theorem dL_wobble_17 : decode cL_wobble 17 = .ok (.astore 10, 2) := by decide +kernel
theorem dL_wobble_19 : decode cL_wobble 19 = .ok (.iconst 1, 1) := by decide +kernel
theorem dL_wobble_20 : decode cL_wobble 20 = .ok (.ireturn, 1) := by decide +kernel
theorem dL_wobble_21 : decode cL_wobble 21 = .ok (.astore 10, 2) := by decide +kernel
theorem dL_wobble_23 : decode cL_wobble 23 = .ok (.iconst 2, 1) := by decide +kernel
theorem dL_wobble_24 : decode cL_wobble 24 = .ok (.ireturn, 1) := by decide +kernel
theorem dL_wobble_25 : decode cL_wobble 25 = .ok (.iconst 0, 1) := by decide +kernel
theorem dL_wobble_26 : decode cL_wobble 26 = .ok (.ireturn, 1) := by decide +kernel
theorem dL_bend_0 : decode cL_bend 0 = .ok (.aload 9, 2) := by decide +kernel
theorem dL_bend_2 : decode cL_bend 2 = .ok (.iconst 0, 1) := by decide +kernel
theorem dL_bend_3 : decode cL_bend 3 = .ok (.aload_n 0, 1) := by decide +kernel
theorem dL_bend_4 : decode cL_bend 4 = .ok (.dload_n 1, 1) := by decide +kernel
theorem dL_bend_5 : decode cL_bend 5 = .ok (.dload_n 3, 1) := by decide +kernel
theorem dL_bend_6 : decode cL_bend 6 = .ok (.dload 5, 2) := by decide +kernel
theorem dL_bend_8 : decode cL_bend 8 = .ok (.dload 7, 2) := by decide +kernel
theorem dL_bend_10 : decode cL_bend 10 = .ok (.invokevirtual 61, 3) := by decide +kernel
theorem dL_bend_13 : decode cL_bend 13 = .ok (.dastore, 1) := by decide +kernel
theorem dL_bend_14 : decode cL_bend 14 = .ok (.goto 7, 3) := by decide +kernel
theorem dL_bend_17 : decode cL_bend 17 = .ok (.astore 10, 2) := by decide +kernel
theorem dL_bend_19 : decode cL_bend 19 = .ok (.iconst 1, 1) := by decide +kernel
theorem dL_bend_20 : decode cL_bend 20 = .ok (.ireturn, 1) := by decide +kernel
theorem dL_bend_21 : decode cL_bend 21 = .ok (.iconst 0, 1) := by decide +kernel
theorem dL_bend_22 : decode cL_bend 22 = .ok (.ireturn, 1) := by decide +kernel
theorem dL_creep_0 : decode cL_creep 0 = .ok (.aload_n 2, 1) := by decide +kernel
theorem dL_creep_1 : decode cL_creep 1 = .ok (.iconst 0, 1) := by decide +kernel
theorem dL_creep_2 : decode cL_creep 2 = .ok (.aload_n 0, 1) := by decide +kernel
theorem dL_creep_3 : decode cL_creep 3 = .ok (.iload_n 1, 1) := by decide +kernel
theorem dL_creep_4 : decode cL_creep 4 = .ok (.invokevirtual 65, 3) := by decide +kernel
theorem dL_creep_7 : decode cL_creep 7 = .ok (.dastore, 1) := by decide +kernel
theorem dL_creep_8 : decode cL_creep 8 = .ok (.goto 6, 3) := by decide +kernel
theorem dL_creep_11 : decode cL_creep 11 = .ok (.astore_n 3, 1) := by decide +kernel
theorem dL_creep_12 : decode cL_creep 12 = .ok (.iconst 1, 1) := by decide +kernel
theorem dL_creep_13 : decode cL_creep 13 = .ok (.ireturn, 1) := by decide +kernel
theorem dL_creep_14 : decode cL_creep 14 = .ok (.iconst 0, 1) := by decide +kernel
theorem dL_creep_15 : decode cL_creep 15 = .ok (.ireturn, 1) := by decide +kernel
theorem sL_7 : gx_sV RL 7 yX5_part cX5_part 9 (some .int) 4 := ⟨⟨(tq_3 187 (by decide +kernel) rfl), (tq_3 188 (by decide +kernel) rfl), (tq_3 189 (by decide +kernel) rfl), (tq_1 1 (by decide +kernel) rfl), (tq_3 190 (by decide +kernel) rfl)⟩, ⟨by decide +kernel, by decide +kernel, by decide +kernel⟩⟩
theorem sL_17 : gx_sV RL 17 yX5_foot cX5_foot 6 (some .boolean) 2 := ⟨⟨(tq_3 227 (by decide +kernel) rfl), (tq_3 228 (by decide +kernel) rfl), (tq_3 229 (by decide +kernel) rfl), (tq_1 1 (by decide +kernel) rfl), (tq_3 230 (by decide +kernel) rfl)⟩, ⟨by decide +kernel, by decide +kernel, by decide +kernel⟩⟩
theorem sL_21 : gx_sV RL 21 yX5_drawer cX5_drawer 5 (some .boolean) 2 := ⟨⟨(tq_4 80 (by decide +kernel) rfl), (tq_4 81 (by decide +kernel) rfl), (tq_4 82 (by decide +kernel) rfl), (tq_1 1 (by decide +kernel) rfl), (tq_4 83 (by decide +kernel) rfl)⟩, ⟨by decide +kernel, by decide +kernel, by decide +kernel⟩⟩
theorem sL_27 : gx_sV RL 27 yX5_person cX5_person 7 (some .boolean) 3 := ⟨⟨(tq_4 101 (by decide +kernel) rfl), (tq_4 102 (by decide +kernel) rfl), (tq_4 103 (by decide +kernel) rfl), (tq_1 1 (by decide +kernel) rfl), (tq_4 104 (by decide +kernel) rfl)⟩, ⟨by decide +kernel, by decide +kernel, by decide +kernel⟩⟩
theorem sL_31 : gx_sV RL 31 yX5_centre cX5_centre 9 (some .long) 2 := ⟨⟨(tq_4 108 (by decide +kernel) rfl), (tq_4 109 (by decide +kernel) rfl), (tq_4 110 (by decide +kernel) rfl), (tq_1 1 (by decide +kernel) rfl), (tq_4 111 (by decide +kernel) rfl)⟩, ⟨by decide +kernel, by decide +kernel, by decide +kernel⟩⟩
theorem sL_35 : gx_sV RL 35 yX5_side cX5_side 2 (some .int) 1 := ⟨⟨(tq_4 128 (by decide +kernel) rfl), (tq_4 129 (by decide +kernel) rfl), (tq_4 130 (by decide +kernel) rfl), (tq_1 1 (by decide +kernel) rfl), (tq_4 131 (by decide +kernel) rfl)⟩, ⟨by decide +kernel, by decide +kernel, by decide +kernel⟩⟩
theorem sL_39 : gx_sV RL 39 yX5_tips cX5_tips 2 (some .int) 1 := ⟨⟨(tq_4 145 (by decide +kernel) rfl), (tq_4 146 (by decide +kernel) rfl), (tq_4 147 (by decide +kernel) rfl), (tq_1 1 (by decide +kernel) rfl), (tq_4 148 (by decide +kernel) rfl)⟩, ⟨by decide +kernel, by decide +kernel, by decide +kernel⟩⟩
theorem sL_42 : gx_sV RL 42 yX5_moment cX5_moment 3 (some .long) 2 := ⟨⟨(tq_4 169 (by decide +kernel) rfl), (tq_4 170 (by decide +kernel) rfl), (tq_4 171 (by decide +kernel) rfl), (tq_1 1 (by decide +kernel) rfl), (tq_4 172 (by decide +kernel) rfl)⟩, ⟨by decide +kernel, by decide +kernel, by decide +kernel⟩⟩
theorem sL_45 : gx_sV RL 45 yX5_most cX5_most 3 (some .int) 0 := ⟨⟨(tq_4 177 (by decide +kernel) rfl), (tq_4 178 (by decide +kernel) rfl), (tq_4 179 (by decide +kernel) rfl), (tq_1 1 (by decide +kernel) rfl), (tq_4 180 (by decide +kernel) rfl)⟩, ⟨by decide +kernel, by decide +kernel, by decide +kernel⟩⟩
theorem sL_49 : gx_sV RL 49 yX5_test cX5_test 4 (some .int) 2 := ⟨⟨(tq_4 184 (by decide +kernel) rfl), (tq_4 185 (by decide +kernel) rfl), (tq_4 186 (by decide +kernel) rfl), (tq_1 1 (by decide +kernel) rfl), (tq_4 187 (by decide +kernel) rfl)⟩, ⟨by decide +kernel, by decide +kernel, by decide +kernel⟩⟩
theorem sL_53 : gx_sV RL 53 yX5_anchor cX5_anchor 3 (some .boolean) 0 := ⟨⟨(tq_4 198 (by decide +kernel) rfl), (tq_4 199 (by decide +kernel) rfl), (tq_4 200 (by decide +kernel) rfl), (tq_1 1 (by decide +kernel) rfl), (tq_4 201 (by decide +kernel) rfl)⟩, ⟨by decide +kernel, by decide +kernel, by decide +kernel⟩⟩
set_option maxHeartbeats 4000000 in
set_option maxRecDepth 100000 in
theorem kL_part (l : Launch) (G : gx_T) (L : List Nat) (f : Nat → va_E) (x : Nat) (vs : List Value) (hx : x ∈ L) (fx : f x = .inr (10, vs)) (ow : Nat) (g : Nat → Int64) (p0 p1 p2 p3 : Int64) (post : Option Value → va_W → Prop) (px : String → va_W → Prop) (hM : gx_MX l G yX5_part cX5_part 9 (some .int) ({ frames := 7, cells := 7, slots := 60, locals := 207 } : Room) [.ref x, .long p0, .long p1, .long p2, .long p3] (va_pl L f) post px) (hpo : ∀ v u, post v u → ∃ r : Int32, v = some (.int r)) (hpx : ∀ E u, px E u → E = gx_E1 ∨ E = gx_E2) : gx_MH l G yL_part cL_part 11 (some .int) [(0, 15, 18, 13), (0, 15, 22, 15)] ({ frames := 8, cells := 7, slots := 60, locals := 235 } : Room) [.ref x, .long p0, .long p1, .long p2, .long p3, .ref ow] ([(ow, .inl (G.2.1 2, 1, .inr (.inl g)))] ++ va_pl L f) (fun v w => (∃ (r : Int32) (u : va_W), post (some (.int r)) u ∧ v = some (.int 0) ∧ w = [(ow, .inl (G.2.1 2, 1, .inr (.inl (vp_updL g 0 r.toInt64))))] ++ u) ∨ (∃ u : va_W, px gx_E1 u ∧ v = some (.int 1) ∧ w = [(ow, .inl (G.2.1 2, 1, .inr (.inl g)))] ++ u) ∨ (∃ u : va_W, px gx_E2 u ∧ v = some (.int 2) ∧ w = [(ow, .inl (G.2.1 2, 1, .inr (.inl g)))] ++ u)) := by
  refine gx_startH (by decide +kernel) (Nat.le_of_ble_eq_true rfl) ?_
  intro p e s m args below meth c A ls C hr htab hW hl
  have gX := C.x
  have gB := C.b
  have hl : lv_has ls 11 [(0, .ref x), (1, .long p0), (3, .long p1), (5, .long p2), (7, .long p3), (9, .ref ow)] := hl
  refine lv_aload gX gB dL_part_0 (lv_at hl 5 rfl) ?_
  refine lv_iconst (v := 0) gX gB dL_part_2 (by decide) ?_
  refine lv_aload_n gX gB dL_part_3 rfl (lv_at hl 0 rfl) ?_
  refine lv_lload_n gX gB dL_part_4 rfl (lv_at hl 1 rfl) ?_
  refine lv_lload_n gX gB dL_part_5 rfl (lv_at hl 2 rfl) ?_
  refine lv_lload gX gB dL_part_6 (lv_at hl 3 rfl) ?_
  refine lv_lload gX gB dL_part_8 (lv_at hl 4 rfl) ?_
  refine gx_callVX (wr := [(ow, .inl (G.2.1 2, 1, .inr (.inl g)))]) (rest := [.int 0, .ref ow]) C hW sL_7 hM (gx_pl hx fx) rfl rfl ⟨Nat.le_of_ble_eq_true rfl, Nat.le_of_ble_eq_true rfl⟩ hl.1 rfl (Nat.le_of_ble_eq_true rfl) dL_part_10 ⟨(Nat.le_of_ble_eq_true rfl), (Nat.le_of_ble_eq_true rfl)⟩ (fun E ce q9 u9 H locs hpx9 hW hce hcv hcl => ?_) (fun v9 u9 H locs hp hW => ?_)
  · rcases hpx E u9 hpx9 with rfl | rfl
    · refine gx_catch (own := RL) C [] ⟨0, 15, 18, 13⟩ [⟨0, 15, 22, 15⟩] htab (fun _ h9 => absurd h9 List.not_mem_nil) (by decide) (by decide) (tq_3 185 (by decide +kernel) rfl) (List.mem_of_getElem? (i := 4) (by decide +kernel)) hce hcv hcl ?_
      refine W.widen (k := 7) (n := 60) (Nat.le_of_ble_eq_true rfl) (Nat.le_of_ble_eq_true rfl) ?_
      refine lv_astore (lv' := [(10, .ref q9), (0, .ref x), (1, .long p0), (3, .long p1), (5, .long p2), (7, .long p3), (9, .ref ow)]) gX gB dL_part_18 hl (by decide) rfl (fun ls hl => ?_)
      refine lv_iconst (v := 1) gX gB dL_part_20 (by decide) ?_
      refine vx_ret ?_
      exact gx_iret C hr hW (Or.inr (Or.inl ⟨u9, hpx9, rfl, rfl⟩)) (Nat.le_of_ble_eq_true rfl) (Nat.le_of_ble_eq_true rfl) dL_part_21
    · refine gx_catch (own := RL) C [⟨0, 15, 18, 13⟩] ⟨0, 15, 22, 15⟩ [] htab (List.forall_mem_cons.mpr ⟨⟨by decide, gx_E1, (tq_3 185 (by decide +kernel) rfl), List.mem_of_getElem? (i := 2) (by decide +kernel)⟩, fun _ h9 => absurd h9 List.not_mem_nil⟩) (by decide) (by decide) (tq_3 186 (by decide +kernel) rfl) (List.mem_of_getElem? (i := 5) (by decide +kernel)) hce hcv hcl ?_
      refine W.widen (k := 7) (n := 60) (Nat.le_of_ble_eq_true rfl) (Nat.le_of_ble_eq_true rfl) ?_
      refine lv_astore (lv' := [(10, .ref q9), (0, .ref x), (1, .long p0), (3, .long p1), (5, .long p2), (7, .long p3), (9, .ref ow)]) gX gB dL_part_22 hl (by decide) rfl (fun ls hl => ?_)
      refine lv_iconst (v := 2) gX gB dL_part_24 (by decide) ?_
      refine vx_ret ?_
      exact gx_iret C hr hW (Or.inr (Or.inr (⟨u9, hpx9, rfl, rfl⟩))) (Nat.le_of_ble_eq_true rfl) (Nat.le_of_ble_eq_true rfl) dL_part_25
  · obtain ⟨r, rfl⟩ := hpo v9 u9 hp
    have hW : gx_W G A s ([(ow, .inl (G.2.1 2, 1, .inr (.inl g)))] ++ u9) H locs := hW
    refine W.eq (g2 := F0 m 13 ls [.int r, .int 0, .ref ow]) rfl ?_
    refine W.widen (k := 7) (n := 60) (Nat.le_of_ble_eq_true rfl) (Nat.le_of_ble_eq_true rfl) ?_
    refine lv_i2l gX gB dL_part_13 rfl ?_
    refine gx_lastE C hW 0 (j := 0) rfl (by decide) (by decide) (by decide) dL_part_14 (fun H locs hW => ?_)
    have hW : gx_W G A s ([(ow, .inl (G.2.1 2, 1, .inr (.inl (vp_updL g 0 r.toInt64))))] ++ u9) H locs := hW
    refine lv_goto (tgt := 26) gX gB dL_part_15 (by decide) ?_
    refine lv_iconst (v := 0) gX gB dL_part_26 (by decide) ?_
    refine vx_ret ?_
    exact gx_iret C hr hW (Or.inl ⟨r, u9, hp, rfl, rfl⟩) (Nat.le_of_ble_eq_true rfl) (Nat.le_of_ble_eq_true rfl) dL_part_27
set_option maxHeartbeats 4000000 in
set_option maxRecDepth 100000 in
theorem kL_foot (l : Launch) (G : gx_T) (L : List Nat) (f : Nat → va_E) (x : Nat) (vs : List Value) (hx : x ∈ L) (fx : f x = .inr (10, vs)) (ow : Nat) (g : Nat → Int64) (p0 p1 : Int64) (post : Option Value → va_W → Prop) (px : String → va_W → Prop) (hM : gx_MX l G yX5_foot cX5_foot 6 (some .boolean) ({ frames := 9, cells := 41, slots := 651, locals := 256 } : Room) [.ref x, .long p0, .long p1] (va_pl L f) post px) (hpo : ∀ v u, post v u → ∃ r : Int32, v = some (.int r)) (hpx : ∀ E u, px E u → E = gx_E2) : gx_MH l G yL_foot cL_foot 7 (some .int) [(0, 18, 21, 15)] ({ frames := 10, cells := 41, slots := 651, locals := 281 } : Room) [.ref x, .long p0, .long p1, .ref ow] ([(ow, .inl (G.2.1 2, 1, .inr (.inl g)))] ++ va_pl L f) (fun v w => (∃ (r : Int32) (u : va_W), post (some (.int r)) u ∧ v = some (.int 0) ∧ w = [(ow, .inl (G.2.1 2, 1, .inr (.inl (vp_updL g 0 (if r = 0 then 0 else 1)))))] ++ u) ∨ (∃ u : va_W, px gx_E2 u ∧ v = some (.int 1) ∧ w = [(ow, .inl (G.2.1 2, 1, .inr (.inl g)))] ++ u)) := by
  refine gx_startH (by decide +kernel) (Nat.le_of_ble_eq_true rfl) ?_
  intro p e s m args below meth c A ls C hr htab hW hl
  have gX := C.x
  have gB := C.b
  have hl : lv_has ls 7 [(0, .ref x), (1, .long p0), (3, .long p1), (5, .ref ow)] := hl
  refine lv_aload gX gB dL_foot_0 (lv_at hl 3 rfl) ?_
  refine lv_iconst (v := 0) gX gB dL_foot_2 (by decide) ?_
  refine lv_aload_n gX gB dL_foot_3 rfl (lv_at hl 0 rfl) ?_
  refine lv_lload_n gX gB dL_foot_4 rfl (lv_at hl 1 rfl) ?_
  refine lv_lload_n gX gB dL_foot_5 rfl (lv_at hl 2 rfl) ?_
  refine gx_callVX (wr := [(ow, .inl (G.2.1 2, 1, .inr (.inl g)))]) (rest := [.int 0, .ref ow]) C hW sL_17 hM (gx_pl hx fx) rfl rfl ⟨Nat.le_of_ble_eq_true rfl, Nat.le_of_ble_eq_true rfl⟩ hl.1 rfl (Nat.le_of_ble_eq_true rfl) dL_foot_6 ⟨(Nat.le_of_ble_eq_true rfl), (Nat.le_of_ble_eq_true rfl)⟩ (fun E ce q9 u9 H locs hpx9 hW hce hcv hcl => ?_) (fun v9 u9 H locs hp hW => ?_)
  · rcases hpx E u9 hpx9 with rfl
    · refine gx_catch (own := RL) C [] ⟨0, 18, 21, 15⟩ [] htab (fun _ h9 => absurd h9 List.not_mem_nil) (by decide) (by decide) (tq_3 186 (by decide +kernel) rfl) (List.mem_of_getElem? (i := 5) (by decide +kernel)) hce hcv hcl ?_
      refine W.widen (k := 41) (n := 651) (Nat.le_of_ble_eq_true rfl) (Nat.le_of_ble_eq_true rfl) ?_
      refine lv_astore (lv' := [(6, .ref q9), (0, .ref x), (1, .long p0), (3, .long p1), (5, .ref ow)]) gX gB dL_foot_21 hl (by decide) rfl (fun ls hl => ?_)
      refine lv_iconst (v := 1) gX gB dL_foot_23 (by decide) ?_
      refine vx_ret ?_
      exact gx_iret C hr hW (Or.inr (⟨u9, hpx9, rfl, rfl⟩)) (Nat.le_of_ble_eq_true rfl) (Nat.le_of_ble_eq_true rfl) dL_foot_24
  · obtain ⟨r, rfl⟩ := hpo v9 u9 hp
    have hW : gx_W G A s ([(ow, .inl (G.2.1 2, 1, .inr (.inl g)))] ++ u9) H locs := hW
    refine W.eq (g2 := F0 m 9 ls [.int r, .int 0, .ref ow]) rfl ?_
    refine W.widen (k := 41) (n := 651) (Nat.le_of_ble_eq_true rfl) (Nat.le_of_ble_eq_true rfl) ?_
    refine lv_if_eq (tgt := 16) gX gB dL_foot_9 (by decide) (fun c9 => ?_) (fun c9 => ?_)
    · refine lv_lconst (v := 0) gX gB dL_foot_16 (by decide) ?_
      refine gx_lastE C hW 0 (j := 0) rfl (by decide) (by decide) (by decide) dL_foot_17 (fun H locs hW => ?_)
      have hW : gx_W G A s ([(ow, .inl (G.2.1 2, 1, .inr (.inl (vp_updL g 0 0))))] ++ u9) H locs := hW
      refine lv_goto (tgt := 25) gX gB dL_foot_18 (by decide) ?_
      refine lv_iconst (v := 0) gX gB dL_foot_25 (by decide) ?_
      refine vx_ret ?_
      exact gx_iret C hr hW (Or.inl ⟨r, u9, hp, rfl, by rw [if_pos c9]⟩) (Nat.le_of_ble_eq_true rfl) (Nat.le_of_ble_eq_true rfl) dL_foot_26
    · refine lv_lconst (v := 1) gX gB dL_foot_12 (by decide) ?_
      refine lv_goto (tgt := 17) gX gB dL_foot_13 (by decide) ?_
      refine gx_lastE C hW 0 (j := 0) rfl (by decide) (by decide) (by decide) dL_foot_17 (fun H locs hW => ?_)
      have hW : gx_W G A s ([(ow, .inl (G.2.1 2, 1, .inr (.inl (vp_updL g 0 1))))] ++ u9) H locs := hW
      refine lv_goto (tgt := 25) gX gB dL_foot_18 (by decide) ?_
      refine lv_iconst (v := 0) gX gB dL_foot_25 (by decide) ?_
      refine vx_ret ?_
      exact gx_iret C hr hW (Or.inl ⟨r, u9, hp, rfl, by rw [if_neg c9]⟩) (Nat.le_of_ble_eq_true rfl) (Nat.le_of_ble_eq_true rfl) dL_foot_26
set_option maxHeartbeats 4000000 in
set_option maxRecDepth 100000 in
theorem kL_drawer (l : Launch) (G : gx_T) (L : List Nat) (f : Nat → va_E) (x : Nat) (vs : List Value) (hx : x ∈ L) (fx : f x = .inr (10, vs)) (ow : Nat) (g : Nat → Int64) (p0 : Int32) (p1 : Int64) (post : Option Value → va_W → Prop) (px : String → va_W → Prop) (hM : gx_MX l G yX5_drawer cX5_drawer 5 (some .boolean) ({ frames := 6, cells := 1, slots := 6, locals := 90 } : Room) [.ref x, .int p0, .long p1] (va_pl L f) post px) (hpo : ∀ v u, post v u → ∃ r : Int32, v = some (.int r)) (hpx : ∀ E u, px E u → E = gx_E3 ∨ E = gx_E2) : gx_MH l G yL_drawer cL_drawer 6 (some .int) [(0, 18, 21, 25), (0, 18, 25, 15)] ({ frames := 7, cells := 1, slots := 6, locals := 114 } : Room) [.ref x, .int p0, .long p1, .ref ow] ([(ow, .inl (G.2.1 2, 1, .inr (.inl g)))] ++ va_pl L f) (fun v w => (∃ (r : Int32) (u : va_W), post (some (.int r)) u ∧ v = some (.int 0) ∧ w = [(ow, .inl (G.2.1 2, 1, .inr (.inl (vp_updL g 0 (if r = 0 then 0 else 1)))))] ++ u) ∨ (∃ u : va_W, px gx_E3 u ∧ v = some (.int 1) ∧ w = [(ow, .inl (G.2.1 2, 1, .inr (.inl g)))] ++ u) ∨ (∃ u : va_W, px gx_E2 u ∧ v = some (.int 2) ∧ w = [(ow, .inl (G.2.1 2, 1, .inr (.inl g)))] ++ u)) := by
  refine gx_startH (by decide +kernel) (Nat.le_of_ble_eq_true rfl) ?_
  intro p e s m args below meth c A ls C hr htab hW hl
  have gX := C.x
  have gB := C.b
  have hl : lv_has ls 6 [(0, .ref x), (1, .int p0), (2, .long p1), (4, .ref ow)] := hl
  refine lv_aload gX gB dL_drawer_0 (lv_at hl 3 rfl) ?_
  refine lv_iconst (v := 0) gX gB dL_drawer_2 (by decide) ?_
  refine lv_aload_n gX gB dL_drawer_3 rfl (lv_at hl 0 rfl) ?_
  refine lv_iload_n gX gB dL_drawer_4 rfl (lv_at hl 1 rfl) ?_
  refine lv_lload_n gX gB dL_drawer_5 rfl (lv_at hl 2 rfl) ?_
  refine gx_callVX (wr := [(ow, .inl (G.2.1 2, 1, .inr (.inl g)))]) (rest := [.int 0, .ref ow]) C hW sL_21 hM (gx_pl hx fx) rfl rfl ⟨Nat.le_of_ble_eq_true rfl, Nat.le_of_ble_eq_true rfl⟩ hl.1 rfl (Nat.le_of_ble_eq_true rfl) dL_drawer_6 ⟨(Nat.le_of_ble_eq_true rfl), (Nat.le_of_ble_eq_true rfl)⟩ (fun E ce q9 u9 H locs hpx9 hW hce hcv hcl => ?_) (fun v9 u9 H locs hp hW => ?_)
  · rcases hpx E u9 hpx9 with rfl | rfl
    · refine gx_catch (own := RL) C [] ⟨0, 18, 21, 25⟩ [⟨0, 18, 25, 15⟩] htab (fun _ h9 => absurd h9 List.not_mem_nil) (by decide) (by decide) (tq_4 79 (by decide +kernel) rfl) (List.mem_of_getElem? (i := 6) (by decide +kernel)) hce hcv hcl ?_
      refine W.widen (k := 1) (n := 6) (Nat.le_of_ble_eq_true rfl) (Nat.le_of_ble_eq_true rfl) ?_
      refine lv_astore (lv' := [(5, .ref q9), (0, .ref x), (1, .int p0), (2, .long p1), (4, .ref ow)]) gX gB dL_drawer_21 hl (by decide) rfl (fun ls hl => ?_)
      refine lv_iconst (v := 1) gX gB dL_drawer_23 (by decide) ?_
      refine vx_ret ?_
      exact gx_iret C hr hW (Or.inr (Or.inl ⟨u9, hpx9, rfl, rfl⟩)) (Nat.le_of_ble_eq_true rfl) (Nat.le_of_ble_eq_true rfl) dL_drawer_24
    · refine gx_catch (own := RL) C [⟨0, 18, 21, 25⟩] ⟨0, 18, 25, 15⟩ [] htab (List.forall_mem_cons.mpr ⟨⟨by decide, gx_E3, (tq_4 79 (by decide +kernel) rfl), List.mem_of_getElem? (i := 3) (by decide +kernel)⟩, fun _ h9 => absurd h9 List.not_mem_nil⟩) (by decide) (by decide) (tq_3 186 (by decide +kernel) rfl) (List.mem_of_getElem? (i := 5) (by decide +kernel)) hce hcv hcl ?_
      refine W.widen (k := 1) (n := 6) (Nat.le_of_ble_eq_true rfl) (Nat.le_of_ble_eq_true rfl) ?_
      refine lv_astore (lv' := [(5, .ref q9), (0, .ref x), (1, .int p0), (2, .long p1), (4, .ref ow)]) gX gB dL_drawer_25 hl (by decide) rfl (fun ls hl => ?_)
      refine lv_iconst (v := 2) gX gB dL_drawer_27 (by decide) ?_
      refine vx_ret ?_
      exact gx_iret C hr hW (Or.inr (Or.inr (⟨u9, hpx9, rfl, rfl⟩))) (Nat.le_of_ble_eq_true rfl) (Nat.le_of_ble_eq_true rfl) dL_drawer_28
  · obtain ⟨r, rfl⟩ := hpo v9 u9 hp
    have hW : gx_W G A s ([(ow, .inl (G.2.1 2, 1, .inr (.inl g)))] ++ u9) H locs := hW
    refine W.eq (g2 := F0 m 9 ls [.int r, .int 0, .ref ow]) rfl ?_
    refine W.widen (k := 1) (n := 6) (Nat.le_of_ble_eq_true rfl) (Nat.le_of_ble_eq_true rfl) ?_
    refine lv_if_eq (tgt := 16) gX gB dL_drawer_9 (by decide) (fun c9 => ?_) (fun c9 => ?_)
    · refine lv_lconst (v := 0) gX gB dL_drawer_16 (by decide) ?_
      refine gx_lastE C hW 0 (j := 0) rfl (by decide) (by decide) (by decide) dL_drawer_17 (fun H locs hW => ?_)
      have hW : gx_W G A s ([(ow, .inl (G.2.1 2, 1, .inr (.inl (vp_updL g 0 0))))] ++ u9) H locs := hW
      refine lv_goto (tgt := 29) gX gB dL_drawer_18 (by decide) ?_
      refine lv_iconst (v := 0) gX gB dL_drawer_29 (by decide) ?_
      refine vx_ret ?_
      exact gx_iret C hr hW (Or.inl ⟨r, u9, hp, rfl, by rw [if_pos c9]⟩) (Nat.le_of_ble_eq_true rfl) (Nat.le_of_ble_eq_true rfl) dL_drawer_30
    · refine lv_lconst (v := 1) gX gB dL_drawer_12 (by decide) ?_
      refine lv_goto (tgt := 17) gX gB dL_drawer_13 (by decide) ?_
      refine gx_lastE C hW 0 (j := 0) rfl (by decide) (by decide) (by decide) dL_drawer_17 (fun H locs hW => ?_)
      have hW : gx_W G A s ([(ow, .inl (G.2.1 2, 1, .inr (.inl (vp_updL g 0 1))))] ++ u9) H locs := hW
      refine lv_goto (tgt := 29) gX gB dL_drawer_18 (by decide) ?_
      refine lv_iconst (v := 0) gX gB dL_drawer_29 (by decide) ?_
      refine vx_ret ?_
      exact gx_iret C hr hW (Or.inl ⟨r, u9, hp, rfl, by rw [if_neg c9]⟩) (Nat.le_of_ble_eq_true rfl) (Nat.le_of_ble_eq_true rfl) dL_drawer_30
set_option maxHeartbeats 4000000 in
set_option maxRecDepth 100000 in
theorem kL_person (l : Launch) (G : gx_T) (L : List Nat) (f : Nat → va_E) (x : Nat) (vs : List Value) (hx : x ∈ L) (fx : f x = .inr (10, vs)) (ow : Nat) (g : Nat → Int64) (p0 p1 p2 : Int64) (post : Option Value → va_W → Prop) (px : String → va_W → Prop) (hM : gx_MX l G yX5_person cX5_person 7 (some .boolean) ({ frames := 7, cells := 4, slots := 24, locals := 111 } : Room) [.ref x, .long p0, .long p1, .long p2] (va_pl L f) post px) (hpo : ∀ v u, post v u → ∃ r : Int32, v = some (.int r)) (hpx : ∀ E u, px E u → E = gx_E2) : gx_MH l G yL_person cL_person 9 (some .int) [(0, 20, 23, 15)] ({ frames := 8, cells := 4, slots := 24, locals := 137 } : Room) [.ref x, .long p0, .long p1, .long p2, .ref ow] ([(ow, .inl (G.2.1 2, 1, .inr (.inl g)))] ++ va_pl L f) (fun v w => (∃ (r : Int32) (u : va_W), post (some (.int r)) u ∧ v = some (.int 0) ∧ w = [(ow, .inl (G.2.1 2, 1, .inr (.inl (vp_updL g 0 (if r = 0 then 0 else 1)))))] ++ u) ∨ (∃ u : va_W, px gx_E2 u ∧ v = some (.int 1) ∧ w = [(ow, .inl (G.2.1 2, 1, .inr (.inl g)))] ++ u)) := by
  refine gx_startH (by decide +kernel) (Nat.le_of_ble_eq_true rfl) ?_
  intro p e s m args below meth c A ls C hr htab hW hl
  have gX := C.x
  have gB := C.b
  have hl : lv_has ls 9 [(0, .ref x), (1, .long p0), (3, .long p1), (5, .long p2), (7, .ref ow)] := hl
  refine lv_aload gX gB dL_person_0 (lv_at hl 4 rfl) ?_
  refine lv_iconst (v := 0) gX gB dL_person_2 (by decide) ?_
  refine lv_aload_n gX gB dL_person_3 rfl (lv_at hl 0 rfl) ?_
  refine lv_lload_n gX gB dL_person_4 rfl (lv_at hl 1 rfl) ?_
  refine lv_lload_n gX gB dL_person_5 rfl (lv_at hl 2 rfl) ?_
  refine lv_lload gX gB dL_person_6 (lv_at hl 3 rfl) ?_
  refine gx_callVX (wr := [(ow, .inl (G.2.1 2, 1, .inr (.inl g)))]) (rest := [.int 0, .ref ow]) C hW sL_27 hM (gx_pl hx fx) rfl rfl ⟨Nat.le_of_ble_eq_true rfl, Nat.le_of_ble_eq_true rfl⟩ hl.1 rfl (Nat.le_of_ble_eq_true rfl) dL_person_8 ⟨(Nat.le_of_ble_eq_true rfl), (Nat.le_of_ble_eq_true rfl)⟩ (fun E ce q9 u9 H locs hpx9 hW hce hcv hcl => ?_) (fun v9 u9 H locs hp hW => ?_)
  · rcases hpx E u9 hpx9 with rfl
    · refine gx_catch (own := RL) C [] ⟨0, 20, 23, 15⟩ [] htab (fun _ h9 => absurd h9 List.not_mem_nil) (by decide) (by decide) (tq_3 186 (by decide +kernel) rfl) (List.mem_of_getElem? (i := 5) (by decide +kernel)) hce hcv hcl ?_
      refine W.widen (k := 4) (n := 24) (Nat.le_of_ble_eq_true rfl) (Nat.le_of_ble_eq_true rfl) ?_
      refine lv_astore (lv' := [(8, .ref q9), (0, .ref x), (1, .long p0), (3, .long p1), (5, .long p2), (7, .ref ow)]) gX gB dL_person_23 hl (by decide) rfl (fun ls hl => ?_)
      refine lv_iconst (v := 1) gX gB dL_person_25 (by decide) ?_
      refine vx_ret ?_
      exact gx_iret C hr hW (Or.inr (⟨u9, hpx9, rfl, rfl⟩)) (Nat.le_of_ble_eq_true rfl) (Nat.le_of_ble_eq_true rfl) dL_person_26
  · obtain ⟨r, rfl⟩ := hpo v9 u9 hp
    have hW : gx_W G A s ([(ow, .inl (G.2.1 2, 1, .inr (.inl g)))] ++ u9) H locs := hW
    refine W.eq (g2 := F0 m 11 ls [.int r, .int 0, .ref ow]) rfl ?_
    refine W.widen (k := 4) (n := 24) (Nat.le_of_ble_eq_true rfl) (Nat.le_of_ble_eq_true rfl) ?_
    refine lv_if_eq (tgt := 18) gX gB dL_person_11 (by decide) (fun c11 => ?_) (fun c11 => ?_)
    · refine lv_lconst (v := 0) gX gB dL_person_18 (by decide) ?_
      refine gx_lastE C hW 0 (j := 0) rfl (by decide) (by decide) (by decide) dL_person_19 (fun H locs hW => ?_)
      have hW : gx_W G A s ([(ow, .inl (G.2.1 2, 1, .inr (.inl (vp_updL g 0 0))))] ++ u9) H locs := hW
      refine lv_goto (tgt := 27) gX gB dL_person_20 (by decide) ?_
      refine lv_iconst (v := 0) gX gB dL_person_27 (by decide) ?_
      refine vx_ret ?_
      exact gx_iret C hr hW (Or.inl ⟨r, u9, hp, rfl, by rw [if_pos c11]⟩) (Nat.le_of_ble_eq_true rfl) (Nat.le_of_ble_eq_true rfl) dL_person_28
    · refine lv_lconst (v := 1) gX gB dL_person_14 (by decide) ?_
      refine lv_goto (tgt := 19) gX gB dL_person_15 (by decide) ?_
      refine gx_lastE C hW 0 (j := 0) rfl (by decide) (by decide) (by decide) dL_person_19 (fun H locs hW => ?_)
      have hW : gx_W G A s ([(ow, .inl (G.2.1 2, 1, .inr (.inl (vp_updL g 0 1))))] ++ u9) H locs := hW
      refine lv_goto (tgt := 27) gX gB dL_person_20 (by decide) ?_
      refine lv_iconst (v := 0) gX gB dL_person_27 (by decide) ?_
      refine vx_ret ?_
      exact gx_iret C hr hW (Or.inl ⟨r, u9, hp, rfl, by rw [if_neg c11]⟩) (Nat.le_of_ble_eq_true rfl) (Nat.le_of_ble_eq_true rfl) dL_person_28
set_option maxHeartbeats 4000000 in
set_option maxRecDepth 100000 in
theorem kL_centre (l : Launch) (G : gx_T) (L : List Nat) (f : Nat → va_E) (x : Nat) (vs : List Value) (hx : x ∈ L) (fx : f x = .inr (10, vs)) (ow : Nat) (g : Nat → Int64) (p0 p1 : Int32) (post : Option Value → va_W → Prop) (px : String → va_W → Prop) (hM : gx_MX l G yX5_centre cX5_centre 9 (some .long) ({ frames := 6, cells := 1, slots := 6, locals := 90 } : Room) [.ref x, .int p0, .int p1] (va_pl L f) post px) (hpo : ∀ v u, post v u → ∃ r : Int64, v = some (.long r)) (hpx : ∀ E u, px E u → E = gx_E3 ∨ E = gx_E1) : gx_MH l G yL_centre cL_centre 5 (some .int) [(0, 9, 12, 25), (0, 9, 16, 13)] ({ frames := 7, cells := 1, slots := 6, locals := 118 } : Room) [.ref x, .int p0, .int p1, .ref ow] ([(ow, .inl (G.2.1 2, 1, .inr (.inl g)))] ++ va_pl L f) (fun v w => (∃ (r : Int64) (u : va_W), post (some (.long r)) u ∧ v = some (.int 0) ∧ w = [(ow, .inl (G.2.1 2, 1, .inr (.inl (vp_updL g 0 r))))] ++ u) ∨ (∃ u : va_W, px gx_E3 u ∧ v = some (.int 1) ∧ w = [(ow, .inl (G.2.1 2, 1, .inr (.inl g)))] ++ u) ∨ (∃ u : va_W, px gx_E1 u ∧ v = some (.int 2) ∧ w = [(ow, .inl (G.2.1 2, 1, .inr (.inl g)))] ++ u)) := by
  refine gx_startH (by decide +kernel) (Nat.le_of_ble_eq_true rfl) ?_
  intro p e s m args below meth c A ls C hr htab hW hl
  have gX := C.x
  have gB := C.b
  have hl : lv_has ls 5 [(0, .ref x), (1, .int p0), (2, .int p1), (3, .ref ow)] := hl
  refine lv_aload_n gX gB dL_centre_0 rfl (lv_at hl 3 rfl) ?_
  refine lv_iconst (v := 0) gX gB dL_centre_1 (by decide) ?_
  refine lv_aload_n gX gB dL_centre_2 rfl (lv_at hl 0 rfl) ?_
  refine lv_iload_n gX gB dL_centre_3 rfl (lv_at hl 1 rfl) ?_
  refine lv_iload_n gX gB dL_centre_4 rfl (lv_at hl 2 rfl) ?_
  refine gx_callVX (wr := [(ow, .inl (G.2.1 2, 1, .inr (.inl g)))]) (rest := [.int 0, .ref ow]) C hW sL_31 hM (gx_pl hx fx) rfl rfl ⟨Nat.le_of_ble_eq_true rfl, Nat.le_of_ble_eq_true rfl⟩ hl.1 rfl (Nat.le_of_ble_eq_true rfl) dL_centre_5 ⟨(Nat.le_of_ble_eq_true rfl), (Nat.le_of_ble_eq_true rfl)⟩ (fun E ce q9 u9 H locs hpx9 hW hce hcv hcl => ?_) (fun v9 u9 H locs hp hW => ?_)
  · rcases hpx E u9 hpx9 with rfl | rfl
    · refine gx_catch (own := RL) C [] ⟨0, 9, 12, 25⟩ [⟨0, 9, 16, 13⟩] htab (fun _ h9 => absurd h9 List.not_mem_nil) (by decide) (by decide) (tq_4 79 (by decide +kernel) rfl) (List.mem_of_getElem? (i := 6) (by decide +kernel)) hce hcv hcl ?_
      refine W.widen (k := 1) (n := 6) (Nat.le_of_ble_eq_true rfl) (Nat.le_of_ble_eq_true rfl) ?_
      refine lv_astore (lv' := [(4, .ref q9), (0, .ref x), (1, .int p0), (2, .int p1), (3, .ref ow)]) gX gB dL_centre_12 hl (by decide) rfl (fun ls hl => ?_)
      refine lv_iconst (v := 1) gX gB dL_centre_14 (by decide) ?_
      refine vx_ret ?_
      exact gx_iret C hr hW (Or.inr (Or.inl ⟨u9, hpx9, rfl, rfl⟩)) (Nat.le_of_ble_eq_true rfl) (Nat.le_of_ble_eq_true rfl) dL_centre_15
    · refine gx_catch (own := RL) C [⟨0, 9, 12, 25⟩] ⟨0, 9, 16, 13⟩ [] htab (List.forall_mem_cons.mpr ⟨⟨by decide, gx_E3, (tq_4 79 (by decide +kernel) rfl), List.mem_of_getElem? (i := 1) (by decide +kernel)⟩, fun _ h9 => absurd h9 List.not_mem_nil⟩) (by decide) (by decide) (tq_3 185 (by decide +kernel) rfl) (List.mem_of_getElem? (i := 4) (by decide +kernel)) hce hcv hcl ?_
      refine W.widen (k := 1) (n := 6) (Nat.le_of_ble_eq_true rfl) (Nat.le_of_ble_eq_true rfl) ?_
      refine lv_astore (lv' := [(4, .ref q9), (0, .ref x), (1, .int p0), (2, .int p1), (3, .ref ow)]) gX gB dL_centre_16 hl (by decide) rfl (fun ls hl => ?_)
      refine lv_iconst (v := 2) gX gB dL_centre_18 (by decide) ?_
      refine vx_ret ?_
      exact gx_iret C hr hW (Or.inr (Or.inr (⟨u9, hpx9, rfl, rfl⟩))) (Nat.le_of_ble_eq_true rfl) (Nat.le_of_ble_eq_true rfl) dL_centre_19
  · obtain ⟨r, rfl⟩ := hpo v9 u9 hp
    have hW : gx_W G A s ([(ow, .inl (G.2.1 2, 1, .inr (.inl g)))] ++ u9) H locs := hW
    refine W.eq (g2 := F0 m 8 ls [.long r, .int 0, .ref ow]) rfl ?_
    refine W.widen (k := 1) (n := 6) (Nat.le_of_ble_eq_true rfl) (Nat.le_of_ble_eq_true rfl) ?_
    refine gx_lastE C hW 0 (j := 0) rfl (by decide) (by decide) (by decide) dL_centre_8 (fun H locs hW => ?_)
    have hW : gx_W G A s ([(ow, .inl (G.2.1 2, 1, .inr (.inl (vp_updL g 0 r))))] ++ u9) H locs := hW
    refine lv_goto (tgt := 20) gX gB dL_centre_9 (by decide) ?_
    refine lv_iconst (v := 0) gX gB dL_centre_20 (by decide) ?_
    refine vx_ret ?_
    exact gx_iret C hr hW (Or.inl ⟨r, u9, hp, rfl, rfl⟩) (Nat.le_of_ble_eq_true rfl) (Nat.le_of_ble_eq_true rfl) dL_centre_21
set_option maxHeartbeats 4000000 in
set_option maxRecDepth 100000 in
theorem kL_side (l : Launch) (G : gx_T) (L : List Nat) (f : Nat → va_E) (x : Nat) (vs : List Value) (hx : x ∈ L) (fx : f x = .inr (10, vs)) (ow : Nat) (g : Nat → Int64) (p0 : Int32) (post : Option Value → va_W → Prop) (px : String → va_W → Prop) (hM : gx_MX l G yX5_side cX5_side 2 (some .int) ({ frames := 7, cells := 2, slots := 12, locals := 110 } : Room) [.ref x, .int p0] (va_pl L f) post px) (hpo : ∀ v u, post v u → ∃ r : Int32, v = some (.int r)) (hpx : ∀ E u, px E u → E = gx_E1 ∨ E = gx_E3) : gx_MH l G yL_side cL_side 4 (some .int) [(0, 9, 12, 13), (0, 9, 15, 25)] ({ frames := 8, cells := 2, slots := 12, locals := 131 } : Room) [.ref x, .int p0, .ref ow] ([(ow, .inl (G.2.1 2, 1, .inr (.inl g)))] ++ va_pl L f) (fun v w => (∃ (r : Int32) (u : va_W), post (some (.int r)) u ∧ v = some (.int 0) ∧ w = [(ow, .inl (G.2.1 2, 1, .inr (.inl (vp_updL g 0 r.toInt64))))] ++ u) ∨ (∃ u : va_W, px gx_E1 u ∧ v = some (.int 1) ∧ w = [(ow, .inl (G.2.1 2, 1, .inr (.inl g)))] ++ u) ∨ (∃ u : va_W, px gx_E3 u ∧ v = some (.int 2) ∧ w = [(ow, .inl (G.2.1 2, 1, .inr (.inl g)))] ++ u)) := by
  refine gx_startH (by decide +kernel) (Nat.le_of_ble_eq_true rfl) ?_
  intro p e s m args below meth c A ls C hr htab hW hl
  have gX := C.x
  have gB := C.b
  have hl : lv_has ls 4 [(0, .ref x), (1, .int p0), (2, .ref ow)] := hl
  refine lv_aload_n gX gB dL_side_0 rfl (lv_at hl 2 rfl) ?_
  refine lv_iconst (v := 0) gX gB dL_side_1 (by decide) ?_
  refine lv_aload_n gX gB dL_side_2 rfl (lv_at hl 0 rfl) ?_
  refine lv_iload_n gX gB dL_side_3 rfl (lv_at hl 1 rfl) ?_
  refine gx_callVX (wr := [(ow, .inl (G.2.1 2, 1, .inr (.inl g)))]) (rest := [.int 0, .ref ow]) C hW sL_35 hM (gx_pl hx fx) rfl rfl ⟨Nat.le_of_ble_eq_true rfl, Nat.le_of_ble_eq_true rfl⟩ hl.1 rfl (Nat.le_of_ble_eq_true rfl) dL_side_4 ⟨(Nat.le_of_ble_eq_true rfl), (Nat.le_of_ble_eq_true rfl)⟩ (fun E ce q9 u9 H locs hpx9 hW hce hcv hcl => ?_) (fun v9 u9 H locs hp hW => ?_)
  · rcases hpx E u9 hpx9 with rfl | rfl
    · refine gx_catch (own := RL) C [] ⟨0, 9, 12, 13⟩ [⟨0, 9, 15, 25⟩] htab (fun _ h9 => absurd h9 List.not_mem_nil) (by decide) (by decide) (tq_3 185 (by decide +kernel) rfl) (List.mem_of_getElem? (i := 4) (by decide +kernel)) hce hcv hcl ?_
      refine W.widen (k := 2) (n := 12) (Nat.le_of_ble_eq_true rfl) (Nat.le_of_ble_eq_true rfl) ?_
      refine lv_astore_n (lv' := [(3, .ref q9), (0, .ref x), (1, .int p0), (2, .ref ow)]) gX gB dL_side_12 rfl hl (by decide) rfl (fun ls hl => ?_)
      refine lv_iconst (v := 1) gX gB dL_side_13 (by decide) ?_
      refine vx_ret ?_
      exact gx_iret C hr hW (Or.inr (Or.inl ⟨u9, hpx9, rfl, rfl⟩)) (Nat.le_of_ble_eq_true rfl) (Nat.le_of_ble_eq_true rfl) dL_side_14
    · refine gx_catch (own := RL) C [⟨0, 9, 12, 13⟩] ⟨0, 9, 15, 25⟩ [] htab (List.forall_mem_cons.mpr ⟨⟨by decide, gx_E1, (tq_3 185 (by decide +kernel) rfl), List.mem_of_getElem? (i := 4) (by decide +kernel)⟩, fun _ h9 => absurd h9 List.not_mem_nil⟩) (by decide) (by decide) (tq_4 79 (by decide +kernel) rfl) (List.mem_of_getElem? (i := 6) (by decide +kernel)) hce hcv hcl ?_
      refine W.widen (k := 2) (n := 12) (Nat.le_of_ble_eq_true rfl) (Nat.le_of_ble_eq_true rfl) ?_
      refine lv_astore_n (lv' := [(3, .ref q9), (0, .ref x), (1, .int p0), (2, .ref ow)]) gX gB dL_side_15 rfl hl (by decide) rfl (fun ls hl => ?_)
      refine lv_iconst (v := 2) gX gB dL_side_16 (by decide) ?_
      refine vx_ret ?_
      exact gx_iret C hr hW (Or.inr (Or.inr (⟨u9, hpx9, rfl, rfl⟩))) (Nat.le_of_ble_eq_true rfl) (Nat.le_of_ble_eq_true rfl) dL_side_17
  · obtain ⟨r, rfl⟩ := hpo v9 u9 hp
    have hW : gx_W G A s ([(ow, .inl (G.2.1 2, 1, .inr (.inl g)))] ++ u9) H locs := hW
    refine W.eq (g2 := F0 m 7 ls [.int r, .int 0, .ref ow]) rfl ?_
    refine W.widen (k := 2) (n := 12) (Nat.le_of_ble_eq_true rfl) (Nat.le_of_ble_eq_true rfl) ?_
    refine lv_i2l gX gB dL_side_7 rfl ?_
    refine gx_lastE C hW 0 (j := 0) rfl (by decide) (by decide) (by decide) dL_side_8 (fun H locs hW => ?_)
    have hW : gx_W G A s ([(ow, .inl (G.2.1 2, 1, .inr (.inl (vp_updL g 0 r.toInt64))))] ++ u9) H locs := hW
    refine lv_goto (tgt := 18) gX gB dL_side_9 (by decide) ?_
    refine lv_iconst (v := 0) gX gB dL_side_18 (by decide) ?_
    refine vx_ret ?_
    exact gx_iret C hr hW (Or.inl ⟨r, u9, hp, rfl, rfl⟩) (Nat.le_of_ble_eq_true rfl) (Nat.le_of_ble_eq_true rfl) dL_side_19
set_option maxHeartbeats 4000000 in
set_option maxRecDepth 100000 in
theorem kL_tips (l : Launch) (G : gx_T) (L : List Nat) (f : Nat → va_E) (x : Nat) (vs : List Value) (hx : x ∈ L) (fx : f x = .inr (10, vs)) (ow : Nat) (g : Nat → Int64) (p0 : Int32) (post : Option Value → va_W → Prop) (px : String → va_W → Prop) (hM : gx_MX l G yX5_tips cX5_tips 2 (some .int) ({ frames := 7, cells := 2, slots := 12, locals := 113 } : Room) [.ref x, .int p0] (va_pl L f) post px) (hpo : ∀ v u, post v u → ∃ r : Int32, v = some (.int r)) (hpx : ∀ E u, px E u → E = gx_E1 ∨ E = gx_E2) : gx_MH l G yL_tips cL_tips 4 (some .int) [(0, 9, 12, 13), (0, 9, 15, 15)] ({ frames := 8, cells := 2, slots := 12, locals := 134 } : Room) [.ref x, .int p0, .ref ow] ([(ow, .inl (G.2.1 2, 1, .inr (.inl g)))] ++ va_pl L f) (fun v w => (∃ (r : Int32) (u : va_W), post (some (.int r)) u ∧ v = some (.int 0) ∧ w = [(ow, .inl (G.2.1 2, 1, .inr (.inl (vp_updL g 0 r.toInt64))))] ++ u) ∨ (∃ u : va_W, px gx_E1 u ∧ v = some (.int 1) ∧ w = [(ow, .inl (G.2.1 2, 1, .inr (.inl g)))] ++ u) ∨ (∃ u : va_W, px gx_E2 u ∧ v = some (.int 2) ∧ w = [(ow, .inl (G.2.1 2, 1, .inr (.inl g)))] ++ u)) := by
  refine gx_startH (by decide +kernel) (Nat.le_of_ble_eq_true rfl) ?_
  intro p e s m args below meth c A ls C hr htab hW hl
  have gX := C.x
  have gB := C.b
  have hl : lv_has ls 4 [(0, .ref x), (1, .int p0), (2, .ref ow)] := hl
  refine lv_aload_n gX gB dL_tips_0 rfl (lv_at hl 2 rfl) ?_
  refine lv_iconst (v := 0) gX gB dL_tips_1 (by decide) ?_
  refine lv_aload_n gX gB dL_tips_2 rfl (lv_at hl 0 rfl) ?_
  refine lv_iload_n gX gB dL_tips_3 rfl (lv_at hl 1 rfl) ?_
  refine gx_callVX (wr := [(ow, .inl (G.2.1 2, 1, .inr (.inl g)))]) (rest := [.int 0, .ref ow]) C hW sL_39 hM (gx_pl hx fx) rfl rfl ⟨Nat.le_of_ble_eq_true rfl, Nat.le_of_ble_eq_true rfl⟩ hl.1 rfl (Nat.le_of_ble_eq_true rfl) dL_tips_4 ⟨(Nat.le_of_ble_eq_true rfl), (Nat.le_of_ble_eq_true rfl)⟩ (fun E ce q9 u9 H locs hpx9 hW hce hcv hcl => ?_) (fun v9 u9 H locs hp hW => ?_)
  · rcases hpx E u9 hpx9 with rfl | rfl
    · refine gx_catch (own := RL) C [] ⟨0, 9, 12, 13⟩ [⟨0, 9, 15, 15⟩] htab (fun _ h9 => absurd h9 List.not_mem_nil) (by decide) (by decide) (tq_3 185 (by decide +kernel) rfl) (List.mem_of_getElem? (i := 4) (by decide +kernel)) hce hcv hcl ?_
      refine W.widen (k := 2) (n := 12) (Nat.le_of_ble_eq_true rfl) (Nat.le_of_ble_eq_true rfl) ?_
      refine lv_astore_n (lv' := [(3, .ref q9), (0, .ref x), (1, .int p0), (2, .ref ow)]) gX gB dL_tips_12 rfl hl (by decide) rfl (fun ls hl => ?_)
      refine lv_iconst (v := 1) gX gB dL_tips_13 (by decide) ?_
      refine vx_ret ?_
      exact gx_iret C hr hW (Or.inr (Or.inl ⟨u9, hpx9, rfl, rfl⟩)) (Nat.le_of_ble_eq_true rfl) (Nat.le_of_ble_eq_true rfl) dL_tips_14
    · refine gx_catch (own := RL) C [⟨0, 9, 12, 13⟩] ⟨0, 9, 15, 15⟩ [] htab (List.forall_mem_cons.mpr ⟨⟨by decide, gx_E1, (tq_3 185 (by decide +kernel) rfl), List.mem_of_getElem? (i := 2) (by decide +kernel)⟩, fun _ h9 => absurd h9 List.not_mem_nil⟩) (by decide) (by decide) (tq_3 186 (by decide +kernel) rfl) (List.mem_of_getElem? (i := 5) (by decide +kernel)) hce hcv hcl ?_
      refine W.widen (k := 2) (n := 12) (Nat.le_of_ble_eq_true rfl) (Nat.le_of_ble_eq_true rfl) ?_
      refine lv_astore_n (lv' := [(3, .ref q9), (0, .ref x), (1, .int p0), (2, .ref ow)]) gX gB dL_tips_15 rfl hl (by decide) rfl (fun ls hl => ?_)
      refine lv_iconst (v := 2) gX gB dL_tips_16 (by decide) ?_
      refine vx_ret ?_
      exact gx_iret C hr hW (Or.inr (Or.inr (⟨u9, hpx9, rfl, rfl⟩))) (Nat.le_of_ble_eq_true rfl) (Nat.le_of_ble_eq_true rfl) dL_tips_17
  · obtain ⟨r, rfl⟩ := hpo v9 u9 hp
    have hW : gx_W G A s ([(ow, .inl (G.2.1 2, 1, .inr (.inl g)))] ++ u9) H locs := hW
    refine W.eq (g2 := F0 m 7 ls [.int r, .int 0, .ref ow]) rfl ?_
    refine W.widen (k := 2) (n := 12) (Nat.le_of_ble_eq_true rfl) (Nat.le_of_ble_eq_true rfl) ?_
    refine lv_i2l gX gB dL_tips_7 rfl ?_
    refine gx_lastE C hW 0 (j := 0) rfl (by decide) (by decide) (by decide) dL_tips_8 (fun H locs hW => ?_)
    have hW : gx_W G A s ([(ow, .inl (G.2.1 2, 1, .inr (.inl (vp_updL g 0 r.toInt64))))] ++ u9) H locs := hW
    refine lv_goto (tgt := 18) gX gB dL_tips_9 (by decide) ?_
    refine lv_iconst (v := 0) gX gB dL_tips_18 (by decide) ?_
    refine vx_ret ?_
    exact gx_iret C hr hW (Or.inl ⟨r, u9, hp, rfl, rfl⟩) (Nat.le_of_ble_eq_true rfl) (Nat.le_of_ble_eq_true rfl) dL_tips_19
set_option maxHeartbeats 4000000 in
set_option maxRecDepth 100000 in
theorem kL_moment (l : Launch) (G : gx_T) (L : List Nat) (f : Nat → va_E) (x : Nat) (vs : List Value) (hx : x ∈ L) (fx : f x = .inr (10, vs)) (ow : Nat) (g : Nat → Int64) (p0 p1 : Int32) (post : Option Value → va_W → Prop) (px : String → va_W → Prop) (hM : gx_MX l G yX5_moment cX5_moment 3 (some .long) ({ frames := 7, cells := 2, slots := 12, locals := 110 } : Room) [.ref x, .int p0, .int p1] (va_pl L f) post px) (hpo : ∀ v u, post v u → ∃ r : Int64, v = some (.long r)) (hpx : ∀ E u, px E u → E = gx_E1 ∨ E = gx_E3) : gx_MH l G yL_moment cL_moment 5 (some .int) [(0, 9, 12, 13), (0, 9, 16, 25)] ({ frames := 8, cells := 2, slots := 12, locals := 132 } : Room) [.ref x, .int p0, .int p1, .ref ow] ([(ow, .inl (G.2.1 2, 1, .inr (.inl g)))] ++ va_pl L f) (fun v w => (∃ (r : Int64) (u : va_W), post (some (.long r)) u ∧ v = some (.int 0) ∧ w = [(ow, .inl (G.2.1 2, 1, .inr (.inl (vp_updL g 0 r))))] ++ u) ∨ (∃ u : va_W, px gx_E1 u ∧ v = some (.int 1) ∧ w = [(ow, .inl (G.2.1 2, 1, .inr (.inl g)))] ++ u) ∨ (∃ u : va_W, px gx_E3 u ∧ v = some (.int 2) ∧ w = [(ow, .inl (G.2.1 2, 1, .inr (.inl g)))] ++ u)) := by
  refine gx_startH (by decide +kernel) (Nat.le_of_ble_eq_true rfl) ?_
  intro p e s m args below meth c A ls C hr htab hW hl
  have gX := C.x
  have gB := C.b
  have hl : lv_has ls 5 [(0, .ref x), (1, .int p0), (2, .int p1), (3, .ref ow)] := hl
  refine lv_aload_n gX gB dL_moment_0 rfl (lv_at hl 3 rfl) ?_
  refine lv_iconst (v := 0) gX gB dL_moment_1 (by decide) ?_
  refine lv_aload_n gX gB dL_moment_2 rfl (lv_at hl 0 rfl) ?_
  refine lv_iload_n gX gB dL_moment_3 rfl (lv_at hl 1 rfl) ?_
  refine lv_iload_n gX gB dL_moment_4 rfl (lv_at hl 2 rfl) ?_
  refine gx_callVX (wr := [(ow, .inl (G.2.1 2, 1, .inr (.inl g)))]) (rest := [.int 0, .ref ow]) C hW sL_42 hM (gx_pl hx fx) rfl rfl ⟨Nat.le_of_ble_eq_true rfl, Nat.le_of_ble_eq_true rfl⟩ hl.1 rfl (Nat.le_of_ble_eq_true rfl) dL_moment_5 ⟨(Nat.le_of_ble_eq_true rfl), (Nat.le_of_ble_eq_true rfl)⟩ (fun E ce q9 u9 H locs hpx9 hW hce hcv hcl => ?_) (fun v9 u9 H locs hp hW => ?_)
  · rcases hpx E u9 hpx9 with rfl | rfl
    · refine gx_catch (own := RL) C [] ⟨0, 9, 12, 13⟩ [⟨0, 9, 16, 25⟩] htab (fun _ h9 => absurd h9 List.not_mem_nil) (by decide) (by decide) (tq_3 185 (by decide +kernel) rfl) (List.mem_of_getElem? (i := 4) (by decide +kernel)) hce hcv hcl ?_
      refine W.widen (k := 2) (n := 12) (Nat.le_of_ble_eq_true rfl) (Nat.le_of_ble_eq_true rfl) ?_
      refine lv_astore (lv' := [(4, .ref q9), (0, .ref x), (1, .int p0), (2, .int p1), (3, .ref ow)]) gX gB dL_moment_12 hl (by decide) rfl (fun ls hl => ?_)
      refine lv_iconst (v := 1) gX gB dL_moment_14 (by decide) ?_
      refine vx_ret ?_
      exact gx_iret C hr hW (Or.inr (Or.inl ⟨u9, hpx9, rfl, rfl⟩)) (Nat.le_of_ble_eq_true rfl) (Nat.le_of_ble_eq_true rfl) dL_moment_15
    · refine gx_catch (own := RL) C [⟨0, 9, 12, 13⟩] ⟨0, 9, 16, 25⟩ [] htab (List.forall_mem_cons.mpr ⟨⟨by decide, gx_E1, (tq_3 185 (by decide +kernel) rfl), List.mem_of_getElem? (i := 4) (by decide +kernel)⟩, fun _ h9 => absurd h9 List.not_mem_nil⟩) (by decide) (by decide) (tq_4 79 (by decide +kernel) rfl) (List.mem_of_getElem? (i := 6) (by decide +kernel)) hce hcv hcl ?_
      refine W.widen (k := 2) (n := 12) (Nat.le_of_ble_eq_true rfl) (Nat.le_of_ble_eq_true rfl) ?_
      refine lv_astore (lv' := [(4, .ref q9), (0, .ref x), (1, .int p0), (2, .int p1), (3, .ref ow)]) gX gB dL_moment_16 hl (by decide) rfl (fun ls hl => ?_)
      refine lv_iconst (v := 2) gX gB dL_moment_18 (by decide) ?_
      refine vx_ret ?_
      exact gx_iret C hr hW (Or.inr (Or.inr (⟨u9, hpx9, rfl, rfl⟩))) (Nat.le_of_ble_eq_true rfl) (Nat.le_of_ble_eq_true rfl) dL_moment_19
  · obtain ⟨r, rfl⟩ := hpo v9 u9 hp
    have hW : gx_W G A s ([(ow, .inl (G.2.1 2, 1, .inr (.inl g)))] ++ u9) H locs := hW
    refine W.eq (g2 := F0 m 8 ls [.long r, .int 0, .ref ow]) rfl ?_
    refine W.widen (k := 2) (n := 12) (Nat.le_of_ble_eq_true rfl) (Nat.le_of_ble_eq_true rfl) ?_
    refine gx_lastE C hW 0 (j := 0) rfl (by decide) (by decide) (by decide) dL_moment_8 (fun H locs hW => ?_)
    have hW : gx_W G A s ([(ow, .inl (G.2.1 2, 1, .inr (.inl (vp_updL g 0 r))))] ++ u9) H locs := hW
    refine lv_goto (tgt := 20) gX gB dL_moment_9 (by decide) ?_
    refine lv_iconst (v := 0) gX gB dL_moment_20 (by decide) ?_
    refine vx_ret ?_
    exact gx_iret C hr hW (Or.inl ⟨r, u9, hp, rfl, rfl⟩) (Nat.le_of_ble_eq_true rfl) (Nat.le_of_ble_eq_true rfl) dL_moment_21
set_option maxHeartbeats 4000000 in
set_option maxRecDepth 100000 in
theorem kL_most (l : Launch) (G : gx_T) (L : List Nat) (f : Nat → va_E) (x : Nat) (vs : List Value) (hx : x ∈ L) (fx : f x = .inr (10, vs)) (ow : Nat) (g : Nat → Int64)  (post : Option Value → va_W → Prop) (px : String → va_W → Prop) (hM : gx_MX l G yX5_most cX5_most 3 (some .int) ({ frames := 7, cells := 1, slots := 6, locals := 113 } : Room) [.ref x] (va_pl L f) post px) (hpo : ∀ v u, post v u → ∃ r : Int32, v = some (.int r)) (hpx : ∀ E u, px E u → E = gx_E1) : gx_MH l G yL_most cL_most 3 (some .int) [(0, 8, 11, 13)] ({ frames := 8, cells := 1, slots := 6, locals := 135 } : Room) [.ref x, .ref ow] ([(ow, .inl (G.2.1 2, 1, .inr (.inl g)))] ++ va_pl L f) (fun v w => (∃ (r : Int32) (u : va_W), post (some (.int r)) u ∧ v = some (.int 0) ∧ w = [(ow, .inl (G.2.1 2, 1, .inr (.inl (vp_updL g 0 r.toInt64))))] ++ u) ∨ (∃ u : va_W, px gx_E1 u ∧ v = some (.int 1) ∧ w = [(ow, .inl (G.2.1 2, 1, .inr (.inl g)))] ++ u)) := by
  refine gx_startH (by decide +kernel) (Nat.le_of_ble_eq_true rfl) ?_
  intro p e s m args below meth c A ls C hr htab hW hl
  have gX := C.x
  have gB := C.b
  have hl : lv_has ls 3 [(0, .ref x), (1, .ref ow)] := hl
  refine lv_aload_n gX gB dL_most_0 rfl (lv_at hl 1 rfl) ?_
  refine lv_iconst (v := 0) gX gB dL_most_1 (by decide) ?_
  refine lv_aload_n gX gB dL_most_2 rfl (lv_at hl 0 rfl) ?_
  refine gx_callVX (wr := [(ow, .inl (G.2.1 2, 1, .inr (.inl g)))]) (rest := [.int 0, .ref ow]) C hW sL_45 hM (gx_pl hx fx) rfl rfl ⟨Nat.le_of_ble_eq_true rfl, Nat.le_of_ble_eq_true rfl⟩ hl.1 rfl (Nat.le_of_ble_eq_true rfl) dL_most_3 ⟨(Nat.le_of_ble_eq_true rfl), (Nat.le_of_ble_eq_true rfl)⟩ (fun E ce q9 u9 H locs hpx9 hW hce hcv hcl => ?_) (fun v9 u9 H locs hp hW => ?_)
  · rcases hpx E u9 hpx9 with rfl
    · refine gx_catch (own := RL) C [] ⟨0, 8, 11, 13⟩ [] htab (fun _ h9 => absurd h9 List.not_mem_nil) (by decide) (by decide) (tq_3 185 (by decide +kernel) rfl) (List.mem_of_getElem? (i := 4) (by decide +kernel)) hce hcv hcl ?_
      refine W.widen (k := 1) (n := 6) (Nat.le_of_ble_eq_true rfl) (Nat.le_of_ble_eq_true rfl) ?_
      refine lv_astore_n (lv' := [(2, .ref q9), (0, .ref x), (1, .ref ow)]) gX gB dL_most_11 rfl hl (by decide) rfl (fun ls hl => ?_)
      refine lv_iconst (v := 1) gX gB dL_most_12 (by decide) ?_
      refine vx_ret ?_
      exact gx_iret C hr hW (Or.inr (⟨u9, hpx9, rfl, rfl⟩)) (Nat.le_of_ble_eq_true rfl) (Nat.le_of_ble_eq_true rfl) dL_most_13
  · obtain ⟨r, rfl⟩ := hpo v9 u9 hp
    have hW : gx_W G A s ([(ow, .inl (G.2.1 2, 1, .inr (.inl g)))] ++ u9) H locs := hW
    refine W.eq (g2 := F0 m 6 ls [.int r, .int 0, .ref ow]) rfl ?_
    refine W.widen (k := 1) (n := 6) (Nat.le_of_ble_eq_true rfl) (Nat.le_of_ble_eq_true rfl) ?_
    refine lv_i2l gX gB dL_most_6 rfl ?_
    refine gx_lastE C hW 0 (j := 0) rfl (by decide) (by decide) (by decide) dL_most_7 (fun H locs hW => ?_)
    have hW : gx_W G A s ([(ow, .inl (G.2.1 2, 1, .inr (.inl (vp_updL g 0 r.toInt64))))] ++ u9) H locs := hW
    refine lv_goto (tgt := 14) gX gB dL_most_8 (by decide) ?_
    refine lv_iconst (v := 0) gX gB dL_most_14 (by decide) ?_
    refine vx_ret ?_
    exact gx_iret C hr hW (Or.inl ⟨r, u9, hp, rfl, rfl⟩) (Nat.le_of_ble_eq_true rfl) (Nat.le_of_ble_eq_true rfl) dL_most_15
set_option maxHeartbeats 4000000 in
set_option maxRecDepth 100000 in
theorem kL_test (l : Launch) (G : gx_T) (L : List Nat) (f : Nat → va_E) (x : Nat) (vs : List Value) (hx : x ∈ L) (fx : f x = .inr (10, vs)) (ow : Nat) (g : Nat → Int64) (p0 p1 : Int32) (post : Option Value → va_W → Prop) (px : String → va_W → Prop) (hM : gx_MX l G yX5_test cX5_test 4 (some .int) ({ frames := 7, cells := 2, slots := 12, locals := 113 } : Room) [.ref x, .int p0, .int p1] (va_pl L f) post px) (hpo : ∀ v u, post v u → ∃ r : Int32, v = some (.int r)) (hpx : ∀ E u, px E u → E = gx_E3 ∨ E = gx_E2 ∨ E = gx_E1) : gx_MH l G yL_test cL_test 5 (some .int) [(0, 10, 13, 25), (0, 10, 17, 15), (0, 10, 21, 13)] ({ frames := 8, cells := 2, slots := 12, locals := 136 } : Room) [.ref x, .int p0, .int p1, .ref ow] ([(ow, .inl (G.2.1 2, 1, .inr (.inl g)))] ++ va_pl L f) (fun v w => (∃ (r : Int32) (u : va_W), post (some (.int r)) u ∧ v = some (.int 0) ∧ w = [(ow, .inl (G.2.1 2, 1, .inr (.inl (vp_updL g 0 r.toInt64))))] ++ u) ∨ (∃ u : va_W, px gx_E3 u ∧ v = some (.int 1) ∧ w = [(ow, .inl (G.2.1 2, 1, .inr (.inl g)))] ++ u) ∨ (∃ u : va_W, px gx_E2 u ∧ v = some (.int 2) ∧ w = [(ow, .inl (G.2.1 2, 1, .inr (.inl g)))] ++ u) ∨ (∃ u : va_W, px gx_E1 u ∧ v = some (.int 3) ∧ w = [(ow, .inl (G.2.1 2, 1, .inr (.inl g)))] ++ u)) := by
  refine gx_startH (by decide +kernel) (Nat.le_of_ble_eq_true rfl) ?_
  intro p e s m args below meth c A ls C hr htab hW hl
  have gX := C.x
  have gB := C.b
  have hl : lv_has ls 5 [(0, .ref x), (1, .int p0), (2, .int p1), (3, .ref ow)] := hl
  refine lv_aload_n gX gB dL_test_0 rfl (lv_at hl 3 rfl) ?_
  refine lv_iconst (v := 0) gX gB dL_test_1 (by decide) ?_
  refine lv_aload_n gX gB dL_test_2 rfl (lv_at hl 0 rfl) ?_
  refine lv_iload_n gX gB dL_test_3 rfl (lv_at hl 1 rfl) ?_
  refine lv_iload_n gX gB dL_test_4 rfl (lv_at hl 2 rfl) ?_
  refine gx_callVX (wr := [(ow, .inl (G.2.1 2, 1, .inr (.inl g)))]) (rest := [.int 0, .ref ow]) C hW sL_49 hM (gx_pl hx fx) rfl rfl ⟨Nat.le_of_ble_eq_true rfl, Nat.le_of_ble_eq_true rfl⟩ hl.1 rfl (Nat.le_of_ble_eq_true rfl) dL_test_5 ⟨(Nat.le_of_ble_eq_true rfl), (Nat.le_of_ble_eq_true rfl)⟩ (fun E ce q9 u9 H locs hpx9 hW hce hcv hcl => ?_) (fun v9 u9 H locs hp hW => ?_)
  · rcases hpx E u9 hpx9 with rfl | rfl | rfl
    · refine gx_catch (own := RL) C [] ⟨0, 10, 13, 25⟩ [⟨0, 10, 17, 15⟩, ⟨0, 10, 21, 13⟩] htab (fun _ h9 => absurd h9 List.not_mem_nil) (by decide) (by decide) (tq_4 79 (by decide +kernel) rfl) (List.mem_of_getElem? (i := 6) (by decide +kernel)) hce hcv hcl ?_
      refine W.widen (k := 2) (n := 12) (Nat.le_of_ble_eq_true rfl) (Nat.le_of_ble_eq_true rfl) ?_
      refine lv_astore (lv' := [(4, .ref q9), (0, .ref x), (1, .int p0), (2, .int p1), (3, .ref ow)]) gX gB dL_test_13 hl (by decide) rfl (fun ls hl => ?_)
      refine lv_iconst (v := 1) gX gB dL_test_15 (by decide) ?_
      refine vx_ret ?_
      exact gx_iret C hr hW (Or.inr (Or.inl ⟨u9, hpx9, rfl, rfl⟩)) (Nat.le_of_ble_eq_true rfl) (Nat.le_of_ble_eq_true rfl) dL_test_16
    · refine gx_catch (own := RL) C [⟨0, 10, 13, 25⟩] ⟨0, 10, 17, 15⟩ [⟨0, 10, 21, 13⟩] htab (List.forall_mem_cons.mpr ⟨⟨by decide, gx_E3, (tq_4 79 (by decide +kernel) rfl), List.mem_of_getElem? (i := 3) (by decide +kernel)⟩, fun _ h9 => absurd h9 List.not_mem_nil⟩) (by decide) (by decide) (tq_3 186 (by decide +kernel) rfl) (List.mem_of_getElem? (i := 5) (by decide +kernel)) hce hcv hcl ?_
      refine W.widen (k := 2) (n := 12) (Nat.le_of_ble_eq_true rfl) (Nat.le_of_ble_eq_true rfl) ?_
      refine lv_astore (lv' := [(4, .ref q9), (0, .ref x), (1, .int p0), (2, .int p1), (3, .ref ow)]) gX gB dL_test_17 hl (by decide) rfl (fun ls hl => ?_)
      refine lv_iconst (v := 2) gX gB dL_test_19 (by decide) ?_
      refine vx_ret ?_
      exact gx_iret C hr hW (Or.inr (Or.inr (Or.inl ⟨u9, hpx9, rfl, rfl⟩))) (Nat.le_of_ble_eq_true rfl) (Nat.le_of_ble_eq_true rfl) dL_test_20
    · refine gx_catch (own := RL) C [⟨0, 10, 13, 25⟩, ⟨0, 10, 17, 15⟩] ⟨0, 10, 21, 13⟩ [] htab (List.forall_mem_cons.mpr ⟨⟨by decide, gx_E3, (tq_4 79 (by decide +kernel) rfl), List.mem_of_getElem? (i := 1) (by decide +kernel)⟩, List.forall_mem_cons.mpr ⟨⟨by decide, gx_E2, (tq_3 186 (by decide +kernel) rfl), List.mem_of_getElem? (i := 0) (by decide +kernel)⟩, fun _ h9 => absurd h9 List.not_mem_nil⟩⟩) (by decide) (by decide) (tq_3 185 (by decide +kernel) rfl) (List.mem_of_getElem? (i := 4) (by decide +kernel)) hce hcv hcl ?_
      refine W.widen (k := 2) (n := 12) (Nat.le_of_ble_eq_true rfl) (Nat.le_of_ble_eq_true rfl) ?_
      refine lv_astore (lv' := [(4, .ref q9), (0, .ref x), (1, .int p0), (2, .int p1), (3, .ref ow)]) gX gB dL_test_21 hl (by decide) rfl (fun ls hl => ?_)
      refine lv_iconst (v := 3) gX gB dL_test_23 (by decide) ?_
      refine vx_ret ?_
      exact gx_iret C hr hW (Or.inr (Or.inr (Or.inr (⟨u9, hpx9, rfl, rfl⟩)))) (Nat.le_of_ble_eq_true rfl) (Nat.le_of_ble_eq_true rfl) dL_test_24
  · obtain ⟨r, rfl⟩ := hpo v9 u9 hp
    have hW : gx_W G A s ([(ow, .inl (G.2.1 2, 1, .inr (.inl g)))] ++ u9) H locs := hW
    refine W.eq (g2 := F0 m 8 ls [.int r, .int 0, .ref ow]) rfl ?_
    refine W.widen (k := 2) (n := 12) (Nat.le_of_ble_eq_true rfl) (Nat.le_of_ble_eq_true rfl) ?_
    refine lv_i2l gX gB dL_test_8 rfl ?_
    refine gx_lastE C hW 0 (j := 0) rfl (by decide) (by decide) (by decide) dL_test_9 (fun H locs hW => ?_)
    have hW : gx_W G A s ([(ow, .inl (G.2.1 2, 1, .inr (.inl (vp_updL g 0 r.toInt64))))] ++ u9) H locs := hW
    refine lv_goto (tgt := 25) gX gB dL_test_10 (by decide) ?_
    refine lv_iconst (v := 0) gX gB dL_test_25 (by decide) ?_
    refine vx_ret ?_
    exact gx_iret C hr hW (Or.inl ⟨r, u9, hp, rfl, rfl⟩) (Nat.le_of_ble_eq_true rfl) (Nat.le_of_ble_eq_true rfl) dL_test_26
set_option maxHeartbeats 4000000 in
set_option maxRecDepth 100000 in
theorem kL_anchor (l : Launch) (G : gx_T) (L : List Nat) (f : Nat → va_E) (x : Nat) (vs : List Value) (hx : x ∈ L) (fx : f x = .inr (10, vs)) (ow : Nat) (g : Nat → Int64)  (post : Option Value → va_W → Prop) (px : String → va_W → Prop) (hM : gx_MX l G yX5_anchor cX5_anchor 3 (some .boolean) ({ frames := 7, cells := 1, slots := 6, locals := 113 } : Room) [.ref x] (va_pl L f) post px) (hpo : ∀ v u, post v u → ∃ r : Int32, v = some (.int r)) (hpx : ∀ E u, px E u → E = gx_E1) : gx_MH l G yL_anchor cL_anchor 3 (some .int) [(0, 15, 18, 13)] ({ frames := 8, cells := 1, slots := 6, locals := 135 } : Room) [.ref x, .ref ow] ([(ow, .inl (G.2.1 2, 1, .inr (.inl g)))] ++ va_pl L f) (fun v w => (∃ (r : Int32) (u : va_W), post (some (.int r)) u ∧ v = some (.int 0) ∧ w = [(ow, .inl (G.2.1 2, 1, .inr (.inl (vp_updL g 0 (if r = 0 then 0 else 1)))))] ++ u) ∨ (∃ u : va_W, px gx_E1 u ∧ v = some (.int 1) ∧ w = [(ow, .inl (G.2.1 2, 1, .inr (.inl g)))] ++ u)) := by
  refine gx_startH (by decide +kernel) (Nat.le_of_ble_eq_true rfl) ?_
  intro p e s m args below meth c A ls C hr htab hW hl
  have gX := C.x
  have gB := C.b
  have hl : lv_has ls 3 [(0, .ref x), (1, .ref ow)] := hl
  refine lv_aload_n gX gB dL_anchor_0 rfl (lv_at hl 1 rfl) ?_
  refine lv_iconst (v := 0) gX gB dL_anchor_1 (by decide) ?_
  refine lv_aload_n gX gB dL_anchor_2 rfl (lv_at hl 0 rfl) ?_
  refine gx_callVX (wr := [(ow, .inl (G.2.1 2, 1, .inr (.inl g)))]) (rest := [.int 0, .ref ow]) C hW sL_53 hM (gx_pl hx fx) rfl rfl ⟨Nat.le_of_ble_eq_true rfl, Nat.le_of_ble_eq_true rfl⟩ hl.1 rfl (Nat.le_of_ble_eq_true rfl) dL_anchor_3 ⟨(Nat.le_of_ble_eq_true rfl), (Nat.le_of_ble_eq_true rfl)⟩ (fun E ce q9 u9 H locs hpx9 hW hce hcv hcl => ?_) (fun v9 u9 H locs hp hW => ?_)
  · rcases hpx E u9 hpx9 with rfl
    · refine gx_catch (own := RL) C [] ⟨0, 15, 18, 13⟩ [] htab (fun _ h9 => absurd h9 List.not_mem_nil) (by decide) (by decide) (tq_3 185 (by decide +kernel) rfl) (List.mem_of_getElem? (i := 4) (by decide +kernel)) hce hcv hcl ?_
      refine W.widen (k := 1) (n := 6) (Nat.le_of_ble_eq_true rfl) (Nat.le_of_ble_eq_true rfl) ?_
      refine lv_astore_n (lv' := [(2, .ref q9), (0, .ref x), (1, .ref ow)]) gX gB dL_anchor_18 rfl hl (by decide) rfl (fun ls hl => ?_)
      refine lv_iconst (v := 1) gX gB dL_anchor_19 (by decide) ?_
      refine vx_ret ?_
      exact gx_iret C hr hW (Or.inr (⟨u9, hpx9, rfl, rfl⟩)) (Nat.le_of_ble_eq_true rfl) (Nat.le_of_ble_eq_true rfl) dL_anchor_20
  · obtain ⟨r, rfl⟩ := hpo v9 u9 hp
    have hW : gx_W G A s ([(ow, .inl (G.2.1 2, 1, .inr (.inl g)))] ++ u9) H locs := hW
    refine W.eq (g2 := F0 m 6 ls [.int r, .int 0, .ref ow]) rfl ?_
    refine W.widen (k := 1) (n := 6) (Nat.le_of_ble_eq_true rfl) (Nat.le_of_ble_eq_true rfl) ?_
    refine lv_if_eq (tgt := 13) gX gB dL_anchor_6 (by decide) (fun c6 => ?_) (fun c6 => ?_)
    · refine lv_lconst (v := 0) gX gB dL_anchor_13 (by decide) ?_
      refine gx_lastE C hW 0 (j := 0) rfl (by decide) (by decide) (by decide) dL_anchor_14 (fun H locs hW => ?_)
      have hW : gx_W G A s ([(ow, .inl (G.2.1 2, 1, .inr (.inl (vp_updL g 0 0))))] ++ u9) H locs := hW
      refine lv_goto (tgt := 21) gX gB dL_anchor_15 (by decide) ?_
      refine lv_iconst (v := 0) gX gB dL_anchor_21 (by decide) ?_
      refine vx_ret ?_
      exact gx_iret C hr hW (Or.inl ⟨r, u9, hp, rfl, by rw [if_pos c6]⟩) (Nat.le_of_ble_eq_true rfl) (Nat.le_of_ble_eq_true rfl) dL_anchor_22
    · refine lv_lconst (v := 1) gX gB dL_anchor_9 (by decide) ?_
      refine lv_goto (tgt := 14) gX gB dL_anchor_10 (by decide) ?_
      refine gx_lastE C hW 0 (j := 0) rfl (by decide) (by decide) (by decide) dL_anchor_14 (fun H locs hW => ?_)
      have hW : gx_W G A s ([(ow, .inl (G.2.1 2, 1, .inr (.inl (vp_updL g 0 1))))] ++ u9) H locs := hW
      refine lv_goto (tgt := 21) gX gB dL_anchor_15 (by decide) ?_
      refine lv_iconst (v := 0) gX gB dL_anchor_21 (by decide) ?_
      refine vx_ret ?_
      exact gx_iret C hr hW (Or.inl ⟨r, u9, hp, rfl, by rw [if_neg c6]⟩) (Nat.le_of_ble_eq_true rfl) (Nat.le_of_ble_eq_true rfl) dL_anchor_22
