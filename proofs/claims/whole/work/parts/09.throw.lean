/-! THROWS over the ground: 'throw new E("text")' in StandTests. -/
def gx_thr (ic : Nat) (cls : String) : Prop := (∀ w ∈ (vx_atS RX5 ic cls gx_up).filter goodWord, w ∈ lw_tbl) ∧ (∀ w ∈ (vx_atS RX5 ic cls gx_up).filter (fun w => !goodWord w), w ∈ gx_nW) ∧ ∀ w ∈ vx_atS RX5 ic cls gx_up, vx_ot w = true
set_option maxRecDepth 100000 in
theorem gx_thr1 : gx_thr 56 gx_E1 := ⟨by decide +kernel, by decide +kernel, by decide +kernel⟩
set_option maxRecDepth 100000 in
theorem gx_thr2 : gx_thr 94 gx_E2 := ⟨by decide +kernel, by decide +kernel, by decide +kernel⟩
set_option maxRecDepth 100000 in
theorem gx_thr3 : gx_thr 83 gx_E3 := ⟨by decide +kernel, by decide +kernel, by decide +kernel⟩
theorem gx_noTr {l : Launch} (h : l.flags = flags0) : l.stackTraces = false := by
  unfold Launch.stackTraces
  rw [h]
  decide +kernel
section GT
variable {G : gx_T} {p : Program} {l : Launch} {e : Env} {R : Room} {s : State} {m : MethodId} {args : Array Value} {below : List Frame} {meth : Method} {c : Code} {H : Heap} {locs : List Loc} {cells slots : Nat} {Q : State → Prop}
variable {cc : ByteArray} {nL pc : Nat} {own : String} {A : Nat → Prop} {ls : Array Slot} {rest : List Value} {ws : va_W}
theorem gx_throw {Qc : Array Value → State → Outcome → State → Prop} {px : String → va_W → Prop} {cls text : String} {ik is ic mc ms : Nat} (hl : l.flags = flags0) (C : gx_C G p s m args meth c cc nL RX5 A) (hno : ∀ x ∈ c.exceptionTable.toList, False) (hW : gx_W G A s ws H locs) (hT : gx_thr ic cls) (hcls : Bundle.fit cls = true) (h1 : Cond.classLink RX5 ik cls ∈ lw_all) (h2 : Cond.initialized cls ∈ lw_all) (h3 : Cond.stringRef "StandTests" is text ∈ tables_1) (hsize : ls.size = nL)
    (d0 : decode cc pc = .ok (.new ik, 3)) (d3 : decode cc (pc + 3) = .ok (.dup, 1)) (d4 : decode cc (pc + 4) = .ok (.ldc is, 2)) (d6 : decode cc (pc + 6) = .ok (.invokespecial ic, 3)) (d9 : decode cc (pc + 9) = .ok (.athrow, 1))
    (hRf : 5 < R.frames) (hRl : (rest.map fun v => v.category).sum + 82 ≤ R.locals) (hRc : cells + 1 ≤ R.cells) (hRs : slots + 6 ≤ R.slots) (hpx : px cls ws) (hc : cells + 1 ≤ mc) (hs : slots + 6 ≤ ms) :
    W p l e R s m args below meth c H locs cells slots (vx_MQ below Qc (gx_X G A px) args s mc ms A) (F0 m pc ls rest) := by
  obtain ⟨sa, hsa⟩ := C.2.2.2.2.1.2.2.2.2.1 is text h3
  have hat : ∀ w ∈ vx_atS RX5 ic cls gx_up, w.before args s = true := vx_hat (B := gx_nW) (fun w hw => C.ts w (List.mem_append_right _ (List.mem_filter.mpr ⟨hT.1 w hw, (List.mem_filter.mp hw).2⟩))) hT.2.1 (fun w hw => (C.2.2.2.2.1.2.2.1 w hw).use ((Bool.and_eq_true _ _).mp (gx_nW_ok w hw)).1)
  refine vx_throwS (own := RX5) (cls := cls) (text := text) (names := gx_up) (ik := ik) (is := is) (ic := ic) (sa := sa) (A := A) C.x C.b (gx_noTr hl) C.hown hcls (by decide +kernel) (C.ts _ h1) (C.ts _ h2) hsa hat ?_ C.2.2.2.2.2.2.1 C.2.2.2.2.2.2.2.1 hW.2.2 (hsize.trans C.1.2.2.1.symm) d0 d3 d4 d6 d9 (fun x hx => (hno x hx).elim) hRf hRl hRc hRs C.2.1 ?_ hW.2.2.2.2 hc hs
  · intro w hw
    rcases List.mem_cons.mp hw with rfl | hw
    · rfl
    · rcases List.mem_cons.mp hw with rfl | hw
      · rfl
      · exact hT.2.2 w hw
  · intro t hvm hz hq
    have hS := hW.2.2
    refine ⟨⟨ws, hpx, fun k q hk => (hW.1 k q hk).kept (hq _ (hW.1 k q hk).lt), hW.2.1⟩, Nat.le_trans hS.1 hz, fun q h4 h5 => (hq q (Nat.lt_of_lt_of_le h4 hS.1)).trans (hS.2.1 q h4 h5)⟩
/-- not caught here: on to the caller -/
theorem gx_out {Qc : Array Value → State → Outcome → State → Prop} {px : String → va_W → Prop} {E : String} {ce : Cell} {q : Addr} {mc ms : Nat} (C : gx_C G p s m args meth c cc nL own A) (hno : ∀ x ∈ c.exceptionTable.toList, False) (hW : gx_W G A s ws H locs) (hcell : H[q]? = some ce) (hv : ce.vm = .none) (hcl : s.vm.findClass E = some ce.cls) (hpx : px E ws) (hc : cells ≤ mc) (hs : slots ≤ ms) : vx_W p l e R s m args below meth c H locs cells slots (vx_MQ below Qc (gx_X G A px) args s mc ms A) (F0 m pc ls rest) q :=
  vx_out (fun x hx => (hno x hx).elim) C.2.1 hcell hv hcl (fun t ht _ => ⟨⟨ws, hpx, by rw [ht]; exact hW.1, hW.2.1⟩, hW.2.2.F ht⟩) hW.2.2.2.2 hc hs
end GT
