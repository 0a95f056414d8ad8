/-! THE REFERENCE: isOut, momentOf, tipping. -/
set_option maxHeartbeats 4000000 in
theorem gx_callVL {l : Launch} {p : Program} {e : Env} {R : Room} {s : State} {m : MethodId} {args : Array Value} {below : List Frame} {meth : Method} {c : Code} {A : Nat → Prop} {G : gx_T} {cc : ByteArray} {nL : Nat} {own : String} {wr wc : va_W} {H : Heap} {locs : List Loc} {cells slots : Nat} {Q : State → Prop} {pc : Nat} {ls : Array Slot} {st0 rest As : List Value} {o : Nat} {idx : Nat} {y : MethodName} {b : ByteArray} {n : Nat} {r : Option FieldType} {k : Nat} {rm : Room} {post : Option Value → va_W → Prop} (C : gx_C G p s m args meth c cc nL own A) (hW : gx_W G A s (wr ++ wc) H locs) (hs : gx_sV own idx y b n r k) (hM : gx_M l G y b n r rm (.ref o :: As) wc post) {ci N : Nat} {T : u_T} {fs : List Value} (ho : gx_at wc o (.inr (ci, fs))) (hc : vwCl[ci]? = some (y.cls, T, N)) (hn : As.length = k) (hR : rm.frames + 1 ≤ R.frames ∧ 16 + (n + 11) + rm.locals ≤ R.locals) (hsize : ls.size = nL) (hst : st0 = As.reverse ++ .ref o :: rest) (hrest : (rest.map fun v => v.category).sum ≤ 16) (d : decode cc pc = .ok (.invokevirtual idx, 3)) (hf : cells + rm.cells ≤ R.cells ∧ slots + rm.slots ≤ R.slots)
    (kk : ∀ (v : Option Value) (u : va_W) (H1 : Heap) (locs1 : List Loc), post v u → gx_W G A s (wr ++ u) H1 locs1 → W p l e R s m args below meth c H1 locs1 (cells + rm.cells) (slots + rm.slots) Q (F0 m (pc + 3) ls (v.toList ++ rest))) : W p l e R s m args below meth c H locs cells slots Q (F0 m pc ls st0) := by
  refine gx_ret (a := (Value.ref o :: As).toArray) C hW ?_ kk
  have cw : CallW R s args own y.cls idx y b n r (gx_ws y b n r) rm rm.cells rm.slots k := cwV k C.ts (gx_goodV hs) rfl rfl rfl ⟨rfl, hs.2.1, hs.2.2.1, hs.2.2.2⟩ ⟨hR.1, by have := hR.2; omega⟩
  have hp : PreV s H y.cls o (gx_P G (.ref o :: As) wc H.size) As := ⟨(gx_pre C hW.cut _).1, gx_recv C hW.cut ho hc, (gx_pre C hW.cut _).2⟩
  have hS := C.1
  obtain ⟨⟨hrc, hrs, hfr, hlo, hws, hcw, hcode, hini, hy, hlen, hl⟩, hin, hse⟩ := cw
  have hK : Back l R p e below s args y 3 16 (PreOf R rm.cells rm.slots (gx_P G (.ref o :: As) wc H.size)) (PostOf (gx_Q G (va_A wc H.size) post) rm.cells rm.slots (va_A wc H.size)) := back_of (bytes := b) (maxL := n) (ret := r) (hM H.size) hp.1 hrc hrs hfr hR.2 hws hcw (fun a' U hW => word_at hW (Or.inl (by first | rfl | simp [Cond.onTables, Cond.keeps, Cond.steady])) hini)
  obtain ⟨hx, hb, hml, ho9, -⟩ := hS
  obtain ⟨-, ⟨cellB, hcB, hoB, hclB⟩, hPc⟩ := hp
  intro T1 hT X
  obtain ⟨v, vm₁, ⟨U', l2, c2, s2⟩, hW₁, X', ⟨g', mk, t, L, e1, e2, hq, h1, hL, h2, h3⟩, st⟩ := callV X hx (C := y.cls) (bytes := b) (maxL := n) (ret := r) (g := F0 m pc ls st0) ho9 hl hin hse hcode hy hK (by rw [hT]; exact hcB) hoB hclB rfl (hsize.trans hml.symm) (argsL := As) (rest := rest) (fun sig h => hn.trans (hlen sig h)) hst (show 2 * 0 + (rest.map fun v => v.category).sum ≤ 16 by omega) (by rw [hb]; exact d) (fun vm₁ hW₁ => ⟨hf.1, hf.2, hPc (T1.setVm vm₁) hT hW₁⟩)
  dsimp only [Pt.U, Pt.locs, Pt.cells, Pt.slots] at X' e1 e2 h1 h2 h3 st
  subst h1; subst h2; subst h3
  exact ⟨v, (T1.setVm vm₁).calling g' mk (Value.ref o :: As).toArray, t, U', L, hT, X', hL, e1, e2, hq, st⟩
def io_is (od : Nat → Int32) (q k : Nat) : Prop := ∃ j, j < q ∧ od j = nI k
theorem io_1 {od : Nat → Int32} {i k : Nat} (h : io_is od i k) : io_is od (i + 1) k := by
  obtain ⟨j, h1, h2⟩ := h
  exact ⟨j, by omega, h2⟩
theorem io_n {od : Nat → Int32} {i k : Nat} (h : ¬ io_is od i k) (h2 : ¬ od i = nI k) : ¬ io_is od (i + 1) k := by
  rintro ⟨j, h3, h4⟩
  rcases Nat.lt_or_ge j i with h5 | h5
  · exact h ⟨j, h5, h4⟩
  · exact h2 (by rw [show i = j by omega]; exact h4)
def yy_ok (py ou : Nat → Int64) (od : Nat → Int32) (q k : Nat) (v : Int64) : Prop := (io_is od q k → v = py k + ou k) ∧ (¬ io_is od q k → v = py k)
def nxt (cn s : Nat) : Nat := if s + 1 = cn then 0 else s + 1
theorem nxt_lt {cn s : Nat} (h : s < cn) : nxt cn s < cn := by
  unfold nxt
  split <;> omega
def rf_mom (fx fy px gr yy : Nat → Int64) (cf : Nat → Nat) (cn pn : Nat) (x y w : Int64) (s : Nat) : Int64 := mo_sum (w * wi_turn fx fy (cf s) (cf (nxt cn s)) x y) (fun k => gr k * wi_turn fx fy (cf s) (cf (nxt cn s)) (px k) (yy k)) pn
/-- the first place from i on, among n, whose moment is below 0, and 1 more; or 0 -/
def up_at (mom : Nat → Int64) : Nat → Nat → Nat
  | 0, _ => 0
  | n + 1, i => if mom i < 0 then i + 1 else up_at mom n (i + 1)
theorem up_1 {mom : Nat → Int64} {cn j : Nat} (hj : j < cn) (h : mom j < 0) : up_at mom (cn - j) j = j + 1 := by
  rw [show cn - j = (cn - (j + 1)) + 1 by omega]
  exact if_pos h
theorem up_0 {mom : Nat → Int64} {cn j : Nat} (hj : j < cn) (h : ¬ mom j < 0) : up_at mom (cn - j) j = up_at mom (cn - (j + 1)) (j + 1) := by
  rw [show cn - j = (cn - (j + 1)) + 1 by omega]
  exact if_neg h
set_option maxHeartbeats 4000000 in
set_option maxRecDepth 100000 in
theorem kX6_isOut (l : Launch) (G : gx_T) (ad : Nat → Nat) (cd : Int32) (pn fn dn cn sn tn : Nat) (ex ey eg : Int64) (at0 fl : Int32) (px py pz gr ou fx fy : Nat → Int64) (od cr ty to_ dr : Nat → Int32) (k q : Nat) (hq : q ≤ 8) : gx_M l G yX6_isOut cX6_isOut 5 (some .boolean) ({ frames := 0, cells := 0, slots := 0, locals := 0 } : Room) [.ref (ad 0), .int (nI k), .int (nI q)] ([(ad 0, .inr (11, [.int cd, .int (nI pn), .ref (ad 1), .ref (ad 2), .ref (ad 3), .ref (ad 4), .ref (ad 5), .int (nI fn), .ref (ad 6), .ref (ad 7), .int (nI dn), .ref (ad 8), .long ex, .long ey, .long eg, .int (nI cn), .ref (ad 9), .ref (ad 10), .int (nI sn), .int at0, .int fl, .int (nI tn), .ref (ad 11), .ref (ad 12)])), (ad 1, .inl (G.2.1 2, 16, .inr (.inl px))), (ad 2, .inl (G.2.1 2, 16, .inr (.inl py))), (ad 3, .inl (G.2.1 2, 16, .inr (.inl pz))), (ad 4, .inl (G.2.1 2, 16, .inr (.inl gr))), (ad 5, .inl (G.2.1 2, 16, .inr (.inl ou))), (ad 6, .inl (G.2.1 2, 12, .inr (.inl fx))), (ad 7, .inl (G.2.1 2, 12, .inr (.inl fy))), (ad 8, .inl (G.2.1 1, 8, .inl od)), (ad 9, .inl (G.2.1 1, 12, .inl cr)), (ad 10, .inl (G.2.1 1, 200, .inl ty)), (ad 11, .inl (G.2.1 1, 48, .inl to_)), (ad 12, .inl (G.2.1 1, 48, .inl dr))]) (fun v u => ∃ b9 : Int32, bv_is b9 (io_is od q k) ∧ v = some (.int b9) ∧ u = [(ad 0, .inr (11, [.int cd, .int (nI pn), .ref (ad 1), .ref (ad 2), .ref (ad 3), .ref (ad 4), .ref (ad 5), .int (nI fn), .ref (ad 6), .ref (ad 7), .int (nI dn), .ref (ad 8), .long ex, .long ey, .long eg, .int (nI cn), .ref (ad 9), .ref (ad 10), .int (nI sn), .int at0, .int fl, .int (nI tn), .ref (ad 11), .ref (ad 12)])), (ad 1, .inl (G.2.1 2, 16, .inr (.inl px))), (ad 2, .inl (G.2.1 2, 16, .inr (.inl py))), (ad 3, .inl (G.2.1 2, 16, .inr (.inl pz))), (ad 4, .inl (G.2.1 2, 16, .inr (.inl gr))), (ad 5, .inl (G.2.1 2, 16, .inr (.inl ou))), (ad 6, .inl (G.2.1 2, 12, .inr (.inl fx))), (ad 7, .inl (G.2.1 2, 12, .inr (.inl fy))), (ad 8, .inl (G.2.1 1, 8, .inl od)), (ad 9, .inl (G.2.1 1, 12, .inl cr)), (ad 10, .inl (G.2.1 1, 200, .inl ty)), (ad 11, .inl (G.2.1 1, 48, .inl to_)), (ad 12, .inl (G.2.1 1, 48, .inl dr))]) := by
  refine gx_start (by decide +kernel) (Nat.le_of_ble_eq_true rfl) ?_
  intro p e s m args below meth c A ls C hr hnm hW hl
  have gX := C.x
  have gB := C.b
  have hl : lv_has ls 5 [(0, .ref (ad 0)), (1, .int (nI k)), (2, .int (nI q))] := hl
  refine lv_iconst (v := 0) gX gB dX6_isOut_0 (by decide) ?_
  refine lv_istore_n (lv' := [(3, .int 0), (0, .ref (ad 0)), (1, .int (nI k)), (2, .int (nI q))]) gX gB dX6_isOut_1 rfl hl (by decide) rfl (fun ls hl => ?_)
  refine lv_iconst (v := 0) gX gB dX6_isOut_2 (by decide) ?_
  refine lv_istore (lv' := [(4, .int 0), (3, .int 0), (0, .ref (ad 0)), (1, .int (nI k)), (2, .int (nI q))]) gX gB dX6_isOut_3 hl (by decide) rfl (fun ls hl => ?_)
  have hl : lv_has ls 5 [(4, .int (nI 0)), (3, .int 0), (0, .ref (ad 0)), (1, .int (nI k)), (2, .int (nI q))] := hl
  have loop : ∀ (fu : Nat) (i : Nat) (b9 : Int32), (q - i < fu) → (i ≤ q) → (bv_is b9 (io_is od i k)) → ∀ (H : Heap) (locs : List Loc), gx_W G A s ([(ad 0, .inr (11, [.int cd, .int (nI pn), .ref (ad 1), .ref (ad 2), .ref (ad 3), .ref (ad 4), .ref (ad 5), .int (nI fn), .ref (ad 6), .ref (ad 7), .int (nI dn), .ref (ad 8), .long ex, .long ey, .long eg, .int (nI cn), .ref (ad 9), .ref (ad 10), .int (nI sn), .int at0, .int fl, .int (nI tn), .ref (ad 11), .ref (ad 12)])), (ad 1, .inl (G.2.1 2, 16, .inr (.inl px))), (ad 2, .inl (G.2.1 2, 16, .inr (.inl py))), (ad 3, .inl (G.2.1 2, 16, .inr (.inl pz))), (ad 4, .inl (G.2.1 2, 16, .inr (.inl gr))), (ad 5, .inl (G.2.1 2, 16, .inr (.inl ou))), (ad 6, .inl (G.2.1 2, 12, .inr (.inl fx))), (ad 7, .inl (G.2.1 2, 12, .inr (.inl fy))), (ad 8, .inl (G.2.1 1, 8, .inl od)), (ad 9, .inl (G.2.1 1, 12, .inl cr)), (ad 10, .inl (G.2.1 1, 200, .inl ty)), (ad 11, .inl (G.2.1 1, 48, .inl to_)), (ad 12, .inl (G.2.1 1, 48, .inl dr))]) H locs → ∀ ls : Array Slot, lv_has ls 5 [(3, .int b9), (4, .int (nI i)), (1, .int (nI k)), (2, .int (nI q)), (0, .ref (ad 0))] → W p l e ({ frames := 0, cells := 0, slots := 0, locals := 0 } : Room) s m args below meth c H locs 0 0 (MQ below (gx_Q G A (fun v u => ∃ b9 : Int32, bv_is b9 (io_is od q k) ∧ v = some (.int b9) ∧ u = [(ad 0, .inr (11, [.int cd, .int (nI pn), .ref (ad 1), .ref (ad 2), .ref (ad 3), .ref (ad 4), .ref (ad 5), .int (nI fn), .ref (ad 6), .ref (ad 7), .int (nI dn), .ref (ad 8), .long ex, .long ey, .long eg, .int (nI cn), .ref (ad 9), .ref (ad 10), .int (nI sn), .int at0, .int fl, .int (nI tn), .ref (ad 11), .ref (ad 12)])), (ad 1, .inl (G.2.1 2, 16, .inr (.inl px))), (ad 2, .inl (G.2.1 2, 16, .inr (.inl py))), (ad 3, .inl (G.2.1 2, 16, .inr (.inl pz))), (ad 4, .inl (G.2.1 2, 16, .inr (.inl gr))), (ad 5, .inl (G.2.1 2, 16, .inr (.inl ou))), (ad 6, .inl (G.2.1 2, 12, .inr (.inl fx))), (ad 7, .inl (G.2.1 2, 12, .inr (.inl fy))), (ad 8, .inl (G.2.1 1, 8, .inl od)), (ad 9, .inl (G.2.1 1, 12, .inl cr)), (ad 10, .inl (G.2.1 1, 200, .inl ty)), (ad 11, .inl (G.2.1 1, 48, .inl to_)), (ad 12, .inl (G.2.1 1, 48, .inl dr))])) args s (({ frames := 0, cells := 0, slots := 0, locals := 0 } : Room)).cells (({ frames := 0, cells := 0, slots := 0, locals := 0 } : Room)).slots A) (F0 m 5 ls []) := by
    intro fu
    induction fu with
    | zero => intro i b9 hfu hi hb9 H locs hW ls hl; exact absurd hfu (Nat.not_lt_zero _)
    | succ fu ih =>
      intro i b9 hfu hi hb9 H locs hW ls hl
      rcases (by rcases Nat.lt_or_ge i q with h | h; (rcases hb9 with h2 | h2; exact Or.inr (Or.inl ⟨h, h2⟩); exact Or.inr (Or.inr ⟨h, h2⟩)); exact Or.inl h : q ≤ i ∨ (i < q ∧ (b9 = 1 ∧ io_is od i k)) ∨ (i < q ∧ (b9 = 0 ∧ ¬ io_is od i k))) with hik | ⟨hik, hb1, hb2⟩ | ⟨hik, hb1, hb2⟩
      · refine lv_iload gX gB dX6_isOut_5 (lv_at hl 1 rfl) ?_
        refine lv_iload_n gX gB dX6_isOut_7 rfl (lv_at hl 3 rfl) ?_
        refine lv_icmp_ge (tgt := 38) gX gB dX6_isOut_8 (by decide) (fun _ => ?_) (fun h9 => absurd (show (nI q) ≤ (nI i) from nI_le hik (by omega)) h9)
        refine lv_iload_n gX gB dX6_isOut_38 rfl (lv_at hl 0 rfl) ?_
        exact gx_zret C hr (by rcases hb9 with h9 | h9 <;> (rw [h9.1]; rfl)) hW (⟨b9, by rw [show q = i by omega]; exact hb9, rfl, rfl⟩) (Nat.le_of_ble_eq_true rfl) (Nat.le_of_ble_eq_true rfl) dX6_isOut_39
      · refine lv_iload gX gB dX6_isOut_5 (lv_at hl 1 rfl) ?_
        refine lv_iload_n gX gB dX6_isOut_7 rfl (lv_at hl 3 rfl) ?_
        refine lv_icmp_ge (tgt := 38) gX gB dX6_isOut_8 (by decide) (fun h9 => absurd (show (nI q) ≤ (nI i) from h9) (nI_ge hik (by omega))) (fun _ => ?_)
        refine lv_iload_n gX gB dX6_isOut_11 rfl (lv_at hl 0 rfl) ?_
        refine lv_if_ne (tgt := 26) gX gB dX6_isOut_12 (by decide) (fun _ => ?_) (fun h9 => absurd h9 (show ¬ b9 = (0 : Int32) from by rw [hb1]; decide))
        refine lv_iconst (v := 1) gX gB dX6_isOut_26 (by decide) ?_
        refine lv_goto (tgt := 31) gX gB dX6_isOut_27 (by decide) ?_
        refine lv_istore_n (lv' := [(3, .int 1), (4, .int (nI i)), (1, .int (nI k)), (2, .int (nI q)), (0, .ref (ad 0))]) gX gB dX6_isOut_31 rfl hl (by decide) rfl (fun ls hl => ?_)
        refine lv_iinc (v := nI (i + 1)) (lv' := [(4, .int (nI (i + 1))), (3, .int 1), (1, .int (nI k)), (2, .int (nI q)), (0, .ref (ad 0))]) gX gB dX6_isOut_32 hl (k := 1) rfl (by exact nI_1 i) (by decide) rfl (fun ls hl => ?_)
        refine lv_goto (tgt := 5) gX gB dX6_isOut_35 (by decide) ?_
        exact ih (i + 1) 1 (by omega) (by omega) (Or.inl ⟨rfl, io_1 hb2⟩) _ _ hW ls (lv_sub hl [1, 0, 2, 3, 4] rfl)
      · refine lv_iload gX gB dX6_isOut_5 (lv_at hl 1 rfl) ?_
        refine lv_iload_n gX gB dX6_isOut_7 rfl (lv_at hl 3 rfl) ?_
        refine lv_icmp_ge (tgt := 38) gX gB dX6_isOut_8 (by decide) (fun h9 => absurd (show (nI q) ≤ (nI i) from h9) (nI_ge hik (by omega))) (fun _ => ?_)
        refine lv_iload_n gX gB dX6_isOut_11 rfl (lv_at hl 0 rfl) ?_
        refine lv_if_ne (tgt := 26) gX gB dX6_isOut_12 (by decide) (fun h9 => absurd (show ¬ b9 = (0 : Int32) from h9) (fun zz => zz hb1)) (fun _ => ?_)
        refine lv_aload_n gX gB dX6_isOut_15 rfl (lv_at hl 4 rfl) ?_
        refine gx_get C hW fX6_31 ⟨0, rfl⟩ rfl dX6_isOut_16 ?_
        refine lv_iload gX gB dX6_isOut_19 (lv_at hl 1 rfl) ?_
        refine gx_iald C hW ⟨8, rfl⟩ (j := i) rfl (by omega) (by decide) dX6_isOut_21 ?_
        refine lv_iload_n gX gB dX6_isOut_22 rfl (lv_at hl 2 rfl) ?_
        refine lv_icmp_ne (tgt := 30) gX gB dX6_isOut_23 (by decide) (fun c23 => ?_) (fun c23 => ?_)
        · refine lv_iconst (v := 0) gX gB dX6_isOut_30 (by decide) ?_
          refine lv_istore_n (lv' := [(3, .int 0), (4, .int (nI i)), (1, .int (nI k)), (2, .int (nI q)), (0, .ref (ad 0))]) gX gB dX6_isOut_31 rfl hl (by decide) rfl (fun ls hl => ?_)
          refine lv_iinc (v := nI (i + 1)) (lv' := [(4, .int (nI (i + 1))), (3, .int 0), (1, .int (nI k)), (2, .int (nI q)), (0, .ref (ad 0))]) gX gB dX6_isOut_32 hl (k := 1) rfl (by exact nI_1 i) (by decide) rfl (fun ls hl => ?_)
          refine lv_goto (tgt := 5) gX gB dX6_isOut_35 (by decide) ?_
          exact ih (i + 1) 0 (by omega) (by omega) (Or.inr ⟨rfl, io_n hb2 c23⟩) _ _ hW ls (lv_sub hl [1, 0, 2, 3, 4] rfl)
        · refine lv_iconst (v := 1) gX gB dX6_isOut_26 (by decide) ?_
          refine lv_goto (tgt := 31) gX gB dX6_isOut_27 (by decide) ?_
          refine lv_istore_n (lv' := [(3, .int 1), (4, .int (nI i)), (1, .int (nI k)), (2, .int (nI q)), (0, .ref (ad 0))]) gX gB dX6_isOut_31 rfl hl (by decide) rfl (fun ls hl => ?_)
          refine lv_iinc (v := nI (i + 1)) (lv' := [(4, .int (nI (i + 1))), (3, .int 1), (1, .int (nI k)), (2, .int (nI q)), (0, .ref (ad 0))]) gX gB dX6_isOut_32 hl (k := 1) rfl (by exact nI_1 i) (by decide) rfl (fun ls hl => ?_)
          refine lv_goto (tgt := 5) gX gB dX6_isOut_35 (by decide) ?_
          exact ih (i + 1) 1 (by omega) (by omega) (Or.inl ⟨rfl, i, Nat.lt_succ_self i, c23⟩) _ _ hW ls (lv_sub hl [1, 0, 2, 3, 4] rfl)
  exact loop (q + 1) 0 0 (by omega) (Nat.zero_le _) (Or.inr ⟨rfl, fun zz => absurd zz.choose_spec.1 (Nat.not_lt_zero _)⟩) _ _ hW ls (lv_sub hl [1, 0, 3, 4, 2] rfl)
set_option maxHeartbeats 4000000 in
set_option maxRecDepth 100000 in
theorem kX6_momentOf (l : Launch) (G : gx_T) (ad : Nat → Nat) (cd : Int32) (pn fn dn cn sn tn : Nat) (ex ey eg : Int64) (at0 fl : Int32) (px py pz gr ou fx fy : Nat → Int64) (od cr ty to_ dr : Nat → Int32) (hpn : pn ≤ 16) (hcn : cn ≤ 12) (cf : Nat → Nat) (hcr : ∀ i, i < cn → cr i = nI (cf i)) (hcf : ∀ i, i < cn → cf i < 12) (q : Nat) (hq : q ≤ 8) (yy : Nat → Int64) (hyy : ∀ k, k < pn → yy_ok py ou od q k (yy k)) (x y w : Int64) (s0 : Nat) (hs0 : s0 < cn) : gx_M l G yX6_momentOf cX6_momentOf 14 (some .long) ({ frames := 1, cells := 0, slots := 0, locals := 34 } : Room) [.ref (ad 0), .int (nI s0), .int (nI q), .long x, .long y, .long w] ([(ad 0, .inr (11, [.int cd, .int (nI pn), .ref (ad 1), .ref (ad 2), .ref (ad 3), .ref (ad 4), .ref (ad 5), .int (nI fn), .ref (ad 6), .ref (ad 7), .int (nI dn), .ref (ad 8), .long ex, .long ey, .long eg, .int (nI cn), .ref (ad 9), .ref (ad 10), .int (nI sn), .int at0, .int fl, .int (nI tn), .ref (ad 11), .ref (ad 12)])), (ad 1, .inl (G.2.1 2, 16, .inr (.inl px))), (ad 2, .inl (G.2.1 2, 16, .inr (.inl py))), (ad 3, .inl (G.2.1 2, 16, .inr (.inl pz))), (ad 4, .inl (G.2.1 2, 16, .inr (.inl gr))), (ad 5, .inl (G.2.1 2, 16, .inr (.inl ou))), (ad 6, .inl (G.2.1 2, 12, .inr (.inl fx))), (ad 7, .inl (G.2.1 2, 12, .inr (.inl fy))), (ad 8, .inl (G.2.1 1, 8, .inl od)), (ad 9, .inl (G.2.1 1, 12, .inl cr)), (ad 10, .inl (G.2.1 1, 200, .inl ty)), (ad 11, .inl (G.2.1 1, 48, .inl to_)), (ad 12, .inl (G.2.1 1, 48, .inl dr))]) (fun v u => v = some (.long (rf_mom fx fy px gr yy cf cn pn x y w s0)) ∧ u = [(ad 0, .inr (11, [.int cd, .int (nI pn), .ref (ad 1), .ref (ad 2), .ref (ad 3), .ref (ad 4), .ref (ad 5), .int (nI fn), .ref (ad 6), .ref (ad 7), .int (nI dn), .ref (ad 8), .long ex, .long ey, .long eg, .int (nI cn), .ref (ad 9), .ref (ad 10), .int (nI sn), .int at0, .int fl, .int (nI tn), .ref (ad 11), .ref (ad 12)])), (ad 1, .inl (G.2.1 2, 16, .inr (.inl px))), (ad 2, .inl (G.2.1 2, 16, .inr (.inl py))), (ad 3, .inl (G.2.1 2, 16, .inr (.inl pz))), (ad 4, .inl (G.2.1 2, 16, .inr (.inl gr))), (ad 5, .inl (G.2.1 2, 16, .inr (.inl ou))), (ad 6, .inl (G.2.1 2, 12, .inr (.inl fx))), (ad 7, .inl (G.2.1 2, 12, .inr (.inl fy))), (ad 8, .inl (G.2.1 1, 8, .inl od)), (ad 9, .inl (G.2.1 1, 12, .inl cr)), (ad 10, .inl (G.2.1 1, 200, .inl ty)), (ad 11, .inl (G.2.1 1, 48, .inl to_)), (ad 12, .inl (G.2.1 1, 48, .inl dr))]) := by
  refine gx_start (by decide +kernel) (Nat.le_of_ble_eq_true rfl) ?_
  intro p e s m args below meth c A ls C hr hnm hW hl
  have gX := C.x
  have gB := C.b
  have hl : lv_has ls 14 [(0, .ref (ad 0)), (1, .int (nI s0)), (2, .int (nI q)), (3, .long x), (5, .long y), (7, .long w)] := hl
  refine lv_aload_n gX gB dX6_momentOf_0 rfl (lv_at hl 0 rfl) ?_
  refine gx_get C hW fX6_35 ⟨0, rfl⟩ rfl dX6_momentOf_1 ?_
  refine lv_iload_n gX gB dX6_momentOf_4 rfl (lv_at hl 1 rfl) ?_
  refine gx_iald C hW ⟨9, rfl⟩ (j := s0) rfl (by omega) (by omega) dX6_momentOf_5 ?_
  refine gx_topi (show (cr s0) = nI (cf s0) from hcr s0 hs0) ?_
  refine lv_istore (lv' := [(9, .int (nI (cf s0))), (0, .ref (ad 0)), (1, .int (nI s0)), (2, .int (nI q)), (3, .long x), (5, .long y), (7, .long w)]) gX gB dX6_momentOf_6 hl (by decide) rfl (fun ls hl => ?_)
  refine lv_aload_n gX gB dX6_momentOf_8 rfl (lv_at hl 1 rfl) ?_
  refine gx_get C hW fX6_35 ⟨0, rfl⟩ rfl dX6_momentOf_9 ?_
  refine lv_iload_n gX gB dX6_momentOf_12 rfl (lv_at hl 2 rfl) ?_
  refine lv_iconst (v := 1) gX gB dX6_momentOf_13 (by decide) ?_
  refine lv_iadd gX gB dX6_momentOf_14 ?_
  refine gx_topi (show ((nI s0) + 1) = nI (s0 + 1) from nI_1 s0) ?_
  refine lv_aload_n gX gB dX6_momentOf_15 rfl (lv_at hl 1 rfl) ?_
  refine gx_get C hW fX6_95 ⟨0, rfl⟩ rfl dX6_momentOf_16 ?_
  rcases Classical.em (s0 + 1 = cn) with hs1 | hs1
  · refine lv_icmp_ne (tgt := 26) gX gB dX6_momentOf_19 (by decide) (fun h9 => absurd (show ¬ (nI (s0 + 1)) = (nI cn) from h9) (fun zz => zz (congrArg nI hs1))) (fun _ => ?_)
    refine lv_iconst (v := 0) gX gB dX6_momentOf_22 (by decide) ?_
    refine lv_goto (tgt := 29) gX gB dX6_momentOf_23 (by decide) ?_
    refine gx_iald C hW ⟨9, rfl⟩ (j := 0) (by decide) (by decide) (by decide) dX6_momentOf_29 ?_
    refine gx_topi (show (cr 0) = nI (cf (nxt cn s0)) from (hcr 0 (by omega)).trans (congrArg (fun z => nI (cf z)) (show 0 = nxt cn s0 from (if_pos hs1).symm))) ?_
    refine lv_istore (lv' := [(10, .int (nI (cf (nxt cn s0)))), (9, .int (nI (cf s0))), (0, .ref (ad 0)), (1, .int (nI s0)), (2, .int (nI q)), (3, .long x), (5, .long y), (7, .long w)]) gX gB dX6_momentOf_30 hl (by decide) rfl (fun ls hl => ?_)
    refine lv_lload gX gB dX6_momentOf_32 (lv_at hl 7 rfl) ?_
    refine lv_aload_n gX gB dX6_momentOf_34 rfl (lv_at hl 2 rfl) ?_
    refine lv_iload gX gB dX6_momentOf_35 (lv_at hl 1 rfl) ?_
    refine lv_iload gX gB dX6_momentOf_37 (lv_at hl 0 rfl) ?_
    refine lv_lload_n gX gB dX6_momentOf_39 rfl (lv_at hl 5 rfl) ?_
    refine lv_lload gX gB dX6_momentOf_40 (lv_at hl 6 rfl) ?_
    refine gx_callV (wr := []) (rest := [.long w]) C hW sX6_87 (kX6_turn l G ad cd pn fn dn cn sn tn ex ey eg at0 fl px py pz gr ou fx fy od cr ty to_ dr (cf s0) (cf (nxt cn s0)) x y (hcf s0 hs0) (hcf _ (nxt_lt hs0))) ⟨0, rfl⟩ rfl rfl ⟨(Nat.le_of_ble_eq_true rfl), (Nat.le_of_ble_eq_true rfl)⟩ hl.1 rfl (Nat.le_of_ble_eq_true rfl) dX6_momentOf_42 ⟨(Nat.le_of_ble_eq_true rfl), (Nat.le_of_ble_eq_true rfl)⟩ (fun v9 u9 H locs hp hW => ?_)
    obtain ⟨rfl, hu⟩ := hp
    rw [hu] at hW
    have hW : gx_W G A s ([(ad 0, .inr (11, [.int cd, .int (nI pn), .ref (ad 1), .ref (ad 2), .ref (ad 3), .ref (ad 4), .ref (ad 5), .int (nI fn), .ref (ad 6), .ref (ad 7), .int (nI dn), .ref (ad 8), .long ex, .long ey, .long eg, .int (nI cn), .ref (ad 9), .ref (ad 10), .int (nI sn), .int at0, .int fl, .int (nI tn), .ref (ad 11), .ref (ad 12)])), (ad 1, .inl (G.2.1 2, 16, .inr (.inl px))), (ad 2, .inl (G.2.1 2, 16, .inr (.inl py))), (ad 3, .inl (G.2.1 2, 16, .inr (.inl pz))), (ad 4, .inl (G.2.1 2, 16, .inr (.inl gr))), (ad 5, .inl (G.2.1 2, 16, .inr (.inl ou))), (ad 6, .inl (G.2.1 2, 12, .inr (.inl fx))), (ad 7, .inl (G.2.1 2, 12, .inr (.inl fy))), (ad 8, .inl (G.2.1 1, 8, .inl od)), (ad 9, .inl (G.2.1 1, 12, .inl cr)), (ad 10, .inl (G.2.1 1, 200, .inl ty)), (ad 11, .inl (G.2.1 1, 48, .inl to_)), (ad 12, .inl (G.2.1 1, 48, .inl dr))]) H locs := hW
    refine W.eq (g2 := F0 m 45 ls [.long (wi_turn fx fy (cf s0) (cf (nxt cn s0)) x y), .long w]) rfl ?_
    refine W.widen (k := 0) (n := 0) (Nat.le_of_ble_eq_true rfl) (Nat.le_of_ble_eq_true rfl) ?_
    refine lv_lmul gX gB dX6_momentOf_45 ?_
    refine lv_lstore (lv' := [(11, .long (w * (wi_turn fx fy (cf s0) (cf (nxt cn s0)) x y))), (10, .int (nI (cf (nxt cn s0)))), (9, .int (nI (cf s0))), (0, .ref (ad 0)), (1, .int (nI s0)), (2, .int (nI q)), (3, .long x), (5, .long y), (7, .long w)]) gX gB dX6_momentOf_46 hl (by decide) rfl (fun ls hl => ?_)
    refine lv_iconst (v := 0) gX gB dX6_momentOf_48 (by decide) ?_
    refine lv_istore (lv' := [(13, .int 0), (11, .long (w * (wi_turn fx fy (cf s0) (cf (nxt cn s0)) x y))), (10, .int (nI (cf (nxt cn s0)))), (9, .int (nI (cf s0))), (0, .ref (ad 0)), (1, .int (nI s0)), (2, .int (nI q)), (3, .long x), (5, .long y), (7, .long w)]) gX gB dX6_momentOf_49 hl (by decide) rfl (fun ls hl => ?_)
    have hl : lv_has ls 14 [(13, .int (nI 0)), (11, .long (mo_sum (w * wi_turn fx fy (cf s0) (cf (nxt cn s0)) x y) (fun k => gr k * wi_turn fx fy (cf s0) (cf (nxt cn s0)) (px k) (yy k)) 0)), (10, .int (nI (cf (nxt cn s0)))), (9, .int (nI (cf s0))), (0, .ref (ad 0)), (1, .int (nI s0)), (2, .int (nI q)), (3, .long x), (5, .long y), (7, .long w)] := hl
    have loop : ∀ (fu : Nat) (i : Nat), (pn - i < fu) → (i ≤ pn) → ∀ (H : Heap) (locs : List Loc), gx_W G A s ([(ad 0, .inr (11, [.int cd, .int (nI pn), .ref (ad 1), .ref (ad 2), .ref (ad 3), .ref (ad 4), .ref (ad 5), .int (nI fn), .ref (ad 6), .ref (ad 7), .int (nI dn), .ref (ad 8), .long ex, .long ey, .long eg, .int (nI cn), .ref (ad 9), .ref (ad 10), .int (nI sn), .int at0, .int fl, .int (nI tn), .ref (ad 11), .ref (ad 12)])), (ad 1, .inl (G.2.1 2, 16, .inr (.inl px))), (ad 2, .inl (G.2.1 2, 16, .inr (.inl py))), (ad 3, .inl (G.2.1 2, 16, .inr (.inl pz))), (ad 4, .inl (G.2.1 2, 16, .inr (.inl gr))), (ad 5, .inl (G.2.1 2, 16, .inr (.inl ou))), (ad 6, .inl (G.2.1 2, 12, .inr (.inl fx))), (ad 7, .inl (G.2.1 2, 12, .inr (.inl fy))), (ad 8, .inl (G.2.1 1, 8, .inl od)), (ad 9, .inl (G.2.1 1, 12, .inl cr)), (ad 10, .inl (G.2.1 1, 200, .inl ty)), (ad 11, .inl (G.2.1 1, 48, .inl to_)), (ad 12, .inl (G.2.1 1, 48, .inl dr))]) H locs → ∀ ls : Array Slot, lv_has ls 14 [(13, .int (nI i)), (11, .long (mo_sum (w * wi_turn fx fy (cf s0) (cf (nxt cn s0)) x y) (fun k => gr k * wi_turn fx fy (cf s0) (cf (nxt cn s0)) (px k) (yy k)) i)), (9, .int (nI (cf s0))), (10, .int (nI (cf (nxt cn s0)))), (2, .int (nI q)), (0, .ref (ad 0))] → W p l e ({ frames := 1, cells := 0, slots := 0, locals := 34 } : Room) s m args below meth c H locs 0 0 (MQ below (gx_Q G A (fun v u => v = some (.long (rf_mom fx fy px gr yy cf cn pn x y w s0)) ∧ u = [(ad 0, .inr (11, [.int cd, .int (nI pn), .ref (ad 1), .ref (ad 2), .ref (ad 3), .ref (ad 4), .ref (ad 5), .int (nI fn), .ref (ad 6), .ref (ad 7), .int (nI dn), .ref (ad 8), .long ex, .long ey, .long eg, .int (nI cn), .ref (ad 9), .ref (ad 10), .int (nI sn), .int at0, .int fl, .int (nI tn), .ref (ad 11), .ref (ad 12)])), (ad 1, .inl (G.2.1 2, 16, .inr (.inl px))), (ad 2, .inl (G.2.1 2, 16, .inr (.inl py))), (ad 3, .inl (G.2.1 2, 16, .inr (.inl pz))), (ad 4, .inl (G.2.1 2, 16, .inr (.inl gr))), (ad 5, .inl (G.2.1 2, 16, .inr (.inl ou))), (ad 6, .inl (G.2.1 2, 12, .inr (.inl fx))), (ad 7, .inl (G.2.1 2, 12, .inr (.inl fy))), (ad 8, .inl (G.2.1 1, 8, .inl od)), (ad 9, .inl (G.2.1 1, 12, .inl cr)), (ad 10, .inl (G.2.1 1, 200, .inl ty)), (ad 11, .inl (G.2.1 1, 48, .inl to_)), (ad 12, .inl (G.2.1 1, 48, .inl dr))])) args s (({ frames := 1, cells := 0, slots := 0, locals := 34 } : Room)).cells (({ frames := 1, cells := 0, slots := 0, locals := 34 } : Room)).slots A) (F0 m 51 ls []) := by
      intro fu
      induction fu with
      | zero => intro i hfu hi H locs hW ls hl; exact absurd hfu (Nat.not_lt_zero _)
      | succ fu ih =>
        intro i hfu hi H locs hW ls hl
        rcases Nat.lt_or_ge i pn with hik | hik
        · refine lv_iload gX gB dX6_momentOf_51 (lv_at hl 0 rfl) ?_
          refine lv_aload_n gX gB dX6_momentOf_53 rfl (lv_at hl 5 rfl) ?_
          refine gx_get C hW fX6_65 ⟨0, rfl⟩ rfl dX6_momentOf_54 ?_
          refine lv_icmp_ge (tgt := 129) gX gB dX6_momentOf_57 (by decide) (fun h9 => absurd (show (nI pn) ≤ (nI i) from h9) (nI_ge hik (by omega))) (fun _ => ?_)
          refine lv_lload gX gB dX6_momentOf_60 (lv_at hl 1 rfl) ?_
          refine lv_aload_n gX gB dX6_momentOf_62 rfl (lv_at hl 5 rfl) ?_
          refine gx_get C hW fX6_19 ⟨0, rfl⟩ rfl dX6_momentOf_63 ?_
          refine lv_iload gX gB dX6_momentOf_66 (lv_at hl 0 rfl) ?_
          refine gx_lald C hW ⟨4, rfl⟩ (j := i) rfl (by omega) (by decide) dX6_momentOf_68 ?_
          refine lv_aload_n gX gB dX6_momentOf_69 rfl (lv_at hl 5 rfl) ?_
          refine lv_iload gX gB dX6_momentOf_70 (lv_at hl 2 rfl) ?_
          refine lv_iload gX gB dX6_momentOf_72 (lv_at hl 3 rfl) ?_
          refine lv_aload_n gX gB dX6_momentOf_74 rfl (lv_at hl 5 rfl) ?_
          refine gx_get C hW fX6_7 ⟨0, rfl⟩ rfl dX6_momentOf_75 ?_
          refine lv_iload gX gB dX6_momentOf_78 (lv_at hl 0 rfl) ?_
          refine gx_lald C hW ⟨1, rfl⟩ (j := i) rfl (by omega) (by decide) dX6_momentOf_80 ?_
          refine lv_aload_n gX gB dX6_momentOf_81 rfl (lv_at hl 5 rfl) ?_
          refine lv_iload gX gB dX6_momentOf_82 (lv_at hl 0 rfl) ?_
          refine lv_iload_n gX gB dX6_momentOf_84 rfl (lv_at hl 4 rfl) ?_
          refine gx_callVL (wr := []) (rest := [.long (px i), .int (nI (cf (nxt cn s0))), .int (nI (cf s0)), .ref (ad 0), .long (gr i), .long (mo_sum (w * wi_turn fx fy (cf s0) (cf (nxt cn s0)) x y) (fun k => gr k * wi_turn fx fy (cf s0) (cf (nxt cn s0)) (px k) (yy k)) i)]) C hW sX6_106 (kX6_isOut l G ad cd pn fn dn cn sn tn ex ey eg at0 fl px py pz gr ou fx fy od cr ty to_ dr i q hq) ⟨0, rfl⟩ rfl rfl ⟨(Nat.le_of_ble_eq_true rfl), (Nat.le_of_ble_eq_true rfl)⟩ hl.1 rfl (Nat.le_of_ble_eq_true rfl) dX6_momentOf_85 ⟨(Nat.le_of_ble_eq_true rfl), (Nat.le_of_ble_eq_true rfl)⟩ (fun v9 u9 H locs hp hW => ?_)
          obtain ⟨b9, hb9, rfl, hu⟩ := hp
          rw [hu] at hW
          have hW : gx_W G A s ([(ad 0, .inr (11, [.int cd, .int (nI pn), .ref (ad 1), .ref (ad 2), .ref (ad 3), .ref (ad 4), .ref (ad 5), .int (nI fn), .ref (ad 6), .ref (ad 7), .int (nI dn), .ref (ad 8), .long ex, .long ey, .long eg, .int (nI cn), .ref (ad 9), .ref (ad 10), .int (nI sn), .int at0, .int fl, .int (nI tn), .ref (ad 11), .ref (ad 12)])), (ad 1, .inl (G.2.1 2, 16, .inr (.inl px))), (ad 2, .inl (G.2.1 2, 16, .inr (.inl py))), (ad 3, .inl (G.2.1 2, 16, .inr (.inl pz))), (ad 4, .inl (G.2.1 2, 16, .inr (.inl gr))), (ad 5, .inl (G.2.1 2, 16, .inr (.inl ou))), (ad 6, .inl (G.2.1 2, 12, .inr (.inl fx))), (ad 7, .inl (G.2.1 2, 12, .inr (.inl fy))), (ad 8, .inl (G.2.1 1, 8, .inl od)), (ad 9, .inl (G.2.1 1, 12, .inl cr)), (ad 10, .inl (G.2.1 1, 200, .inl ty)), (ad 11, .inl (G.2.1 1, 48, .inl to_)), (ad 12, .inl (G.2.1 1, 48, .inl dr))]) H locs := hW
          refine W.eq (g2 := F0 m 88 ls [.int b9, .long (px i), .int (nI (cf (nxt cn s0))), .int (nI (cf s0)), .ref (ad 0), .long (gr i), .long (mo_sum (w * wi_turn fx fy (cf s0) (cf (nxt cn s0)) x y) (fun k => gr k * wi_turn fx fy (cf s0) (cf (nxt cn s0)) (px k) (yy k)) i)]) rfl ?_
          refine W.widen (k := 0) (n := 0) (Nat.le_of_ble_eq_true rfl) (Nat.le_of_ble_eq_true rfl) ?_
          rcases hb9 with ⟨hb1, hio⟩ | ⟨hb1, hio⟩
          · refine lv_if_eq (tgt := 109) gX gB dX6_momentOf_88 (by decide) (fun h9 => absurd (show b9 = (0 : Int32) from h9) (by rw [hb1]; decide)) (fun _ => ?_)
            refine lv_aload_n gX gB dX6_momentOf_91 rfl (lv_at hl 5 rfl) ?_
            refine gx_get C hW fX6_13 ⟨0, rfl⟩ rfl dX6_momentOf_92 ?_
            refine lv_iload gX gB dX6_momentOf_95 (lv_at hl 0 rfl) ?_
            refine gx_lald C hW ⟨2, rfl⟩ (j := i) rfl (by omega) (by decide) dX6_momentOf_97 ?_
            refine lv_aload_n gX gB dX6_momentOf_98 rfl (lv_at hl 5 rfl) ?_
            refine gx_get C hW fX6_22 ⟨0, rfl⟩ rfl dX6_momentOf_99 ?_
            refine lv_iload gX gB dX6_momentOf_102 (lv_at hl 0 rfl) ?_
            refine gx_lald C hW ⟨5, rfl⟩ (j := i) rfl (by omega) (by decide) dX6_momentOf_104 ?_
            refine lv_ladd gX gB dX6_momentOf_105 ?_
            refine gx_topl (show ((py i) + (ou i)) = yy i from ((hyy i hik).1 hio).symm) ?_
            refine lv_goto (tgt := 116) gX gB dX6_momentOf_106 (by decide) ?_
            refine gx_callV (wr := []) (rest := [.long (gr i), .long (mo_sum (w * wi_turn fx fy (cf s0) (cf (nxt cn s0)) x y) (fun k => gr k * wi_turn fx fy (cf s0) (cf (nxt cn s0)) (px k) (yy k)) i)]) C hW sX6_87 (kX6_turn l G ad cd pn fn dn cn sn tn ex ey eg at0 fl px py pz gr ou fx fy od cr ty to_ dr (cf s0) (cf (nxt cn s0)) (px i) (yy i) (hcf s0 hs0) (hcf _ (nxt_lt hs0))) ⟨0, rfl⟩ rfl rfl ⟨(Nat.le_of_ble_eq_true rfl), (Nat.le_of_ble_eq_true rfl)⟩ hl.1 rfl (Nat.le_of_ble_eq_true rfl) dX6_momentOf_116 ⟨(Nat.le_of_ble_eq_true rfl), (Nat.le_of_ble_eq_true rfl)⟩ (fun v9 u9 H locs hp hW => ?_)
            obtain ⟨rfl, hu⟩ := hp
            rw [hu] at hW
            have hW : gx_W G A s ([(ad 0, .inr (11, [.int cd, .int (nI pn), .ref (ad 1), .ref (ad 2), .ref (ad 3), .ref (ad 4), .ref (ad 5), .int (nI fn), .ref (ad 6), .ref (ad 7), .int (nI dn), .ref (ad 8), .long ex, .long ey, .long eg, .int (nI cn), .ref (ad 9), .ref (ad 10), .int (nI sn), .int at0, .int fl, .int (nI tn), .ref (ad 11), .ref (ad 12)])), (ad 1, .inl (G.2.1 2, 16, .inr (.inl px))), (ad 2, .inl (G.2.1 2, 16, .inr (.inl py))), (ad 3, .inl (G.2.1 2, 16, .inr (.inl pz))), (ad 4, .inl (G.2.1 2, 16, .inr (.inl gr))), (ad 5, .inl (G.2.1 2, 16, .inr (.inl ou))), (ad 6, .inl (G.2.1 2, 12, .inr (.inl fx))), (ad 7, .inl (G.2.1 2, 12, .inr (.inl fy))), (ad 8, .inl (G.2.1 1, 8, .inl od)), (ad 9, .inl (G.2.1 1, 12, .inl cr)), (ad 10, .inl (G.2.1 1, 200, .inl ty)), (ad 11, .inl (G.2.1 1, 48, .inl to_)), (ad 12, .inl (G.2.1 1, 48, .inl dr))]) H locs := hW
            refine W.eq (g2 := F0 m 119 ls [.long (wi_turn fx fy (cf s0) (cf (nxt cn s0)) (px i) (yy i)), .long (gr i), .long (mo_sum (w * wi_turn fx fy (cf s0) (cf (nxt cn s0)) x y) (fun k => gr k * wi_turn fx fy (cf s0) (cf (nxt cn s0)) (px k) (yy k)) i)]) rfl ?_
            refine W.widen (k := 0) (n := 0) (Nat.le_of_ble_eq_true rfl) (Nat.le_of_ble_eq_true rfl) ?_
            refine lv_lmul gX gB dX6_momentOf_119 ?_
            refine lv_ladd gX gB dX6_momentOf_120 ?_
            refine gx_topl (show ((mo_sum (w * wi_turn fx fy (cf s0) (cf (nxt cn s0)) x y) (fun k => gr k * wi_turn fx fy (cf s0) (cf (nxt cn s0)) (px k) (yy k)) i) + ((gr i) * (wi_turn fx fy (cf s0) (cf (nxt cn s0)) (px i) (yy i)))) = mo_sum (w * wi_turn fx fy (cf s0) (cf (nxt cn s0)) x y) (fun k => gr k * wi_turn fx fy (cf s0) (cf (nxt cn s0)) (px k) (yy k)) (i + 1) from rfl) ?_
            refine lv_lstore (lv' := [(11, .long (mo_sum (w * wi_turn fx fy (cf s0) (cf (nxt cn s0)) x y) (fun k => gr k * wi_turn fx fy (cf s0) (cf (nxt cn s0)) (px k) (yy k)) (i + 1))), (13, .int (nI i)), (9, .int (nI (cf s0))), (10, .int (nI (cf (nxt cn s0)))), (2, .int (nI q)), (0, .ref (ad 0))]) gX gB dX6_momentOf_121 hl (by decide) rfl (fun ls hl => ?_)
            refine lv_iinc (v := nI (i + 1)) (lv' := [(13, .int (nI (i + 1))), (11, .long (mo_sum (w * wi_turn fx fy (cf s0) (cf (nxt cn s0)) x y) (fun k => gr k * wi_turn fx fy (cf s0) (cf (nxt cn s0)) (px k) (yy k)) (i + 1))), (9, .int (nI (cf s0))), (10, .int (nI (cf (nxt cn s0)))), (2, .int (nI q)), (0, .ref (ad 0))]) gX gB dX6_momentOf_123 hl (k := 1) rfl (by exact nI_1 i) (by decide) rfl (fun ls hl => ?_)
            refine lv_goto (tgt := 51) gX gB dX6_momentOf_126 (by decide) ?_
            exact ih (i + 1) (by omega) (by omega) _ _ hW ls (lv_sub hl [0, 1, 2, 3, 4, 5] rfl)
          · refine lv_if_eq (tgt := 109) gX gB dX6_momentOf_88 (by decide) (fun _ => ?_) (fun h9 => absurd (show b9 = (0 : Int32) from hb1) h9)
            refine lv_aload_n gX gB dX6_momentOf_109 rfl (lv_at hl 5 rfl) ?_
            refine gx_get C hW fX6_13 ⟨0, rfl⟩ rfl dX6_momentOf_110 ?_
            refine lv_iload gX gB dX6_momentOf_113 (lv_at hl 0 rfl) ?_
            refine gx_lald C hW ⟨2, rfl⟩ (j := i) rfl (by omega) (by decide) dX6_momentOf_115 ?_
            refine gx_topl (show (py i) = yy i from ((hyy i hik).2 hio).symm) ?_
            refine gx_callV (wr := []) (rest := [.long (gr i), .long (mo_sum (w * wi_turn fx fy (cf s0) (cf (nxt cn s0)) x y) (fun k => gr k * wi_turn fx fy (cf s0) (cf (nxt cn s0)) (px k) (yy k)) i)]) C hW sX6_87 (kX6_turn l G ad cd pn fn dn cn sn tn ex ey eg at0 fl px py pz gr ou fx fy od cr ty to_ dr (cf s0) (cf (nxt cn s0)) (px i) (yy i) (hcf s0 hs0) (hcf _ (nxt_lt hs0))) ⟨0, rfl⟩ rfl rfl ⟨(Nat.le_of_ble_eq_true rfl), (Nat.le_of_ble_eq_true rfl)⟩ hl.1 rfl (Nat.le_of_ble_eq_true rfl) dX6_momentOf_116 ⟨(Nat.le_of_ble_eq_true rfl), (Nat.le_of_ble_eq_true rfl)⟩ (fun v9 u9 H locs hp hW => ?_)
            obtain ⟨rfl, hu⟩ := hp
            rw [hu] at hW
            have hW : gx_W G A s ([(ad 0, .inr (11, [.int cd, .int (nI pn), .ref (ad 1), .ref (ad 2), .ref (ad 3), .ref (ad 4), .ref (ad 5), .int (nI fn), .ref (ad 6), .ref (ad 7), .int (nI dn), .ref (ad 8), .long ex, .long ey, .long eg, .int (nI cn), .ref (ad 9), .ref (ad 10), .int (nI sn), .int at0, .int fl, .int (nI tn), .ref (ad 11), .ref (ad 12)])), (ad 1, .inl (G.2.1 2, 16, .inr (.inl px))), (ad 2, .inl (G.2.1 2, 16, .inr (.inl py))), (ad 3, .inl (G.2.1 2, 16, .inr (.inl pz))), (ad 4, .inl (G.2.1 2, 16, .inr (.inl gr))), (ad 5, .inl (G.2.1 2, 16, .inr (.inl ou))), (ad 6, .inl (G.2.1 2, 12, .inr (.inl fx))), (ad 7, .inl (G.2.1 2, 12, .inr (.inl fy))), (ad 8, .inl (G.2.1 1, 8, .inl od)), (ad 9, .inl (G.2.1 1, 12, .inl cr)), (ad 10, .inl (G.2.1 1, 200, .inl ty)), (ad 11, .inl (G.2.1 1, 48, .inl to_)), (ad 12, .inl (G.2.1 1, 48, .inl dr))]) H locs := hW
            refine W.eq (g2 := F0 m 119 ls [.long (wi_turn fx fy (cf s0) (cf (nxt cn s0)) (px i) (yy i)), .long (gr i), .long (mo_sum (w * wi_turn fx fy (cf s0) (cf (nxt cn s0)) x y) (fun k => gr k * wi_turn fx fy (cf s0) (cf (nxt cn s0)) (px k) (yy k)) i)]) rfl ?_
            refine W.widen (k := 0) (n := 0) (Nat.le_of_ble_eq_true rfl) (Nat.le_of_ble_eq_true rfl) ?_
            refine lv_lmul gX gB dX6_momentOf_119 ?_
            refine lv_ladd gX gB dX6_momentOf_120 ?_
            refine gx_topl (show ((mo_sum (w * wi_turn fx fy (cf s0) (cf (nxt cn s0)) x y) (fun k => gr k * wi_turn fx fy (cf s0) (cf (nxt cn s0)) (px k) (yy k)) i) + ((gr i) * (wi_turn fx fy (cf s0) (cf (nxt cn s0)) (px i) (yy i)))) = mo_sum (w * wi_turn fx fy (cf s0) (cf (nxt cn s0)) x y) (fun k => gr k * wi_turn fx fy (cf s0) (cf (nxt cn s0)) (px k) (yy k)) (i + 1) from rfl) ?_
            refine lv_lstore (lv' := [(11, .long (mo_sum (w * wi_turn fx fy (cf s0) (cf (nxt cn s0)) x y) (fun k => gr k * wi_turn fx fy (cf s0) (cf (nxt cn s0)) (px k) (yy k)) (i + 1))), (13, .int (nI i)), (9, .int (nI (cf s0))), (10, .int (nI (cf (nxt cn s0)))), (2, .int (nI q)), (0, .ref (ad 0))]) gX gB dX6_momentOf_121 hl (by decide) rfl (fun ls hl => ?_)
            refine lv_iinc (v := nI (i + 1)) (lv' := [(13, .int (nI (i + 1))), (11, .long (mo_sum (w * wi_turn fx fy (cf s0) (cf (nxt cn s0)) x y) (fun k => gr k * wi_turn fx fy (cf s0) (cf (nxt cn s0)) (px k) (yy k)) (i + 1))), (9, .int (nI (cf s0))), (10, .int (nI (cf (nxt cn s0)))), (2, .int (nI q)), (0, .ref (ad 0))]) gX gB dX6_momentOf_123 hl (k := 1) rfl (by exact nI_1 i) (by decide) rfl (fun ls hl => ?_)
            refine lv_goto (tgt := 51) gX gB dX6_momentOf_126 (by decide) ?_
            exact ih (i + 1) (by omega) (by omega) _ _ hW ls (lv_sub hl [0, 1, 2, 3, 4, 5] rfl)
        · refine lv_iload gX gB dX6_momentOf_51 (lv_at hl 0 rfl) ?_
          refine lv_aload_n gX gB dX6_momentOf_53 rfl (lv_at hl 5 rfl) ?_
          refine gx_get C hW fX6_65 ⟨0, rfl⟩ rfl dX6_momentOf_54 ?_
          refine lv_icmp_ge (tgt := 129) gX gB dX6_momentOf_57 (by decide) (fun _ => ?_) (fun h9 => absurd (show (nI pn) ≤ (nI i) from nI_le hik (by omega)) h9)
          refine lv_lload gX gB dX6_momentOf_129 (lv_at hl 1 rfl) ?_
          exact gx_lret C hr hW (⟨by rw [show i = pn by omega]; rfl, rfl⟩) (Nat.le_of_ble_eq_true rfl) (Nat.le_of_ble_eq_true rfl) dX6_momentOf_131
    exact loop (pn + 1) 0 (by omega) (Nat.zero_le _) _ _ hW ls (lv_sub hl [0, 1, 3, 2, 6, 4] rfl)
  · refine lv_icmp_ne (tgt := 26) gX gB dX6_momentOf_19 (by decide) (fun _ => ?_) (fun h9 => absurd h9 (show ¬ (nI (s0 + 1)) = (nI cn) from fun zz => hs1 ((nI_eq (by omega) (by omega)).mp zz)))
    refine lv_iload_n gX gB dX6_momentOf_26 rfl (lv_at hl 2 rfl) ?_
    refine lv_iconst (v := 1) gX gB dX6_momentOf_27 (by decide) ?_
    refine lv_iadd gX gB dX6_momentOf_28 ?_
    refine gx_topi (show ((nI s0) + 1) = nI (s0 + 1) from nI_1 s0) ?_
    refine gx_iald C hW ⟨9, rfl⟩ (j := (s0 + 1)) rfl (by omega) (by decide) dX6_momentOf_29 ?_
    refine gx_topi (show (cr (s0 + 1)) = nI (cf (nxt cn s0)) from (hcr (s0 + 1) (by omega)).trans (congrArg (fun z => nI (cf z)) (show s0 + 1 = nxt cn s0 from (if_neg hs1).symm))) ?_
    refine lv_istore (lv' := [(10, .int (nI (cf (nxt cn s0)))), (9, .int (nI (cf s0))), (0, .ref (ad 0)), (1, .int (nI s0)), (2, .int (nI q)), (3, .long x), (5, .long y), (7, .long w)]) gX gB dX6_momentOf_30 hl (by decide) rfl (fun ls hl => ?_)
    refine lv_lload gX gB dX6_momentOf_32 (lv_at hl 7 rfl) ?_
    refine lv_aload_n gX gB dX6_momentOf_34 rfl (lv_at hl 2 rfl) ?_
    refine lv_iload gX gB dX6_momentOf_35 (lv_at hl 1 rfl) ?_
    refine lv_iload gX gB dX6_momentOf_37 (lv_at hl 0 rfl) ?_
    refine lv_lload_n gX gB dX6_momentOf_39 rfl (lv_at hl 5 rfl) ?_
    refine lv_lload gX gB dX6_momentOf_40 (lv_at hl 6 rfl) ?_
    refine gx_callV (wr := []) (rest := [.long w]) C hW sX6_87 (kX6_turn l G ad cd pn fn dn cn sn tn ex ey eg at0 fl px py pz gr ou fx fy od cr ty to_ dr (cf s0) (cf (nxt cn s0)) x y (hcf s0 hs0) (hcf _ (nxt_lt hs0))) ⟨0, rfl⟩ rfl rfl ⟨(Nat.le_of_ble_eq_true rfl), (Nat.le_of_ble_eq_true rfl)⟩ hl.1 rfl (Nat.le_of_ble_eq_true rfl) dX6_momentOf_42 ⟨(Nat.le_of_ble_eq_true rfl), (Nat.le_of_ble_eq_true rfl)⟩ (fun v9 u9 H locs hp hW => ?_)
    obtain ⟨rfl, hu⟩ := hp
    rw [hu] at hW
    have hW : gx_W G A s ([(ad 0, .inr (11, [.int cd, .int (nI pn), .ref (ad 1), .ref (ad 2), .ref (ad 3), .ref (ad 4), .ref (ad 5), .int (nI fn), .ref (ad 6), .ref (ad 7), .int (nI dn), .ref (ad 8), .long ex, .long ey, .long eg, .int (nI cn), .ref (ad 9), .ref (ad 10), .int (nI sn), .int at0, .int fl, .int (nI tn), .ref (ad 11), .ref (ad 12)])), (ad 1, .inl (G.2.1 2, 16, .inr (.inl px))), (ad 2, .inl (G.2.1 2, 16, .inr (.inl py))), (ad 3, .inl (G.2.1 2, 16, .inr (.inl pz))), (ad 4, .inl (G.2.1 2, 16, .inr (.inl gr))), (ad 5, .inl (G.2.1 2, 16, .inr (.inl ou))), (ad 6, .inl (G.2.1 2, 12, .inr (.inl fx))), (ad 7, .inl (G.2.1 2, 12, .inr (.inl fy))), (ad 8, .inl (G.2.1 1, 8, .inl od)), (ad 9, .inl (G.2.1 1, 12, .inl cr)), (ad 10, .inl (G.2.1 1, 200, .inl ty)), (ad 11, .inl (G.2.1 1, 48, .inl to_)), (ad 12, .inl (G.2.1 1, 48, .inl dr))]) H locs := hW
    refine W.eq (g2 := F0 m 45 ls [.long (wi_turn fx fy (cf s0) (cf (nxt cn s0)) x y), .long w]) rfl ?_
    refine W.widen (k := 0) (n := 0) (Nat.le_of_ble_eq_true rfl) (Nat.le_of_ble_eq_true rfl) ?_
    refine lv_lmul gX gB dX6_momentOf_45 ?_
    refine lv_lstore (lv' := [(11, .long (w * (wi_turn fx fy (cf s0) (cf (nxt cn s0)) x y))), (10, .int (nI (cf (nxt cn s0)))), (9, .int (nI (cf s0))), (0, .ref (ad 0)), (1, .int (nI s0)), (2, .int (nI q)), (3, .long x), (5, .long y), (7, .long w)]) gX gB dX6_momentOf_46 hl (by decide) rfl (fun ls hl => ?_)
    refine lv_iconst (v := 0) gX gB dX6_momentOf_48 (by decide) ?_
    refine lv_istore (lv' := [(13, .int 0), (11, .long (w * (wi_turn fx fy (cf s0) (cf (nxt cn s0)) x y))), (10, .int (nI (cf (nxt cn s0)))), (9, .int (nI (cf s0))), (0, .ref (ad 0)), (1, .int (nI s0)), (2, .int (nI q)), (3, .long x), (5, .long y), (7, .long w)]) gX gB dX6_momentOf_49 hl (by decide) rfl (fun ls hl => ?_)
    have hl : lv_has ls 14 [(13, .int (nI 0)), (11, .long (mo_sum (w * wi_turn fx fy (cf s0) (cf (nxt cn s0)) x y) (fun k => gr k * wi_turn fx fy (cf s0) (cf (nxt cn s0)) (px k) (yy k)) 0)), (10, .int (nI (cf (nxt cn s0)))), (9, .int (nI (cf s0))), (0, .ref (ad 0)), (1, .int (nI s0)), (2, .int (nI q)), (3, .long x), (5, .long y), (7, .long w)] := hl
    have loop : ∀ (fu : Nat) (i : Nat), (pn - i < fu) → (i ≤ pn) → ∀ (H : Heap) (locs : List Loc), gx_W G A s ([(ad 0, .inr (11, [.int cd, .int (nI pn), .ref (ad 1), .ref (ad 2), .ref (ad 3), .ref (ad 4), .ref (ad 5), .int (nI fn), .ref (ad 6), .ref (ad 7), .int (nI dn), .ref (ad 8), .long ex, .long ey, .long eg, .int (nI cn), .ref (ad 9), .ref (ad 10), .int (nI sn), .int at0, .int fl, .int (nI tn), .ref (ad 11), .ref (ad 12)])), (ad 1, .inl (G.2.1 2, 16, .inr (.inl px))), (ad 2, .inl (G.2.1 2, 16, .inr (.inl py))), (ad 3, .inl (G.2.1 2, 16, .inr (.inl pz))), (ad 4, .inl (G.2.1 2, 16, .inr (.inl gr))), (ad 5, .inl (G.2.1 2, 16, .inr (.inl ou))), (ad 6, .inl (G.2.1 2, 12, .inr (.inl fx))), (ad 7, .inl (G.2.1 2, 12, .inr (.inl fy))), (ad 8, .inl (G.2.1 1, 8, .inl od)), (ad 9, .inl (G.2.1 1, 12, .inl cr)), (ad 10, .inl (G.2.1 1, 200, .inl ty)), (ad 11, .inl (G.2.1 1, 48, .inl to_)), (ad 12, .inl (G.2.1 1, 48, .inl dr))]) H locs → ∀ ls : Array Slot, lv_has ls 14 [(13, .int (nI i)), (11, .long (mo_sum (w * wi_turn fx fy (cf s0) (cf (nxt cn s0)) x y) (fun k => gr k * wi_turn fx fy (cf s0) (cf (nxt cn s0)) (px k) (yy k)) i)), (9, .int (nI (cf s0))), (10, .int (nI (cf (nxt cn s0)))), (2, .int (nI q)), (0, .ref (ad 0))] → W p l e ({ frames := 1, cells := 0, slots := 0, locals := 34 } : Room) s m args below meth c H locs 0 0 (MQ below (gx_Q G A (fun v u => v = some (.long (rf_mom fx fy px gr yy cf cn pn x y w s0)) ∧ u = [(ad 0, .inr (11, [.int cd, .int (nI pn), .ref (ad 1), .ref (ad 2), .ref (ad 3), .ref (ad 4), .ref (ad 5), .int (nI fn), .ref (ad 6), .ref (ad 7), .int (nI dn), .ref (ad 8), .long ex, .long ey, .long eg, .int (nI cn), .ref (ad 9), .ref (ad 10), .int (nI sn), .int at0, .int fl, .int (nI tn), .ref (ad 11), .ref (ad 12)])), (ad 1, .inl (G.2.1 2, 16, .inr (.inl px))), (ad 2, .inl (G.2.1 2, 16, .inr (.inl py))), (ad 3, .inl (G.2.1 2, 16, .inr (.inl pz))), (ad 4, .inl (G.2.1 2, 16, .inr (.inl gr))), (ad 5, .inl (G.2.1 2, 16, .inr (.inl ou))), (ad 6, .inl (G.2.1 2, 12, .inr (.inl fx))), (ad 7, .inl (G.2.1 2, 12, .inr (.inl fy))), (ad 8, .inl (G.2.1 1, 8, .inl od)), (ad 9, .inl (G.2.1 1, 12, .inl cr)), (ad 10, .inl (G.2.1 1, 200, .inl ty)), (ad 11, .inl (G.2.1 1, 48, .inl to_)), (ad 12, .inl (G.2.1 1, 48, .inl dr))])) args s (({ frames := 1, cells := 0, slots := 0, locals := 34 } : Room)).cells (({ frames := 1, cells := 0, slots := 0, locals := 34 } : Room)).slots A) (F0 m 51 ls []) := by
      intro fu
      induction fu with
      | zero => intro i hfu hi H locs hW ls hl; exact absurd hfu (Nat.not_lt_zero _)
      | succ fu ih =>
        intro i hfu hi H locs hW ls hl
        rcases Nat.lt_or_ge i pn with hik | hik
        · refine lv_iload gX gB dX6_momentOf_51 (lv_at hl 0 rfl) ?_
          refine lv_aload_n gX gB dX6_momentOf_53 rfl (lv_at hl 5 rfl) ?_
          refine gx_get C hW fX6_65 ⟨0, rfl⟩ rfl dX6_momentOf_54 ?_
          refine lv_icmp_ge (tgt := 129) gX gB dX6_momentOf_57 (by decide) (fun h9 => absurd (show (nI pn) ≤ (nI i) from h9) (nI_ge hik (by omega))) (fun _ => ?_)
          refine lv_lload gX gB dX6_momentOf_60 (lv_at hl 1 rfl) ?_
          refine lv_aload_n gX gB dX6_momentOf_62 rfl (lv_at hl 5 rfl) ?_
          refine gx_get C hW fX6_19 ⟨0, rfl⟩ rfl dX6_momentOf_63 ?_
          refine lv_iload gX gB dX6_momentOf_66 (lv_at hl 0 rfl) ?_
          refine gx_lald C hW ⟨4, rfl⟩ (j := i) rfl (by omega) (by decide) dX6_momentOf_68 ?_
          refine lv_aload_n gX gB dX6_momentOf_69 rfl (lv_at hl 5 rfl) ?_
          refine lv_iload gX gB dX6_momentOf_70 (lv_at hl 2 rfl) ?_
          refine lv_iload gX gB dX6_momentOf_72 (lv_at hl 3 rfl) ?_
          refine lv_aload_n gX gB dX6_momentOf_74 rfl (lv_at hl 5 rfl) ?_
          refine gx_get C hW fX6_7 ⟨0, rfl⟩ rfl dX6_momentOf_75 ?_
          refine lv_iload gX gB dX6_momentOf_78 (lv_at hl 0 rfl) ?_
          refine gx_lald C hW ⟨1, rfl⟩ (j := i) rfl (by omega) (by decide) dX6_momentOf_80 ?_
          refine lv_aload_n gX gB dX6_momentOf_81 rfl (lv_at hl 5 rfl) ?_
          refine lv_iload gX gB dX6_momentOf_82 (lv_at hl 0 rfl) ?_
          refine lv_iload_n gX gB dX6_momentOf_84 rfl (lv_at hl 4 rfl) ?_
          refine gx_callVL (wr := []) (rest := [.long (px i), .int (nI (cf (nxt cn s0))), .int (nI (cf s0)), .ref (ad 0), .long (gr i), .long (mo_sum (w * wi_turn fx fy (cf s0) (cf (nxt cn s0)) x y) (fun k => gr k * wi_turn fx fy (cf s0) (cf (nxt cn s0)) (px k) (yy k)) i)]) C hW sX6_106 (kX6_isOut l G ad cd pn fn dn cn sn tn ex ey eg at0 fl px py pz gr ou fx fy od cr ty to_ dr i q hq) ⟨0, rfl⟩ rfl rfl ⟨(Nat.le_of_ble_eq_true rfl), (Nat.le_of_ble_eq_true rfl)⟩ hl.1 rfl (Nat.le_of_ble_eq_true rfl) dX6_momentOf_85 ⟨(Nat.le_of_ble_eq_true rfl), (Nat.le_of_ble_eq_true rfl)⟩ (fun v9 u9 H locs hp hW => ?_)
          obtain ⟨b9, hb9, rfl, hu⟩ := hp
          rw [hu] at hW
          have hW : gx_W G A s ([(ad 0, .inr (11, [.int cd, .int (nI pn), .ref (ad 1), .ref (ad 2), .ref (ad 3), .ref (ad 4), .ref (ad 5), .int (nI fn), .ref (ad 6), .ref (ad 7), .int (nI dn), .ref (ad 8), .long ex, .long ey, .long eg, .int (nI cn), .ref (ad 9), .ref (ad 10), .int (nI sn), .int at0, .int fl, .int (nI tn), .ref (ad 11), .ref (ad 12)])), (ad 1, .inl (G.2.1 2, 16, .inr (.inl px))), (ad 2, .inl (G.2.1 2, 16, .inr (.inl py))), (ad 3, .inl (G.2.1 2, 16, .inr (.inl pz))), (ad 4, .inl (G.2.1 2, 16, .inr (.inl gr))), (ad 5, .inl (G.2.1 2, 16, .inr (.inl ou))), (ad 6, .inl (G.2.1 2, 12, .inr (.inl fx))), (ad 7, .inl (G.2.1 2, 12, .inr (.inl fy))), (ad 8, .inl (G.2.1 1, 8, .inl od)), (ad 9, .inl (G.2.1 1, 12, .inl cr)), (ad 10, .inl (G.2.1 1, 200, .inl ty)), (ad 11, .inl (G.2.1 1, 48, .inl to_)), (ad 12, .inl (G.2.1 1, 48, .inl dr))]) H locs := hW
          refine W.eq (g2 := F0 m 88 ls [.int b9, .long (px i), .int (nI (cf (nxt cn s0))), .int (nI (cf s0)), .ref (ad 0), .long (gr i), .long (mo_sum (w * wi_turn fx fy (cf s0) (cf (nxt cn s0)) x y) (fun k => gr k * wi_turn fx fy (cf s0) (cf (nxt cn s0)) (px k) (yy k)) i)]) rfl ?_
          refine W.widen (k := 0) (n := 0) (Nat.le_of_ble_eq_true rfl) (Nat.le_of_ble_eq_true rfl) ?_
          rcases hb9 with ⟨hb1, hio⟩ | ⟨hb1, hio⟩
          · refine lv_if_eq (tgt := 109) gX gB dX6_momentOf_88 (by decide) (fun h9 => absurd (show b9 = (0 : Int32) from h9) (by rw [hb1]; decide)) (fun _ => ?_)
            refine lv_aload_n gX gB dX6_momentOf_91 rfl (lv_at hl 5 rfl) ?_
            refine gx_get C hW fX6_13 ⟨0, rfl⟩ rfl dX6_momentOf_92 ?_
            refine lv_iload gX gB dX6_momentOf_95 (lv_at hl 0 rfl) ?_
            refine gx_lald C hW ⟨2, rfl⟩ (j := i) rfl (by omega) (by decide) dX6_momentOf_97 ?_
            refine lv_aload_n gX gB dX6_momentOf_98 rfl (lv_at hl 5 rfl) ?_
            refine gx_get C hW fX6_22 ⟨0, rfl⟩ rfl dX6_momentOf_99 ?_
            refine lv_iload gX gB dX6_momentOf_102 (lv_at hl 0 rfl) ?_
            refine gx_lald C hW ⟨5, rfl⟩ (j := i) rfl (by omega) (by decide) dX6_momentOf_104 ?_
            refine lv_ladd gX gB dX6_momentOf_105 ?_
            refine gx_topl (show ((py i) + (ou i)) = yy i from ((hyy i hik).1 hio).symm) ?_
            refine lv_goto (tgt := 116) gX gB dX6_momentOf_106 (by decide) ?_
            refine gx_callV (wr := []) (rest := [.long (gr i), .long (mo_sum (w * wi_turn fx fy (cf s0) (cf (nxt cn s0)) x y) (fun k => gr k * wi_turn fx fy (cf s0) (cf (nxt cn s0)) (px k) (yy k)) i)]) C hW sX6_87 (kX6_turn l G ad cd pn fn dn cn sn tn ex ey eg at0 fl px py pz gr ou fx fy od cr ty to_ dr (cf s0) (cf (nxt cn s0)) (px i) (yy i) (hcf s0 hs0) (hcf _ (nxt_lt hs0))) ⟨0, rfl⟩ rfl rfl ⟨(Nat.le_of_ble_eq_true rfl), (Nat.le_of_ble_eq_true rfl)⟩ hl.1 rfl (Nat.le_of_ble_eq_true rfl) dX6_momentOf_116 ⟨(Nat.le_of_ble_eq_true rfl), (Nat.le_of_ble_eq_true rfl)⟩ (fun v9 u9 H locs hp hW => ?_)
            obtain ⟨rfl, hu⟩ := hp
            rw [hu] at hW
            have hW : gx_W G A s ([(ad 0, .inr (11, [.int cd, .int (nI pn), .ref (ad 1), .ref (ad 2), .ref (ad 3), .ref (ad 4), .ref (ad 5), .int (nI fn), .ref (ad 6), .ref (ad 7), .int (nI dn), .ref (ad 8), .long ex, .long ey, .long eg, .int (nI cn), .ref (ad 9), .ref (ad 10), .int (nI sn), .int at0, .int fl, .int (nI tn), .ref (ad 11), .ref (ad 12)])), (ad 1, .inl (G.2.1 2, 16, .inr (.inl px))), (ad 2, .inl (G.2.1 2, 16, .inr (.inl py))), (ad 3, .inl (G.2.1 2, 16, .inr (.inl pz))), (ad 4, .inl (G.2.1 2, 16, .inr (.inl gr))), (ad 5, .inl (G.2.1 2, 16, .inr (.inl ou))), (ad 6, .inl (G.2.1 2, 12, .inr (.inl fx))), (ad 7, .inl (G.2.1 2, 12, .inr (.inl fy))), (ad 8, .inl (G.2.1 1, 8, .inl od)), (ad 9, .inl (G.2.1 1, 12, .inl cr)), (ad 10, .inl (G.2.1 1, 200, .inl ty)), (ad 11, .inl (G.2.1 1, 48, .inl to_)), (ad 12, .inl (G.2.1 1, 48, .inl dr))]) H locs := hW
            refine W.eq (g2 := F0 m 119 ls [.long (wi_turn fx fy (cf s0) (cf (nxt cn s0)) (px i) (yy i)), .long (gr i), .long (mo_sum (w * wi_turn fx fy (cf s0) (cf (nxt cn s0)) x y) (fun k => gr k * wi_turn fx fy (cf s0) (cf (nxt cn s0)) (px k) (yy k)) i)]) rfl ?_
            refine W.widen (k := 0) (n := 0) (Nat.le_of_ble_eq_true rfl) (Nat.le_of_ble_eq_true rfl) ?_
            refine lv_lmul gX gB dX6_momentOf_119 ?_
            refine lv_ladd gX gB dX6_momentOf_120 ?_
            refine gx_topl (show ((mo_sum (w * wi_turn fx fy (cf s0) (cf (nxt cn s0)) x y) (fun k => gr k * wi_turn fx fy (cf s0) (cf (nxt cn s0)) (px k) (yy k)) i) + ((gr i) * (wi_turn fx fy (cf s0) (cf (nxt cn s0)) (px i) (yy i)))) = mo_sum (w * wi_turn fx fy (cf s0) (cf (nxt cn s0)) x y) (fun k => gr k * wi_turn fx fy (cf s0) (cf (nxt cn s0)) (px k) (yy k)) (i + 1) from rfl) ?_
            refine lv_lstore (lv' := [(11, .long (mo_sum (w * wi_turn fx fy (cf s0) (cf (nxt cn s0)) x y) (fun k => gr k * wi_turn fx fy (cf s0) (cf (nxt cn s0)) (px k) (yy k)) (i + 1))), (13, .int (nI i)), (9, .int (nI (cf s0))), (10, .int (nI (cf (nxt cn s0)))), (2, .int (nI q)), (0, .ref (ad 0))]) gX gB dX6_momentOf_121 hl (by decide) rfl (fun ls hl => ?_)
            refine lv_iinc (v := nI (i + 1)) (lv' := [(13, .int (nI (i + 1))), (11, .long (mo_sum (w * wi_turn fx fy (cf s0) (cf (nxt cn s0)) x y) (fun k => gr k * wi_turn fx fy (cf s0) (cf (nxt cn s0)) (px k) (yy k)) (i + 1))), (9, .int (nI (cf s0))), (10, .int (nI (cf (nxt cn s0)))), (2, .int (nI q)), (0, .ref (ad 0))]) gX gB dX6_momentOf_123 hl (k := 1) rfl (by exact nI_1 i) (by decide) rfl (fun ls hl => ?_)
            refine lv_goto (tgt := 51) gX gB dX6_momentOf_126 (by decide) ?_
            exact ih (i + 1) (by omega) (by omega) _ _ hW ls (lv_sub hl [0, 1, 2, 3, 4, 5] rfl)
          · refine lv_if_eq (tgt := 109) gX gB dX6_momentOf_88 (by decide) (fun _ => ?_) (fun h9 => absurd (show b9 = (0 : Int32) from hb1) h9)
            refine lv_aload_n gX gB dX6_momentOf_109 rfl (lv_at hl 5 rfl) ?_
            refine gx_get C hW fX6_13 ⟨0, rfl⟩ rfl dX6_momentOf_110 ?_
            refine lv_iload gX gB dX6_momentOf_113 (lv_at hl 0 rfl) ?_
            refine gx_lald C hW ⟨2, rfl⟩ (j := i) rfl (by omega) (by decide) dX6_momentOf_115 ?_
            refine gx_topl (show (py i) = yy i from ((hyy i hik).2 hio).symm) ?_
            refine gx_callV (wr := []) (rest := [.long (gr i), .long (mo_sum (w * wi_turn fx fy (cf s0) (cf (nxt cn s0)) x y) (fun k => gr k * wi_turn fx fy (cf s0) (cf (nxt cn s0)) (px k) (yy k)) i)]) C hW sX6_87 (kX6_turn l G ad cd pn fn dn cn sn tn ex ey eg at0 fl px py pz gr ou fx fy od cr ty to_ dr (cf s0) (cf (nxt cn s0)) (px i) (yy i) (hcf s0 hs0) (hcf _ (nxt_lt hs0))) ⟨0, rfl⟩ rfl rfl ⟨(Nat.le_of_ble_eq_true rfl), (Nat.le_of_ble_eq_true rfl)⟩ hl.1 rfl (Nat.le_of_ble_eq_true rfl) dX6_momentOf_116 ⟨(Nat.le_of_ble_eq_true rfl), (Nat.le_of_ble_eq_true rfl)⟩ (fun v9 u9 H locs hp hW => ?_)
            obtain ⟨rfl, hu⟩ := hp
            rw [hu] at hW
            have hW : gx_W G A s ([(ad 0, .inr (11, [.int cd, .int (nI pn), .ref (ad 1), .ref (ad 2), .ref (ad 3), .ref (ad 4), .ref (ad 5), .int (nI fn), .ref (ad 6), .ref (ad 7), .int (nI dn), .ref (ad 8), .long ex, .long ey, .long eg, .int (nI cn), .ref (ad 9), .ref (ad 10), .int (nI sn), .int at0, .int fl, .int (nI tn), .ref (ad 11), .ref (ad 12)])), (ad 1, .inl (G.2.1 2, 16, .inr (.inl px))), (ad 2, .inl (G.2.1 2, 16, .inr (.inl py))), (ad 3, .inl (G.2.1 2, 16, .inr (.inl pz))), (ad 4, .inl (G.2.1 2, 16, .inr (.inl gr))), (ad 5, .inl (G.2.1 2, 16, .inr (.inl ou))), (ad 6, .inl (G.2.1 2, 12, .inr (.inl fx))), (ad 7, .inl (G.2.1 2, 12, .inr (.inl fy))), (ad 8, .inl (G.2.1 1, 8, .inl od)), (ad 9, .inl (G.2.1 1, 12, .inl cr)), (ad 10, .inl (G.2.1 1, 200, .inl ty)), (ad 11, .inl (G.2.1 1, 48, .inl to_)), (ad 12, .inl (G.2.1 1, 48, .inl dr))]) H locs := hW
            refine W.eq (g2 := F0 m 119 ls [.long (wi_turn fx fy (cf s0) (cf (nxt cn s0)) (px i) (yy i)), .long (gr i), .long (mo_sum (w * wi_turn fx fy (cf s0) (cf (nxt cn s0)) x y) (fun k => gr k * wi_turn fx fy (cf s0) (cf (nxt cn s0)) (px k) (yy k)) i)]) rfl ?_
            refine W.widen (k := 0) (n := 0) (Nat.le_of_ble_eq_true rfl) (Nat.le_of_ble_eq_true rfl) ?_
            refine lv_lmul gX gB dX6_momentOf_119 ?_
            refine lv_ladd gX gB dX6_momentOf_120 ?_
            refine gx_topl (show ((mo_sum (w * wi_turn fx fy (cf s0) (cf (nxt cn s0)) x y) (fun k => gr k * wi_turn fx fy (cf s0) (cf (nxt cn s0)) (px k) (yy k)) i) + ((gr i) * (wi_turn fx fy (cf s0) (cf (nxt cn s0)) (px i) (yy i)))) = mo_sum (w * wi_turn fx fy (cf s0) (cf (nxt cn s0)) x y) (fun k => gr k * wi_turn fx fy (cf s0) (cf (nxt cn s0)) (px k) (yy k)) (i + 1) from rfl) ?_
            refine lv_lstore (lv' := [(11, .long (mo_sum (w * wi_turn fx fy (cf s0) (cf (nxt cn s0)) x y) (fun k => gr k * wi_turn fx fy (cf s0) (cf (nxt cn s0)) (px k) (yy k)) (i + 1))), (13, .int (nI i)), (9, .int (nI (cf s0))), (10, .int (nI (cf (nxt cn s0)))), (2, .int (nI q)), (0, .ref (ad 0))]) gX gB dX6_momentOf_121 hl (by decide) rfl (fun ls hl => ?_)
            refine lv_iinc (v := nI (i + 1)) (lv' := [(13, .int (nI (i + 1))), (11, .long (mo_sum (w * wi_turn fx fy (cf s0) (cf (nxt cn s0)) x y) (fun k => gr k * wi_turn fx fy (cf s0) (cf (nxt cn s0)) (px k) (yy k)) (i + 1))), (9, .int (nI (cf s0))), (10, .int (nI (cf (nxt cn s0)))), (2, .int (nI q)), (0, .ref (ad 0))]) gX gB dX6_momentOf_123 hl (k := 1) rfl (by exact nI_1 i) (by decide) rfl (fun ls hl => ?_)
            refine lv_goto (tgt := 51) gX gB dX6_momentOf_126 (by decide) ?_
            exact ih (i + 1) (by omega) (by omega) _ _ hW ls (lv_sub hl [0, 1, 2, 3, 4, 5] rfl)
        · refine lv_iload gX gB dX6_momentOf_51 (lv_at hl 0 rfl) ?_
          refine lv_aload_n gX gB dX6_momentOf_53 rfl (lv_at hl 5 rfl) ?_
          refine gx_get C hW fX6_65 ⟨0, rfl⟩ rfl dX6_momentOf_54 ?_
          refine lv_icmp_ge (tgt := 129) gX gB dX6_momentOf_57 (by decide) (fun _ => ?_) (fun h9 => absurd (show (nI pn) ≤ (nI i) from nI_le hik (by omega)) h9)
          refine lv_lload gX gB dX6_momentOf_129 (lv_at hl 1 rfl) ?_
          exact gx_lret C hr hW (⟨by rw [show i = pn by omega]; rfl, rfl⟩) (Nat.le_of_ble_eq_true rfl) (Nat.le_of_ble_eq_true rfl) dX6_momentOf_131
    exact loop (pn + 1) 0 (by omega) (Nat.zero_le _) _ _ hW ls (lv_sub hl [0, 1, 3, 2, 6, 4] rfl)
set_option maxHeartbeats 4000000 in
set_option maxRecDepth 100000 in
theorem kX6_tipping (l : Launch) (G : gx_T) (ad : Nat → Nat) (cd : Int32) (pn fn dn cn sn tn : Nat) (ex ey eg : Int64) (at0 fl : Int32) (px py pz gr ou fx fy : Nat → Int64) (od cr ty to_ dr : Nat → Int32) (hpn : pn ≤ 16) (hcn : cn ≤ 12) (cf : Nat → Nat) (hcr : ∀ i, i < cn → cr i = nI (cf i)) (hcf : ∀ i, i < cn → cf i < 12) (q : Nat) (hq : q ≤ 8) (yy : Nat → Int64) (hyy : ∀ k, k < pn → yy_ok py ou od q k (yy k)) (x y w : Int64) : gx_M l G yX6_tipping cX6_tipping 10 (some .int) ({ frames := 2, cells := 0, slots := 0, locals := 67 } : Room) [.ref (ad 0), .int (nI q), .long x, .long y, .long w] ([(ad 0, .inr (11, [.int cd, .int (nI pn), .ref (ad 1), .ref (ad 2), .ref (ad 3), .ref (ad 4), .ref (ad 5), .int (nI fn), .ref (ad 6), .ref (ad 7), .int (nI dn), .ref (ad 8), .long ex, .long ey, .long eg, .int (nI cn), .ref (ad 9), .ref (ad 10), .int (nI sn), .int at0, .int fl, .int (nI tn), .ref (ad 11), .ref (ad 12)])), (ad 1, .inl (G.2.1 2, 16, .inr (.inl px))), (ad 2, .inl (G.2.1 2, 16, .inr (.inl py))), (ad 3, .inl (G.2.1 2, 16, .inr (.inl pz))), (ad 4, .inl (G.2.1 2, 16, .inr (.inl gr))), (ad 5, .inl (G.2.1 2, 16, .inr (.inl ou))), (ad 6, .inl (G.2.1 2, 12, .inr (.inl fx))), (ad 7, .inl (G.2.1 2, 12, .inr (.inl fy))), (ad 8, .inl (G.2.1 1, 8, .inl od)), (ad 9, .inl (G.2.1 1, 12, .inl cr)), (ad 10, .inl (G.2.1 1, 200, .inl ty)), (ad 11, .inl (G.2.1 1, 48, .inl to_)), (ad 12, .inl (G.2.1 1, 48, .inl dr))]) (fun v u => v = some (.int (nI (up_at (rf_mom fx fy px gr yy cf cn pn x y w) cn 0))) ∧ u = [(ad 0, .inr (11, [.int cd, .int (nI pn), .ref (ad 1), .ref (ad 2), .ref (ad 3), .ref (ad 4), .ref (ad 5), .int (nI fn), .ref (ad 6), .ref (ad 7), .int (nI dn), .ref (ad 8), .long ex, .long ey, .long eg, .int (nI cn), .ref (ad 9), .ref (ad 10), .int (nI sn), .int at0, .int fl, .int (nI tn), .ref (ad 11), .ref (ad 12)])), (ad 1, .inl (G.2.1 2, 16, .inr (.inl px))), (ad 2, .inl (G.2.1 2, 16, .inr (.inl py))), (ad 3, .inl (G.2.1 2, 16, .inr (.inl pz))), (ad 4, .inl (G.2.1 2, 16, .inr (.inl gr))), (ad 5, .inl (G.2.1 2, 16, .inr (.inl ou))), (ad 6, .inl (G.2.1 2, 12, .inr (.inl fx))), (ad 7, .inl (G.2.1 2, 12, .inr (.inl fy))), (ad 8, .inl (G.2.1 1, 8, .inl od)), (ad 9, .inl (G.2.1 1, 12, .inl cr)), (ad 10, .inl (G.2.1 1, 200, .inl ty)), (ad 11, .inl (G.2.1 1, 48, .inl to_)), (ad 12, .inl (G.2.1 1, 48, .inl dr))]) := by
  refine gx_start (by decide +kernel) (Nat.le_of_ble_eq_true rfl) ?_
  intro p e s m args below meth c A ls C hr hnm hW hl
  have gX := C.x
  have gB := C.b
  have hl : lv_has ls 10 [(0, .ref (ad 0)), (1, .int (nI q)), (2, .long x), (4, .long y), (6, .long w)] := hl
  refine lv_iconst (v := 0) gX gB dX6_tipping_0 (by decide) ?_
  refine lv_istore (lv' := [(8, .int 0), (0, .ref (ad 0)), (1, .int (nI q)), (2, .long x), (4, .long y), (6, .long w)]) gX gB dX6_tipping_1 hl (by decide) rfl (fun ls hl => ?_)
  refine lv_aload_n gX gB dX6_tipping_3 rfl (lv_at hl 1 rfl) ?_
  refine gx_get C hW fX6_95 ⟨0, rfl⟩ rfl dX6_tipping_4 ?_
  refine lv_iconst (v := 1) gX gB dX6_tipping_7 (by decide) ?_
  refine lv_isub gX gB dX6_tipping_8 ?_
  refine gx_topi (show ((nI cn) - 1) = nI cn - 1 from rfl) ?_
  refine lv_istore (lv' := [(9, .int (nI cn - 1)), (8, .int 0), (0, .ref (ad 0)), (1, .int (nI q)), (2, .long x), (4, .long y), (6, .long w)]) gX gB dX6_tipping_9 hl (by decide) rfl (fun ls hl => ?_)
  have e8 : nI (up_at (rf_mom fx fy px gr yy cf cn pn x y w) (cn - cn) cn) = 0 := by rw [Nat.sub_self]; rfl
  have hl : lv_has ls 10 [(9, .int (nI cn - 1)), (8, .int (nI (up_at (rf_mom fx fy px gr yy cf cn pn x y w) (cn - cn) cn))), (0, .ref (ad 0)), (1, .int (nI q)), (2, .long x), (4, .long y), (6, .long w)] := by rw [e8]; exact hl
  have loop : ∀ (fu : Nat) (i : Nat) (kk : Int32), (i < fu) → (i ≤ cn) → (kk = nI i - 1) → ∀ (H : Heap) (locs : List Loc), gx_W G A s ([(ad 0, .inr (11, [.int cd, .int (nI pn), .ref (ad 1), .ref (ad 2), .ref (ad 3), .ref (ad 4), .ref (ad 5), .int (nI fn), .ref (ad 6), .ref (ad 7), .int (nI dn), .ref (ad 8), .long ex, .long ey, .long eg, .int (nI cn), .ref (ad 9), .ref (ad 10), .int (nI sn), .int at0, .int fl, .int (nI tn), .ref (ad 11), .ref (ad 12)])), (ad 1, .inl (G.2.1 2, 16, .inr (.inl px))), (ad 2, .inl (G.2.1 2, 16, .inr (.inl py))), (ad 3, .inl (G.2.1 2, 16, .inr (.inl pz))), (ad 4, .inl (G.2.1 2, 16, .inr (.inl gr))), (ad 5, .inl (G.2.1 2, 16, .inr (.inl ou))), (ad 6, .inl (G.2.1 2, 12, .inr (.inl fx))), (ad 7, .inl (G.2.1 2, 12, .inr (.inl fy))), (ad 8, .inl (G.2.1 1, 8, .inl od)), (ad 9, .inl (G.2.1 1, 12, .inl cr)), (ad 10, .inl (G.2.1 1, 200, .inl ty)), (ad 11, .inl (G.2.1 1, 48, .inl to_)), (ad 12, .inl (G.2.1 1, 48, .inl dr))]) H locs → ∀ ls : Array Slot, lv_has ls 10 [(8, .int (nI (up_at (rf_mom fx fy px gr yy cf cn pn x y w) (cn - i) i))), (9, .int kk), (1, .int (nI q)), (2, .long x), (4, .long y), (6, .long w), (0, .ref (ad 0))] → W p l e ({ frames := 2, cells := 0, slots := 0, locals := 67 } : Room) s m args below meth c H locs 0 0 (MQ below (gx_Q G A (fun v u => v = some (.int (nI (up_at (rf_mom fx fy px gr yy cf cn pn x y w) cn 0))) ∧ u = [(ad 0, .inr (11, [.int cd, .int (nI pn), .ref (ad 1), .ref (ad 2), .ref (ad 3), .ref (ad 4), .ref (ad 5), .int (nI fn), .ref (ad 6), .ref (ad 7), .int (nI dn), .ref (ad 8), .long ex, .long ey, .long eg, .int (nI cn), .ref (ad 9), .ref (ad 10), .int (nI sn), .int at0, .int fl, .int (nI tn), .ref (ad 11), .ref (ad 12)])), (ad 1, .inl (G.2.1 2, 16, .inr (.inl px))), (ad 2, .inl (G.2.1 2, 16, .inr (.inl py))), (ad 3, .inl (G.2.1 2, 16, .inr (.inl pz))), (ad 4, .inl (G.2.1 2, 16, .inr (.inl gr))), (ad 5, .inl (G.2.1 2, 16, .inr (.inl ou))), (ad 6, .inl (G.2.1 2, 12, .inr (.inl fx))), (ad 7, .inl (G.2.1 2, 12, .inr (.inl fy))), (ad 8, .inl (G.2.1 1, 8, .inl od)), (ad 9, .inl (G.2.1 1, 12, .inl cr)), (ad 10, .inl (G.2.1 1, 200, .inl ty)), (ad 11, .inl (G.2.1 1, 48, .inl to_)), (ad 12, .inl (G.2.1 1, 48, .inl dr))])) args s (({ frames := 2, cells := 0, slots := 0, locals := 67 } : Room)).cells (({ frames := 2, cells := 0, slots := 0, locals := 67 } : Room)).slots A) (F0 m 11 ls []) := by
    intro fu
    induction fu with
    | zero => intro i kk hfu hi hk H locs hW ls hl; exact absurd hfu (Nat.not_lt_zero _)
    | succ fu ih =>
      intro i kk hfu hi hk H locs hW ls hl
      rcases Nat.eq_zero_or_pos i with hi0 | hi0
      · have hk2 : kk = -1 := by rw [hk, hi0]; decide
        refine lv_iload gX gB dX6_tipping_11 (lv_at hl 1 rfl) ?_
        refine lv_if_lt (tgt := 50) gX gB dX6_tipping_13 (by decide) (fun _ => ?_) (fun h9 => absurd (show kk < (0 : Int32) from by rw [hk2]; decide) h9)
        refine lv_iload gX gB dX6_tipping_50 (lv_at hl 0 rfl) ?_
        exact gx_iret C hr hW (⟨by rw [hi0, Nat.sub_zero], rfl⟩) (Nat.le_of_ble_eq_true rfl) (Nat.le_of_ble_eq_true rfl) dX6_tipping_52
      · obtain ⟨j, rfl⟩ : ∃ j, i = j + 1 := ⟨i - 1, by omega⟩
        have hk2 : kk = nI j := by rw [hk]; exact nI_pred _
        rw [hk2] at hl
        refine lv_iload gX gB dX6_tipping_11 (lv_at hl 1 rfl) ?_
        refine lv_if_lt (tgt := 50) gX gB dX6_tipping_13 (by decide) (fun h9 => absurd (show (nI j) < (0 : Int32) from h9) (nI_pos (by omega))) (fun _ => ?_)
        refine lv_aload_n gX gB dX6_tipping_16 rfl (lv_at hl 6 rfl) ?_
        refine lv_iload gX gB dX6_tipping_17 (lv_at hl 1 rfl) ?_
        refine lv_iload_n gX gB dX6_tipping_19 rfl (lv_at hl 2 rfl) ?_
        refine lv_lload_n gX gB dX6_tipping_20 rfl (lv_at hl 3 rfl) ?_
        refine lv_lload gX gB dX6_tipping_21 (lv_at hl 4 rfl) ?_
        refine lv_lload gX gB dX6_tipping_23 (lv_at hl 5 rfl) ?_
        refine gx_callV (wr := []) (rest := []) C hW sX6_109 (kX6_momentOf l G ad cd pn fn dn cn sn tn ex ey eg at0 fl px py pz gr ou fx fy od cr ty to_ dr hpn hcn cf hcr hcf q hq yy hyy x y w j (by omega)) ⟨0, rfl⟩ rfl rfl ⟨(Nat.le_of_ble_eq_true rfl), (Nat.le_of_ble_eq_true rfl)⟩ hl.1 rfl (Nat.le_of_ble_eq_true rfl) dX6_tipping_25 ⟨(Nat.le_of_ble_eq_true rfl), (Nat.le_of_ble_eq_true rfl)⟩ (fun v9 u9 H locs hp hW => ?_)
        obtain ⟨rfl, hu⟩ := hp
        rw [hu] at hW
        have hW : gx_W G A s ([(ad 0, .inr (11, [.int cd, .int (nI pn), .ref (ad 1), .ref (ad 2), .ref (ad 3), .ref (ad 4), .ref (ad 5), .int (nI fn), .ref (ad 6), .ref (ad 7), .int (nI dn), .ref (ad 8), .long ex, .long ey, .long eg, .int (nI cn), .ref (ad 9), .ref (ad 10), .int (nI sn), .int at0, .int fl, .int (nI tn), .ref (ad 11), .ref (ad 12)])), (ad 1, .inl (G.2.1 2, 16, .inr (.inl px))), (ad 2, .inl (G.2.1 2, 16, .inr (.inl py))), (ad 3, .inl (G.2.1 2, 16, .inr (.inl pz))), (ad 4, .inl (G.2.1 2, 16, .inr (.inl gr))), (ad 5, .inl (G.2.1 2, 16, .inr (.inl ou))), (ad 6, .inl (G.2.1 2, 12, .inr (.inl fx))), (ad 7, .inl (G.2.1 2, 12, .inr (.inl fy))), (ad 8, .inl (G.2.1 1, 8, .inl od)), (ad 9, .inl (G.2.1 1, 12, .inl cr)), (ad 10, .inl (G.2.1 1, 200, .inl ty)), (ad 11, .inl (G.2.1 1, 48, .inl to_)), (ad 12, .inl (G.2.1 1, 48, .inl dr))]) H locs := hW
        refine W.eq (g2 := F0 m 28 ls [.long (rf_mom fx fy px gr yy cf cn pn x y w j)]) rfl ?_
        refine W.widen (k := 0) (n := 0) (Nat.le_of_ble_eq_true rfl) (Nat.le_of_ble_eq_true rfl) ?_
        refine lv_lconst (v := 0) gX gB dX6_tipping_28 (by decide) ?_
        refine gx_lc_ge (tgt := 40) C dX6_tipping_29 dX6_tipping_30 (by decide) (fun c29 => ?_) (fun c29 => ?_)
        · refine lv_iload gX gB dX6_tipping_40 (lv_at hl 0 rfl) ?_
          refine gx_topi (show (nI (up_at (rf_mom fx fy px gr yy cf cn pn x y w) (cn - (j + 1)) (j + 1))) = nI (up_at (rf_mom fx fy px gr yy cf cn pn x y w) (cn - j) j) from (congrArg nI (up_0 (by omega) (Int64.not_lt.mpr c29))).symm) ?_
          refine lv_istore (lv' := [(8, .int (nI (up_at (rf_mom fx fy px gr yy cf cn pn x y w) (cn - j) j))), (9, .int (nI j)), (1, .int (nI q)), (2, .long x), (4, .long y), (6, .long w), (0, .ref (ad 0))]) gX gB dX6_tipping_42 hl (by decide) rfl (fun ls hl => ?_)
          refine lv_iinc (v := (nI j) + (-1)) (lv' := [(9, .int ((nI j) + (-1))), (8, .int (nI (up_at (rf_mom fx fy px gr yy cf cn pn x y w) (cn - j) j))), (1, .int (nI q)), (2, .long x), (4, .long y), (6, .long w), (0, .ref (ad 0))]) gX gB dX6_tipping_44 hl (k := 1) rfl (by exact rfl) (by decide) rfl (fun ls hl => ?_)
          refine lv_goto (tgt := 11) gX gB dX6_tipping_47 (by decide) ?_
          exact ih j (nI j + (-1)) (by omega) (by omega) (Int32.sub_eq_add_neg _ _).symm _ _ hW ls (lv_sub hl [1, 0, 2, 3, 4, 5, 6] rfl)
        · refine lv_iload gX gB dX6_tipping_33 (lv_at hl 1 rfl) ?_
          refine lv_iconst (v := 1) gX gB dX6_tipping_35 (by decide) ?_
          refine lv_iadd gX gB dX6_tipping_36 ?_
          refine gx_topi (show ((nI j) + 1) = nI (j + 1) from nI_1 j) ?_
          refine lv_goto (tgt := 42) gX gB dX6_tipping_37 (by decide) ?_
          refine gx_topi (show (nI (j + 1)) = nI (up_at (rf_mom fx fy px gr yy cf cn pn x y w) (cn - j) j) from (congrArg nI (up_1 (by omega) (Int64.not_le.mp c29))).symm) ?_
          refine lv_istore (lv' := [(8, .int (nI (up_at (rf_mom fx fy px gr yy cf cn pn x y w) (cn - j) j))), (9, .int (nI j)), (1, .int (nI q)), (2, .long x), (4, .long y), (6, .long w), (0, .ref (ad 0))]) gX gB dX6_tipping_42 hl (by decide) rfl (fun ls hl => ?_)
          refine lv_iinc (v := (nI j) + (-1)) (lv' := [(9, .int ((nI j) + (-1))), (8, .int (nI (up_at (rf_mom fx fy px gr yy cf cn pn x y w) (cn - j) j))), (1, .int (nI q)), (2, .long x), (4, .long y), (6, .long w), (0, .ref (ad 0))]) gX gB dX6_tipping_44 hl (k := 1) rfl (by exact rfl) (by decide) rfl (fun ls hl => ?_)
          refine lv_goto (tgt := 11) gX gB dX6_tipping_47 (by decide) ?_
          exact ih j (nI j + (-1)) (by omega) (by omega) (Int32.sub_eq_add_neg _ _).symm _ _ hW ls (lv_sub hl [1, 0, 2, 3, 4, 5, 6] rfl)
  exact loop (cn + 1) cn (nI cn - 1) (Nat.lt_succ_self _) (Nat.le_refl _) rfl _ _ hW ls (lv_sub hl [1, 0, 3, 4, 5, 6, 2] rfl)
