/-! THE LAW: wobble, bend, creep. -/
theorem sL_57 : gx_sV RL 57 yX5_wobble cX5_wobble 19 (some .double) 4 := ⟨⟨(tq_4 205 (by decide +kernel) rfl), (tq_4 206 (by decide +kernel) rfl), (tq_4 207 (by decide +kernel) rfl), (tq_1 1 (by decide +kernel) rfl), (tq_4 208 (by decide +kernel) rfl)⟩, ⟨by decide +kernel, by decide +kernel, by decide +kernel⟩⟩
theorem sL_61 : gx_sV RL 61 yX5_bend cX5_bend 11 (some .double) 4 := ⟨⟨(tq_4 221 (by decide +kernel) rfl), (tq_4 222 (by decide +kernel) rfl), (tq_4 223 (by decide +kernel) rfl), (tq_1 1 (by decide +kernel) rfl), (tq_4 224 (by decide +kernel) rfl)⟩, ⟨by decide +kernel, by decide +kernel, by decide +kernel⟩⟩
theorem sL_65 : gx_sV RL 65 yX5_creep cX5_creep 2 (some .double) 1 := ⟨⟨(tq_4 237 (by decide +kernel) rfl), (tq_4 238 (by decide +kernel) rfl), (tq_4 239 (by decide +kernel) rfl), (tq_1 1 (by decide +kernel) rfl), (tq_5 0 (by decide +kernel) rfl)⟩, ⟨by decide +kernel, by decide +kernel, by decide +kernel⟩⟩
set_option maxHeartbeats 4000000 in
set_option maxRecDepth 100000 in
theorem kL_wobble (l : Launch) (G : gx_T) (L : List Nat) (f : Nat → va_E) (x : Nat) (vs : List Value) (hx : x ∈ L) (fx : f x = .inr (10, vs)) (ow : Nat) (g : Nat → UInt64) (p0 p1 p2 p3 : Int64) (post : Option Value → va_W → Prop) (px : String → va_W → Prop) (hM : gx_MX l G yX5_wobble cX5_wobble 19 (some .double) ({ frames := 7, cells := 5, slots := 40, locals := 111 } : Room) [.ref x, .long p0, .long p1, .long p2, .long p3] (va_pl L f) post px) (hpo : ∀ v u, post v u → ∃ r : UInt64, v = some (.double r)) (hpx : ∀ E u, px E u → E = gx_E1 ∨ E = gx_E2) : gx_MH l G yL_wobble cL_wobble 11 (some .int) [(0, 14, 17, 13), (0, 14, 21, 15)] ({ frames := 8, cells := 5, slots := 40, locals := 149 } : Room) [.ref x, .long p0, .long p1, .long p2, .long p3, .ref ow] ([(ow, .inl (G.2.1 4, 1, .inr (.inr (.inr (.inl g)))))] ++ va_pl L f) (fun v w => (∃ (r : UInt64) (u : va_W), post (some (.double r)) u ∧ v = some (.int 0) ∧ w = [(ow, .inl (G.2.1 4, 1, .inr (.inr (.inr (.inl (vf_upd g 0 r))))))] ++ u) ∨ (∃ u : va_W, px gx_E1 u ∧ v = some (.int 1) ∧ w = [(ow, .inl (G.2.1 4, 1, .inr (.inr (.inr (.inl g)))))] ++ u) ∨ (∃ u : va_W, px gx_E2 u ∧ v = some (.int 2) ∧ w = [(ow, .inl (G.2.1 4, 1, .inr (.inr (.inr (.inl g)))))] ++ u)) := by
  refine gx_startH (by decide +kernel) (Nat.le_of_ble_eq_true rfl) ?_
  intro p e s m args below meth c A ls C hr htab hW hl
  have gX := C.x
  have gB := C.b
  have hl : lv_has ls 11 [(0, .ref x), (1, .long p0), (3, .long p1), (5, .long p2), (7, .long p3), (9, .ref ow)] := hl
  refine lv_aload gX gB dL_wobble_0 (lv_at hl 5 rfl) ?_
  refine lv_iconst (v := 0) gX gB dL_wobble_2 (by decide) ?_
  refine lv_aload_n gX gB dL_wobble_3 rfl (lv_at hl 0 rfl) ?_
  refine lv_lload_n gX gB dL_wobble_4 rfl (lv_at hl 1 rfl) ?_
  refine lv_lload_n gX gB dL_wobble_5 rfl (lv_at hl 2 rfl) ?_
  refine lv_lload gX gB dL_wobble_6 (lv_at hl 3 rfl) ?_
  refine lv_lload gX gB dL_wobble_8 (lv_at hl 4 rfl) ?_
  refine gx_callVX (wr := [(ow, .inl (G.2.1 4, 1, .inr (.inr (.inr (.inl g)))))]) (rest := [.int 0, .ref ow]) C hW sL_57 hM (gx_pl hx fx) rfl rfl ⟨Nat.le_of_ble_eq_true rfl, Nat.le_of_ble_eq_true rfl⟩ hl.1 rfl (Nat.le_of_ble_eq_true rfl) dL_wobble_10 ⟨(Nat.le_of_ble_eq_true rfl), (Nat.le_of_ble_eq_true rfl)⟩ (fun E ce q9 u9 H locs hpx9 hW hce hcv hcl => ?_) (fun v9 u9 H locs hp hW => ?_)
  · rcases hpx E u9 hpx9 with rfl | rfl
    · refine gx_catch (own := RL) C [] ⟨0, 14, 17, 13⟩ [⟨0, 14, 21, 15⟩] htab (fun _ h9 => absurd h9 List.not_mem_nil) (by decide) (by decide) (tq_3 185 (by decide +kernel) rfl) (List.mem_of_getElem? (i := 4) (by decide +kernel)) hce hcv hcl ?_
      refine W.widen (k := 5) (n := 40) (Nat.le_of_ble_eq_true rfl) (Nat.le_of_ble_eq_true rfl) ?_
      refine lv_astore (lv' := [(10, .ref q9), (0, .ref x), (1, .long p0), (3, .long p1), (5, .long p2), (7, .long p3), (9, .ref ow)]) gX gB dL_wobble_17 hl (by decide) rfl (fun ls hl => ?_)
      refine lv_iconst (v := 1) gX gB dL_wobble_19 (by decide) ?_
      refine vx_ret ?_
      exact gx_iret C hr hW (Or.inr (Or.inl ⟨u9, hpx9, rfl, rfl⟩)) (Nat.le_of_ble_eq_true rfl) (Nat.le_of_ble_eq_true rfl) dL_wobble_20
    · refine gx_catch (own := RL) C [⟨0, 14, 17, 13⟩] ⟨0, 14, 21, 15⟩ [] htab (List.forall_mem_cons.mpr ⟨⟨by decide, gx_E1, (tq_3 185 (by decide +kernel) rfl), List.mem_of_getElem? (i := 2) (by decide +kernel)⟩, fun _ h9 => absurd h9 List.not_mem_nil⟩) (by decide) (by decide) (tq_3 186 (by decide +kernel) rfl) (List.mem_of_getElem? (i := 5) (by decide +kernel)) hce hcv hcl ?_
      refine W.widen (k := 5) (n := 40) (Nat.le_of_ble_eq_true rfl) (Nat.le_of_ble_eq_true rfl) ?_
      refine lv_astore (lv' := [(10, .ref q9), (0, .ref x), (1, .long p0), (3, .long p1), (5, .long p2), (7, .long p3), (9, .ref ow)]) gX gB dL_wobble_21 hl (by decide) rfl (fun ls hl => ?_)
      refine lv_iconst (v := 2) gX gB dL_wobble_23 (by decide) ?_
      refine vx_ret ?_
      exact gx_iret C hr hW (Or.inr (Or.inr (⟨u9, hpx9, rfl, rfl⟩))) (Nat.le_of_ble_eq_true rfl) (Nat.le_of_ble_eq_true rfl) dL_wobble_24
  · obtain ⟨r, rfl⟩ := hpo v9 u9 hp
    have hW : gx_W G A s ([(ow, .inl (G.2.1 4, 1, .inr (.inr (.inr (.inl g)))))] ++ u9) H locs := hW
    refine W.eq (g2 := F0 m 13 ls [.double r, .int 0, .ref ow]) rfl ?_
    refine W.widen (k := 5) (n := 40) (Nat.le_of_ble_eq_true rfl) (Nat.le_of_ble_eq_true rfl) ?_
    refine gx_dastE C hW 0 (j := 0) rfl (by decide) (by decide) (by decide) dL_wobble_13 (fun H locs hW => ?_)
    have hW : gx_W G A s ([(ow, .inl (G.2.1 4, 1, .inr (.inr (.inr (.inl (vf_upd g 0 r))))))] ++ u9) H locs := hW
    refine lv_goto (tgt := 25) gX gB dL_wobble_14 (by decide) ?_
    refine lv_iconst (v := 0) gX gB dL_wobble_25 (by decide) ?_
    refine vx_ret ?_
    exact gx_iret C hr hW (Or.inl ⟨r, u9, hp, rfl, rfl⟩) (Nat.le_of_ble_eq_true rfl) (Nat.le_of_ble_eq_true rfl) dL_wobble_26
set_option maxHeartbeats 4000000 in
set_option maxRecDepth 100000 in
theorem kL_bend (l : Launch) (G : gx_T) (L : List Nat) (f : Nat → va_E) (x : Nat) (vs : List Value) (hx : x ∈ L) (fx : f x = .inr (10, vs)) (ow : Nat) (g : Nat → UInt64) (p0 p1 p2 p3 : UInt64) (post : Option Value → va_W → Prop) (px : String → va_W → Prop) (hM : gx_MX l G yX5_bend cX5_bend 11 (some .double) ({ frames := 6, cells := 1, slots := 6, locals := 90 } : Room) [.ref x, .double p0, .double p1, .double p2, .double p3] (va_pl L f) post px) (hpo : ∀ v u, post v u → ∃ r : UInt64, v = some (.double r)) (hpx : ∀ E u, px E u → E = gx_E2) : gx_MH l G yL_bend cL_bend 11 (some .int) [(0, 14, 17, 15)] ({ frames := 7, cells := 1, slots := 6, locals := 120 } : Room) [.ref x, .double p0, .double p1, .double p2, .double p3, .ref ow] ([(ow, .inl (G.2.1 4, 1, .inr (.inr (.inr (.inl g)))))] ++ va_pl L f) (fun v w => (∃ (r : UInt64) (u : va_W), post (some (.double r)) u ∧ v = some (.int 0) ∧ w = [(ow, .inl (G.2.1 4, 1, .inr (.inr (.inr (.inl (vf_upd g 0 r))))))] ++ u) ∨ (∃ u : va_W, px gx_E2 u ∧ v = some (.int 1) ∧ w = [(ow, .inl (G.2.1 4, 1, .inr (.inr (.inr (.inl g)))))] ++ u)) := by
  refine gx_startH (by decide +kernel) (Nat.le_of_ble_eq_true rfl) ?_
  intro p e s m args below meth c A ls C hr htab hW hl
  have gX := C.x
  have gB := C.b
  have hl : lv_has ls 11 [(0, .ref x), (1, .double p0), (3, .double p1), (5, .double p2), (7, .double p3), (9, .ref ow)] := hl
  refine lv_aload gX gB dL_bend_0 (lv_at hl 5 rfl) ?_
  refine lv_iconst (v := 0) gX gB dL_bend_2 (by decide) ?_
  refine lv_aload_n gX gB dL_bend_3 rfl (lv_at hl 0 rfl) ?_
  refine lv_dload_n gX gB dL_bend_4 rfl (lv_at hl 1 rfl) ?_
  refine lv_dload_n gX gB dL_bend_5 rfl (lv_at hl 2 rfl) ?_
  refine lv_dload gX gB dL_bend_6 (lv_at hl 3 rfl) ?_
  refine lv_dload gX gB dL_bend_8 (lv_at hl 4 rfl) ?_
  refine gx_callVX (wr := [(ow, .inl (G.2.1 4, 1, .inr (.inr (.inr (.inl g)))))]) (rest := [.int 0, .ref ow]) C hW sL_61 hM (gx_pl hx fx) rfl rfl ⟨Nat.le_of_ble_eq_true rfl, Nat.le_of_ble_eq_true rfl⟩ hl.1 rfl (Nat.le_of_ble_eq_true rfl) dL_bend_10 ⟨(Nat.le_of_ble_eq_true rfl), (Nat.le_of_ble_eq_true rfl)⟩ (fun E ce q9 u9 H locs hpx9 hW hce hcv hcl => ?_) (fun v9 u9 H locs hp hW => ?_)
  · rcases hpx E u9 hpx9 with rfl
    · refine gx_catch (own := RL) C [] ⟨0, 14, 17, 15⟩ [] htab (fun _ h9 => absurd h9 List.not_mem_nil) (by decide) (by decide) (tq_3 186 (by decide +kernel) rfl) (List.mem_of_getElem? (i := 5) (by decide +kernel)) hce hcv hcl ?_
      refine W.widen (k := 1) (n := 6) (Nat.le_of_ble_eq_true rfl) (Nat.le_of_ble_eq_true rfl) ?_
      refine lv_astore (lv' := [(10, .ref q9), (0, .ref x), (1, .double p0), (3, .double p1), (5, .double p2), (7, .double p3), (9, .ref ow)]) gX gB dL_bend_17 hl (by decide) rfl (fun ls hl => ?_)
      refine lv_iconst (v := 1) gX gB dL_bend_19 (by decide) ?_
      refine vx_ret ?_
      exact gx_iret C hr hW (Or.inr (⟨u9, hpx9, rfl, rfl⟩)) (Nat.le_of_ble_eq_true rfl) (Nat.le_of_ble_eq_true rfl) dL_bend_20
  · obtain ⟨r, rfl⟩ := hpo v9 u9 hp
    have hW : gx_W G A s ([(ow, .inl (G.2.1 4, 1, .inr (.inr (.inr (.inl g)))))] ++ u9) H locs := hW
    refine W.eq (g2 := F0 m 13 ls [.double r, .int 0, .ref ow]) rfl ?_
    refine W.widen (k := 1) (n := 6) (Nat.le_of_ble_eq_true rfl) (Nat.le_of_ble_eq_true rfl) ?_
    refine gx_dastE C hW 0 (j := 0) rfl (by decide) (by decide) (by decide) dL_bend_13 (fun H locs hW => ?_)
    have hW : gx_W G A s ([(ow, .inl (G.2.1 4, 1, .inr (.inr (.inr (.inl (vf_upd g 0 r))))))] ++ u9) H locs := hW
    refine lv_goto (tgt := 21) gX gB dL_bend_14 (by decide) ?_
    refine lv_iconst (v := 0) gX gB dL_bend_21 (by decide) ?_
    refine vx_ret ?_
    exact gx_iret C hr hW (Or.inl ⟨r, u9, hp, rfl, rfl⟩) (Nat.le_of_ble_eq_true rfl) (Nat.le_of_ble_eq_true rfl) dL_bend_22
set_option maxHeartbeats 4000000 in
set_option maxRecDepth 100000 in
theorem kL_creep (l : Launch) (G : gx_T) (L : List Nat) (f : Nat → va_E) (x : Nat) (vs : List Value) (hx : x ∈ L) (fx : f x = .inr (10, vs)) (ow : Nat) (g : Nat → UInt64) (p0 : Int32) (post : Option Value → va_W → Prop) (px : String → va_W → Prop) (hM : gx_MX l G yX5_creep cX5_creep 2 (some .double) ({ frames := 6, cells := 1, slots := 6, locals := 90 } : Room) [.ref x, .int p0] (va_pl L f) post px) (hpo : ∀ v u, post v u → ∃ r : UInt64, v = some (.double r)) (hpx : ∀ E u, px E u → E = gx_E2) : gx_MH l G yL_creep cL_creep 4 (some .int) [(0, 8, 11, 15)] ({ frames := 7, cells := 1, slots := 6, locals := 111 } : Room) [.ref x, .int p0, .ref ow] ([(ow, .inl (G.2.1 4, 1, .inr (.inr (.inr (.inl g)))))] ++ va_pl L f) (fun v w => (∃ (r : UInt64) (u : va_W), post (some (.double r)) u ∧ v = some (.int 0) ∧ w = [(ow, .inl (G.2.1 4, 1, .inr (.inr (.inr (.inl (vf_upd g 0 r))))))] ++ u) ∨ (∃ u : va_W, px gx_E2 u ∧ v = some (.int 1) ∧ w = [(ow, .inl (G.2.1 4, 1, .inr (.inr (.inr (.inl g)))))] ++ u)) := by
  refine gx_startH (by decide +kernel) (Nat.le_of_ble_eq_true rfl) ?_
  intro p e s m args below meth c A ls C hr htab hW hl
  have gX := C.x
  have gB := C.b
  have hl : lv_has ls 4 [(0, .ref x), (1, .int p0), (2, .ref ow)] := hl
  refine lv_aload_n gX gB dL_creep_0 rfl (lv_at hl 2 rfl) ?_
  refine lv_iconst (v := 0) gX gB dL_creep_1 (by decide) ?_
  refine lv_aload_n gX gB dL_creep_2 rfl (lv_at hl 0 rfl) ?_
  refine lv_iload_n gX gB dL_creep_3 rfl (lv_at hl 1 rfl) ?_
  refine gx_callVX (wr := [(ow, .inl (G.2.1 4, 1, .inr (.inr (.inr (.inl g)))))]) (rest := [.int 0, .ref ow]) C hW sL_65 hM (gx_pl hx fx) rfl rfl ⟨Nat.le_of_ble_eq_true rfl, Nat.le_of_ble_eq_true rfl⟩ hl.1 rfl (Nat.le_of_ble_eq_true rfl) dL_creep_4 ⟨(Nat.le_of_ble_eq_true rfl), (Nat.le_of_ble_eq_true rfl)⟩ (fun E ce q9 u9 H locs hpx9 hW hce hcv hcl => ?_) (fun v9 u9 H locs hp hW => ?_)
  · rcases hpx E u9 hpx9 with rfl
    · refine gx_catch (own := RL) C [] ⟨0, 8, 11, 15⟩ [] htab (fun _ h9 => absurd h9 List.not_mem_nil) (by decide) (by decide) (tq_3 186 (by decide +kernel) rfl) (List.mem_of_getElem? (i := 5) (by decide +kernel)) hce hcv hcl ?_
      refine W.widen (k := 1) (n := 6) (Nat.le_of_ble_eq_true rfl) (Nat.le_of_ble_eq_true rfl) ?_
      refine lv_astore_n (lv' := [(3, .ref q9), (0, .ref x), (1, .int p0), (2, .ref ow)]) gX gB dL_creep_11 rfl hl (by decide) rfl (fun ls hl => ?_)
      refine lv_iconst (v := 1) gX gB dL_creep_12 (by decide) ?_
      refine vx_ret ?_
      exact gx_iret C hr hW (Or.inr (⟨u9, hpx9, rfl, rfl⟩)) (Nat.le_of_ble_eq_true rfl) (Nat.le_of_ble_eq_true rfl) dL_creep_13
  · obtain ⟨r, rfl⟩ := hpo v9 u9 hp
    have hW : gx_W G A s ([(ow, .inl (G.2.1 4, 1, .inr (.inr (.inr (.inl g)))))] ++ u9) H locs := hW
    refine W.eq (g2 := F0 m 7 ls [.double r, .int 0, .ref ow]) rfl ?_
    refine W.widen (k := 1) (n := 6) (Nat.le_of_ble_eq_true rfl) (Nat.le_of_ble_eq_true rfl) ?_
    refine gx_dastE C hW 0 (j := 0) rfl (by decide) (by decide) (by decide) dL_creep_7 (fun H locs hW => ?_)
    have hW : gx_W G A s ([(ow, .inl (G.2.1 4, 1, .inr (.inr (.inr (.inl (vf_upd g 0 r))))))] ++ u9) H locs := hW
    refine lv_goto (tgt := 14) gX gB dL_creep_8 (by decide) ?_
    refine lv_iconst (v := 0) gX gB dL_creep_14 (by decide) ?_
    refine vx_ret ?_
    exact gx_iret C hr hW (Or.inl ⟨r, u9, hp, rfl, rfl⟩) (Nat.le_of_ble_eq_true rfl) (Nat.le_of_ble_eq_true rfl) dL_creep_15
theorem sLH_129 : gx_sSH RL 129 yL_wobble cL_wobble 11 (some .int) [(0, 14, 17, 13), (0, 14, 21, 15)] 6 := ⟨⟨(tq_4 202 (by decide +kernel) rfl), (tq_4 203 (by decide +kernel) rfl), (tq_1 0 (by decide +kernel) rfl), (tq_4 204 (by decide +kernel) rfl)⟩, ⟨by decide +kernel, by decide +kernel, by decide +kernel⟩⟩
theorem sLH_135 : gx_sSH RL 135 yL_bend cL_bend 11 (some .int) [(0, 14, 17, 15)] 6 := ⟨⟨(tq_4 218 (by decide +kernel) rfl), (tq_4 219 (by decide +kernel) rfl), (tq_1 0 (by decide +kernel) rfl), (tq_4 220 (by decide +kernel) rfl)⟩, ⟨by decide +kernel, by decide +kernel, by decide +kernel⟩⟩
theorem sLH_139 : gx_sSH RL 139 yL_creep cL_creep 4 (some .int) [(0, 8, 11, 15)] 3 := ⟨⟨(tq_4 234 (by decide +kernel) rfl), (tq_4 235 (by decide +kernel) rfl), (tq_1 0 (by decide +kernel) rfl), (tq_4 236 (by decide +kernel) rfl)⟩, ⟨by decide +kernel, by decide +kernel, by decide +kernel⟩⟩
theorem wb_cong {n : Nat} {fd : Nat → ft_T} {fx fy : Nat → Int64} (h : ∀ i, i < n → fd i = (fx i, fy i)) (hn : n ≤ 12) (z1 z2 z3 z4 : Int64) : wb_code n (cr_s (fd_x fd) (fd_y fd) 1 2) z1 z2 z3 z4 = wb_code n (cr_s fx fy 1 2) z1 z2 z3 z4 ∧ (¬ nI n < 4 → wb_val (fd_x fd) (fd_y fd) z1 z2 z3 z4 = wb_val fx fy z1 z2 z3 z4) := by
  by_cases h4 : nI n < 4
  · exact ⟨by rw [wb_1 (Or.inl h4), wb_1 (Or.inl h4)], fun z => absurd h4 z⟩
  · have h5 : 4 ≤ n := Nat.le_of_not_lt (fun zz => h4 ((nI_ltI (b := 4) (by omega) (by decide)).mpr zz))
    have e : ∀ i, i < 4 → fd_x fd i = fx i ∧ fd_y fd i = fy i := fun i hi => ⟨congrArg Prod.fst (h i (by omega)), congrArg Prod.snd (h i (by omega))⟩
    have c9 : ∀ a b, a < 4 → b < 4 → cr_s (fd_x fd) (fd_y fd) a b = cr_s fx fy a b := by
      intro a b ha hb
      unfold cr_s
      rw [(e a ha).1, (e a ha).2, (e b hb).1, (e b hb).2, (e 0 (by omega)).1, (e 0 (by omega)).2]
    refine ⟨by rw [c9 1 2 (by omega) (by omega)], fun _ => ?_⟩
    have e2 : wb_off (fd_x fd) (fd_y fd) z1 z2 z3 z4 = wb_off fx fy z1 z2 z3 z4 := by
      unfold wb_off
      rw [c9 3 2 (by omega) (by omega), c9 1 3 (by omega) (by omega), c9 1 2 (by omega) (by omega)]
    unfold wb_val
    rw [e2]
theorem wb_inv {n : Nat} {cr z1 z2 z3 z4 : Int64} (h : wb_code n cr z1 z2 z3 z4 = 0) : ¬ nI n < 4 := by
  intro z
  rw [wb_1 (Or.inl z)] at h
  exact absurd h (by decide)
set_option maxRecDepth 100000 in
theorem pr_wobble_0 {G : gx_T} {L : List Nat} {f : Nat → va_E} {x ow oD : Nat} {ad : Nat → Nat} {P F S X N T E : Nat} {dn : Nat} {bP : Option Nat} {pa : List Nat} {ps : Nat → ld_T} {bF : Option Nat} {fa : List Nat} {fd : Nat → ft_T} {bS : Option Nat} {sa : List Nat} {sd : Nat → sd_T} {b cap n : Nat} {t : Nat → Nat} {bT : Option Nat} {ta : List Nat} {ds : List rt_T} {ex ey eg : Int64} {cn : Nat} {cf : Nat → Nat} {px py pz gr ou fx fy : Nat → Int64} {od cr ty to_ : Nat → Int32} {cd at0 fl : Int32} {dr : Nat → Int32} {p0 p1 p2 p3 : Int64} (hrl : rl_at G L f x P F S X N T E dn bP pa ps bF fa fd bS sa sd b cap n t bT ta ds ex ey eg cn cf px py pz gr ou fx fy od cr ty to_) {u M : va_W} {v : Option Value}  {r : UInt64} (hpo : (fun (v : Option Value) (u : va_W) => v = some (.double (wb_val (fd_x fd) (fd_y fd) p0 p1 p2 p3)) ∧ u = va_pl L f ∧ wb_code fa.length (cr_s (fd_x fd) (fd_y fd) 1 2) p0 p1 p2 p3 = 0) (some (.double r)) u) (hm : (fun (v : Option Value) (u : va_W) => (wb_code fa.length (cr_s fx fy 1 2) p0 p1 p2 p3 = 0 ∧ v = some (.double (wb_val fx fy p0 p1 p2 p3)) ∧ u = [(ad 0, .inr (11, [.int 0, .int (nI pa.length), .ref (ad 1), .ref (ad 2), .ref (ad 3), .ref (ad 4), .ref (ad 5), .int (nI fa.length), .ref (ad 6), .ref (ad 7), .int (nI dn), .ref (ad 8), .long ex, .long ey, .long eg, .int (nI cn), .ref (ad 9), .ref (ad 10), .int (nI n), .int at0, .int fl, .int (nI ds.length), .ref (ad 11), .ref (ad 12)])), (ad 1, .inl (G.2.1 2, 16, .inr (.inl px))), (ad 2, .inl (G.2.1 2, 16, .inr (.inl py))), (ad 3, .inl (G.2.1 2, 16, .inr (.inl pz))), (ad 4, .inl (G.2.1 2, 16, .inr (.inl gr))), (ad 5, .inl (G.2.1 2, 16, .inr (.inl ou))), (ad 6, .inl (G.2.1 2, 12, .inr (.inl fx))), (ad 7, .inl (G.2.1 2, 12, .inr (.inl fy))), (ad 8, .inl (G.2.1 1, 8, .inl od)), (ad 9, .inl (G.2.1 1, 12, .inl cr)), (ad 10, .inl (G.2.1 1, 200, .inl ty)), (ad 11, .inl (G.2.1 1, 48, .inl to_)), (ad 12, .inl (G.2.1 1, 48, .inl dr))]) ∨ (¬ wb_code fa.length (cr_s fx fy 1 2) p0 p1 p2 p3 = 0 ∧ v = some (.double FP.dconst0) ∧ u = [(ad 0, .inr (11, [.int (wb_code fa.length (cr_s fx fy 1 2) p0 p1 p2 p3), .int (nI pa.length), .ref (ad 1), .ref (ad 2), .ref (ad 3), .ref (ad 4), .ref (ad 5), .int (nI fa.length), .ref (ad 6), .ref (ad 7), .int (nI dn), .ref (ad 8), .long ex, .long ey, .long eg, .int (nI cn), .ref (ad 9), .ref (ad 10), .int (nI n), .int at0, .int fl, .int (nI ds.length), .ref (ad 11), .ref (ad 12)])), (ad 1, .inl (G.2.1 2, 16, .inr (.inl px))), (ad 2, .inl (G.2.1 2, 16, .inr (.inl py))), (ad 3, .inl (G.2.1 2, 16, .inr (.inl pz))), (ad 4, .inl (G.2.1 2, 16, .inr (.inl gr))), (ad 5, .inl (G.2.1 2, 16, .inr (.inl ou))), (ad 6, .inl (G.2.1 2, 12, .inr (.inl fx))), (ad 7, .inl (G.2.1 2, 12, .inr (.inl fy))), (ad 8, .inl (G.2.1 1, 8, .inl od)), (ad 9, .inl (G.2.1 1, 12, .inl cr)), (ad 10, .inl (G.2.1 1, 200, .inl ty)), (ad 11, .inl (G.2.1 1, 48, .inl to_)), (ad 12, .inl (G.2.1 1, 48, .inl dr))])) v M) : ∃ bb : UInt64, v = some (.double bb) ∧ r = bb ∧ lw_out G x ow oD ad 0 u M := by
  obtain ⟨e1, rfl, hc⟩ := hpo
  have hcg := wb_cong (fun i hi => ((hrl.2.2.2.2.2.2.2.2.2.2.2.2.2.2.2.2.2.2.2.2.2.2.2.2.2.2.2.2.2.2.2.2.2.2.2.2.2.2.2.1) i hi).1) (hrl.2.2.2.2.2.2.2.2.2.2.2.2.2.2.2.2.2.2.2.2.2.2.2.2.2.2.2.2.2.1) p0 p1 p2 p3
  rcases hm with ⟨-, rfl, rfl⟩ | ⟨h1, -, -⟩
  · injection e1 with e1
    injection e1 with e1
    exact ⟨_, rfl, by rw [e1, hcg.2 (wb_inv hc)], ⟨(0), pa.length, fa.length, dn, cn, n, ds.length, ex, ey, eg, at0, fl, px, py, pz, gr, ou, fx, fy, od, cr, ty, to_, dr, rfl, rfl, fun g gD => ⟨L, f, P, F, S, X, N, T, E, dn, bP, pa, ps, bF, fa, fd, bS, sa, sd, b, cap, n, t, bT, ta, ds, ex, ey, eg, cn, cf, px, py, pz, gr, ou, fx, fy, od, cr, ty, to_, _, at0, fl, dr, g, gD, rfl, hrl⟩⟩⟩
  · rw [hcg.1] at hc
    exact absurd hc h1
set_option maxRecDepth 100000 in
theorem pr_wobble_1 {G : gx_T} {L : List Nat} {f : Nat → va_E} {x ow oD : Nat} {ad : Nat → Nat} {P F S X N T E : Nat} {dn : Nat} {bP : Option Nat} {pa : List Nat} {ps : Nat → ld_T} {bF : Option Nat} {fa : List Nat} {fd : Nat → ft_T} {bS : Option Nat} {sa : List Nat} {sd : Nat → sd_T} {b cap n : Nat} {t : Nat → Nat} {bT : Option Nat} {ta : List Nat} {ds : List rt_T} {ex ey eg : Int64} {cn : Nat} {cf : Nat → Nat} {px py pz gr ou fx fy : Nat → Int64} {od cr ty to_ : Nat → Int32} {cd at0 fl : Int32} {dr : Nat → Int32} {p0 p1 p2 p3 : Int64} (hrl : rl_at G L f x P F S X N T E dn bP pa ps bF fa fd bS sa sd b cap n t bT ta ds ex ey eg cn cf px py pz gr ou fx fy od cr ty to_) {u M : va_W} {v : Option Value}  (hpo : (fun (Ex : String) (u : va_W) => u = va_pl L f ∧ px2 gx_E1 gx_E2 (wb_code fa.length (cr_s (fd_x fd) (fd_y fd) 1 2) p0 p1 p2 p3) Ex) gx_E1 u) (hm : (fun (v : Option Value) (u : va_W) => (wb_code fa.length (cr_s fx fy 1 2) p0 p1 p2 p3 = 0 ∧ v = some (.double (wb_val fx fy p0 p1 p2 p3)) ∧ u = [(ad 0, .inr (11, [.int 0, .int (nI pa.length), .ref (ad 1), .ref (ad 2), .ref (ad 3), .ref (ad 4), .ref (ad 5), .int (nI fa.length), .ref (ad 6), .ref (ad 7), .int (nI dn), .ref (ad 8), .long ex, .long ey, .long eg, .int (nI cn), .ref (ad 9), .ref (ad 10), .int (nI n), .int at0, .int fl, .int (nI ds.length), .ref (ad 11), .ref (ad 12)])), (ad 1, .inl (G.2.1 2, 16, .inr (.inl px))), (ad 2, .inl (G.2.1 2, 16, .inr (.inl py))), (ad 3, .inl (G.2.1 2, 16, .inr (.inl pz))), (ad 4, .inl (G.2.1 2, 16, .inr (.inl gr))), (ad 5, .inl (G.2.1 2, 16, .inr (.inl ou))), (ad 6, .inl (G.2.1 2, 12, .inr (.inl fx))), (ad 7, .inl (G.2.1 2, 12, .inr (.inl fy))), (ad 8, .inl (G.2.1 1, 8, .inl od)), (ad 9, .inl (G.2.1 1, 12, .inl cr)), (ad 10, .inl (G.2.1 1, 200, .inl ty)), (ad 11, .inl (G.2.1 1, 48, .inl to_)), (ad 12, .inl (G.2.1 1, 48, .inl dr))]) ∨ (¬ wb_code fa.length (cr_s fx fy 1 2) p0 p1 p2 p3 = 0 ∧ v = some (.double FP.dconst0) ∧ u = [(ad 0, .inr (11, [.int (wb_code fa.length (cr_s fx fy 1 2) p0 p1 p2 p3), .int (nI pa.length), .ref (ad 1), .ref (ad 2), .ref (ad 3), .ref (ad 4), .ref (ad 5), .int (nI fa.length), .ref (ad 6), .ref (ad 7), .int (nI dn), .ref (ad 8), .long ex, .long ey, .long eg, .int (nI cn), .ref (ad 9), .ref (ad 10), .int (nI n), .int at0, .int fl, .int (nI ds.length), .ref (ad 11), .ref (ad 12)])), (ad 1, .inl (G.2.1 2, 16, .inr (.inl px))), (ad 2, .inl (G.2.1 2, 16, .inr (.inl py))), (ad 3, .inl (G.2.1 2, 16, .inr (.inl pz))), (ad 4, .inl (G.2.1 2, 16, .inr (.inl gr))), (ad 5, .inl (G.2.1 2, 16, .inr (.inl ou))), (ad 6, .inl (G.2.1 2, 12, .inr (.inl fx))), (ad 7, .inl (G.2.1 2, 12, .inr (.inl fy))), (ad 8, .inl (G.2.1 1, 8, .inl od)), (ad 9, .inl (G.2.1 1, 12, .inl cr)), (ad 10, .inl (G.2.1 1, 200, .inl ty)), (ad 11, .inl (G.2.1 1, 48, .inl to_)), (ad 12, .inl (G.2.1 1, 48, .inl dr))])) v M) : ∃ bb : UInt64, v = some (.double bb) ∧ True ∧ lw_out G x ow oD ad 1 u M := by
  obtain ⟨rfl, hp⟩ := hpo
  have hcg := wb_cong (fun i hi => ((hrl.2.2.2.2.2.2.2.2.2.2.2.2.2.2.2.2.2.2.2.2.2.2.2.2.2.2.2.2.2.2.2.2.2.2.2.2.2.2.2.1) i hi).1) (hrl.2.2.2.2.2.2.2.2.2.2.2.2.2.2.2.2.2.2.2.2.2.2.2.2.2.2.2.2.2.1) p0 p1 p2 p3
  have hc := px2_c1 hp (by decide)
  rw [hcg.1] at hc
  rcases hm with ⟨h1, -, -⟩ | ⟨-, rfl, rfl⟩
  · rw [hc] at h1
    exact absurd h1 (by decide)
  · exact ⟨_, rfl, trivial, ⟨((wb_code fa.length (cr_s fx fy 1 2) p0 p1 p2 p3)), pa.length, fa.length, dn, cn, n, ds.length, ex, ey, eg, at0, fl, px, py, pz, gr, ou, fx, fy, od, cr, ty, to_, dr, rfl, hc, fun g gD => ⟨L, f, P, F, S, X, N, T, E, dn, bP, pa, ps, bF, fa, fd, bS, sa, sd, b, cap, n, t, bT, ta, ds, ex, ey, eg, cn, cf, px, py, pz, gr, ou, fx, fy, od, cr, ty, to_, _, at0, fl, dr, g, gD, rfl, hrl⟩⟩⟩
set_option maxRecDepth 100000 in
theorem pr_wobble_2 {G : gx_T} {L : List Nat} {f : Nat → va_E} {x ow oD : Nat} {ad : Nat → Nat} {P F S X N T E : Nat} {dn : Nat} {bP : Option Nat} {pa : List Nat} {ps : Nat → ld_T} {bF : Option Nat} {fa : List Nat} {fd : Nat → ft_T} {bS : Option Nat} {sa : List Nat} {sd : Nat → sd_T} {b cap n : Nat} {t : Nat → Nat} {bT : Option Nat} {ta : List Nat} {ds : List rt_T} {ex ey eg : Int64} {cn : Nat} {cf : Nat → Nat} {px py pz gr ou fx fy : Nat → Int64} {od cr ty to_ : Nat → Int32} {cd at0 fl : Int32} {dr : Nat → Int32} {p0 p1 p2 p3 : Int64} (hrl : rl_at G L f x P F S X N T E dn bP pa ps bF fa fd bS sa sd b cap n t bT ta ds ex ey eg cn cf px py pz gr ou fx fy od cr ty to_) {u M : va_W} {v : Option Value}  (hpo : (fun (Ex : String) (u : va_W) => u = va_pl L f ∧ px2 gx_E1 gx_E2 (wb_code fa.length (cr_s (fd_x fd) (fd_y fd) 1 2) p0 p1 p2 p3) Ex) gx_E2 u) (hm : (fun (v : Option Value) (u : va_W) => (wb_code fa.length (cr_s fx fy 1 2) p0 p1 p2 p3 = 0 ∧ v = some (.double (wb_val fx fy p0 p1 p2 p3)) ∧ u = [(ad 0, .inr (11, [.int 0, .int (nI pa.length), .ref (ad 1), .ref (ad 2), .ref (ad 3), .ref (ad 4), .ref (ad 5), .int (nI fa.length), .ref (ad 6), .ref (ad 7), .int (nI dn), .ref (ad 8), .long ex, .long ey, .long eg, .int (nI cn), .ref (ad 9), .ref (ad 10), .int (nI n), .int at0, .int fl, .int (nI ds.length), .ref (ad 11), .ref (ad 12)])), (ad 1, .inl (G.2.1 2, 16, .inr (.inl px))), (ad 2, .inl (G.2.1 2, 16, .inr (.inl py))), (ad 3, .inl (G.2.1 2, 16, .inr (.inl pz))), (ad 4, .inl (G.2.1 2, 16, .inr (.inl gr))), (ad 5, .inl (G.2.1 2, 16, .inr (.inl ou))), (ad 6, .inl (G.2.1 2, 12, .inr (.inl fx))), (ad 7, .inl (G.2.1 2, 12, .inr (.inl fy))), (ad 8, .inl (G.2.1 1, 8, .inl od)), (ad 9, .inl (G.2.1 1, 12, .inl cr)), (ad 10, .inl (G.2.1 1, 200, .inl ty)), (ad 11, .inl (G.2.1 1, 48, .inl to_)), (ad 12, .inl (G.2.1 1, 48, .inl dr))]) ∨ (¬ wb_code fa.length (cr_s fx fy 1 2) p0 p1 p2 p3 = 0 ∧ v = some (.double FP.dconst0) ∧ u = [(ad 0, .inr (11, [.int (wb_code fa.length (cr_s fx fy 1 2) p0 p1 p2 p3), .int (nI pa.length), .ref (ad 1), .ref (ad 2), .ref (ad 3), .ref (ad 4), .ref (ad 5), .int (nI fa.length), .ref (ad 6), .ref (ad 7), .int (nI dn), .ref (ad 8), .long ex, .long ey, .long eg, .int (nI cn), .ref (ad 9), .ref (ad 10), .int (nI n), .int at0, .int fl, .int (nI ds.length), .ref (ad 11), .ref (ad 12)])), (ad 1, .inl (G.2.1 2, 16, .inr (.inl px))), (ad 2, .inl (G.2.1 2, 16, .inr (.inl py))), (ad 3, .inl (G.2.1 2, 16, .inr (.inl pz))), (ad 4, .inl (G.2.1 2, 16, .inr (.inl gr))), (ad 5, .inl (G.2.1 2, 16, .inr (.inl ou))), (ad 6, .inl (G.2.1 2, 12, .inr (.inl fx))), (ad 7, .inl (G.2.1 2, 12, .inr (.inl fy))), (ad 8, .inl (G.2.1 1, 8, .inl od)), (ad 9, .inl (G.2.1 1, 12, .inl cr)), (ad 10, .inl (G.2.1 1, 200, .inl ty)), (ad 11, .inl (G.2.1 1, 48, .inl to_)), (ad 12, .inl (G.2.1 1, 48, .inl dr))])) v M) : ∃ bb : UInt64, v = some (.double bb) ∧ True ∧ lw_out G x ow oD ad 2 u M := by
  obtain ⟨rfl, hp⟩ := hpo
  have hcg := wb_cong (fun i hi => ((hrl.2.2.2.2.2.2.2.2.2.2.2.2.2.2.2.2.2.2.2.2.2.2.2.2.2.2.2.2.2.2.2.2.2.2.2.2.2.2.2.1) i hi).1) (hrl.2.2.2.2.2.2.2.2.2.2.2.2.2.2.2.2.2.2.2.2.2.2.2.2.2.2.2.2.2.1) p0 p1 p2 p3
  have hc := px2_c2 hp (by decide)
  rw [hcg.1] at hc
  rcases hm with ⟨h1, -, -⟩ | ⟨-, rfl, rfl⟩
  · rw [hc] at h1
    exact absurd h1 (by decide)
  · exact ⟨_, rfl, trivial, ⟨((wb_code fa.length (cr_s fx fy 1 2) p0 p1 p2 p3)), pa.length, fa.length, dn, cn, n, ds.length, ex, ey, eg, at0, fl, px, py, pz, gr, ou, fx, fy, od, cr, ty, to_, dr, rfl, hc, fun g gD => ⟨L, f, P, F, S, X, N, T, E, dn, bP, pa, ps, bF, fa, fd, bS, sa, sd, b, cap, n, t, bT, ta, ds, ex, ey, eg, cn, cf, px, py, pz, gr, ou, fx, fy, od, cr, ty, to_, _, at0, fl, dr, g, gD, rfl, hrl⟩⟩⟩
set_option maxHeartbeats 8000000 in
set_option maxRecDepth 100000 in
theorem lc_wobble {l : Launch} (hfl : l.flags = flags0) {p : Program} {e : Env} {R : Room} {s : State} {m : MethodId} {below : List Frame} {meth : Method} {c : Code} {A : Nat → Prop} {G : gx_T} {b0 Ls : Nat} {xs : Nat → Int32} {x ow oD : Nat} {ad : Nat → Nat} {H : Heap} {locs : List Loc} {cells slots : Nat} {Q : State → Prop} {ls : Array Slot} {i : Nat} {ws : va_W} (C : gx_C G p s m #[Value.ref b0] meth c cL_law 9 RL A) (hX : va_X b0 Ls xs s s.heap) (hbl : b0 < s.heap.size) (hbA : ¬ A b0) (hi : i + 9 ≤ Ls) (hLs : Ls ≤ 4608) (hR : 100 ≤ R.frames ∧ 4000 ≤ R.locals ∧ cells + 64 ≤ R.cells ∧ slots + 2000 ≤ R.slots) (hinv : lw_inv G x ow oD ad ws) (hW : gx_W G A s ws H locs) (hl : lv_has ls 9 [(5, .int (nI i)), (4, .ref oD), (3, .ref ow), (2, .ref (ad 0)), (1, .ref x), (0, .ref b0)]) (kk : ∀ (ws2 : va_W) (H2 : Heap) (locs2 : List Loc) (ls2 : Array Slot), lw_inv G x ow oD ad ws2 → gx_W G A s ws2 H2 locs2 → lv_has ls2 9 [(5, .int (nI i)), (4, .ref oD), (3, .ref ow), (2, .ref (ad 0)), (1, .ref x), (0, .ref b0)] → W p l e R s m #[Value.ref b0] below meth c H2 locs2 (cells + 64) (slots + 2000) Q (F0 m 1766 ls2 [])) : W p l e R s m #[Value.ref b0] below meth c H locs cells slots Q (F0 m 1232 ls []) := by
  have gX := C.x
  have gB := C.b
  obtain ⟨L, f, P, F, S, X, N, T, E, dn, bP, pa, ps, bF, fa, fd, bS, sa, sd, b, cap, n, t, bT, ta, ds, ex, ey, eg, cn, cf, px, py, pz, gr, ou, fx, fy, od, cr, ty, to_, cd, at0, fl, dr, g, gD, rfl, hrl⟩ := hinv
  obtain ⟨hx, fx0, lP, lF, lS, lT, tb, hN, hE, pP, pF, pS, pT, nPF, nPS, nPT, nFS, nFT, nST, rPF, rPS, rPT, rFS, rFT, rST, nd, Nn, En, p16, f12, t12, tl, n2, d8, c12, sl, rP, rO, rQ, rF, rE, rX, rT, rD, rC, rS⟩ := id hrl
  refine lv_aload_n gX gB dL_law_1232 rfl (lv_at hl 4 rfl) ?_
  refine lv_aload_n gX gB dL_law_1233 rfl (lv_at hl 5 rfl) ?_
  refine lv_iload gX gB dL_law_1234 (lv_at hl 0 rfl) ?_
  refine lv_iconst (v := 1) gX gB dL_law_1236 (by decide) ?_
  refine lv_iadd gX gB dL_law_1237 ?_
  refine gx_topi (show ((nI i) + 1) = nI (i + 1) from nI_add i 1) ?_
  refine va_sld C.x C.b hX hbl hbA hW.2.2 (nI_in (by omega) (by omega)) dL_law_1238 ?_
  refine gx_topi (show xs (nI (i + 1)).toNatClampNeg = xs (i + 1) from by rw [nI_clamp (by omega)]) ?_
  refine lv_i2l gX gB dL_law_1239 rfl ?_
  refine lv_bipush (v := 32) gX gB dL_law_1240 (by decide) ?_
  refine lv_lshl gX gB dL_law_1242 rfl ?_
  refine lv_aload_n gX gB dL_law_1243 rfl (lv_at hl 5 rfl) ?_
  refine lv_iload gX gB dL_law_1244 (lv_at hl 0 rfl) ?_
  refine lv_iconst (v := 2) gX gB dL_law_1246 (by decide) ?_
  refine lv_iadd gX gB dL_law_1247 ?_
  refine gx_topi (show ((nI i) + 2) = nI (i + 2) from nI_add i 2) ?_
  refine va_sld C.x C.b hX hbl hbA hW.2.2 (nI_in (by omega) (by omega)) dL_law_1248 ?_
  refine gx_topi (show xs (nI (i + 2)).toNatClampNeg = xs (i + 2) from by rw [nI_clamp (by omega)]) ?_
  refine lv_i2l gX gB dL_law_1249 rfl ?_
  refine gx_ldc2 (v := 4294967295) C (tq_6 2 (by decide +kernel) rfl) dL_law_1250 ?_
  refine lv_land gX gB dL_law_1253 ?_
  refine lv_lor gX gB dL_law_1254 ?_
  refine gx_topl (show ((((xs (i + 1)).toInt64) <<< ((32 : Int32).toInt64 &&& 63)) ||| (((xs (i + 2)).toInt64) &&& 4294967295)) = sc_l xs (i + 1) from rfl) ?_
  refine lv_aload_n gX gB dL_law_1255 rfl (lv_at hl 5 rfl) ?_
  refine lv_iload gX gB dL_law_1256 (lv_at hl 0 rfl) ?_
  refine lv_iconst (v := 3) gX gB dL_law_1258 (by decide) ?_
  refine lv_iadd gX gB dL_law_1259 ?_
  refine gx_topi (show ((nI i) + 3) = nI (i + 3) from nI_add i 3) ?_
  refine va_sld C.x C.b hX hbl hbA hW.2.2 (nI_in (by omega) (by omega)) dL_law_1260 ?_
  refine gx_topi (show xs (nI (i + 3)).toNatClampNeg = xs (i + 3) from by rw [nI_clamp (by omega)]) ?_
  refine lv_i2l gX gB dL_law_1261 rfl ?_
  refine lv_bipush (v := 32) gX gB dL_law_1262 (by decide) ?_
  refine lv_lshl gX gB dL_law_1264 rfl ?_
  refine lv_aload_n gX gB dL_law_1265 rfl (lv_at hl 5 rfl) ?_
  refine lv_iload gX gB dL_law_1266 (lv_at hl 0 rfl) ?_
  refine lv_iconst (v := 4) gX gB dL_law_1268 (by decide) ?_
  refine lv_iadd gX gB dL_law_1269 ?_
  refine gx_topi (show ((nI i) + 4) = nI (i + 4) from nI_add i 4) ?_
  refine va_sld C.x C.b hX hbl hbA hW.2.2 (nI_in (by omega) (by omega)) dL_law_1270 ?_
  refine gx_topi (show xs (nI (i + 4)).toNatClampNeg = xs (i + 4) from by rw [nI_clamp (by omega)]) ?_
  refine lv_i2l gX gB dL_law_1271 rfl ?_
  refine gx_ldc2 (v := 4294967295) C (tq_6 2 (by decide +kernel) rfl) dL_law_1272 ?_
  refine lv_land gX gB dL_law_1275 ?_
  refine lv_lor gX gB dL_law_1276 ?_
  refine gx_topl (show ((((xs (i + 3)).toInt64) <<< ((32 : Int32).toInt64 &&& 63)) ||| (((xs (i + 4)).toInt64) &&& 4294967295)) = sc_l xs (i + 3) from rfl) ?_
  refine lv_aload_n gX gB dL_law_1277 rfl (lv_at hl 5 rfl) ?_
  refine lv_iload gX gB dL_law_1278 (lv_at hl 0 rfl) ?_
  refine lv_iconst (v := 5) gX gB dL_law_1280 (by decide) ?_
  refine lv_iadd gX gB dL_law_1281 ?_
  refine gx_topi (show ((nI i) + 5) = nI (i + 5) from nI_add i 5) ?_
  refine va_sld C.x C.b hX hbl hbA hW.2.2 (nI_in (by omega) (by omega)) dL_law_1282 ?_
  refine gx_topi (show xs (nI (i + 5)).toNatClampNeg = xs (i + 5) from by rw [nI_clamp (by omega)]) ?_
  refine lv_i2l gX gB dL_law_1283 rfl ?_
  refine lv_bipush (v := 32) gX gB dL_law_1284 (by decide) ?_
  refine lv_lshl gX gB dL_law_1286 rfl ?_
  refine lv_aload_n gX gB dL_law_1287 rfl (lv_at hl 5 rfl) ?_
  refine lv_iload gX gB dL_law_1288 (lv_at hl 0 rfl) ?_
  refine lv_bipush (v := 6) gX gB dL_law_1290 (by decide) ?_
  refine lv_iadd gX gB dL_law_1292 ?_
  refine gx_topi (show ((nI i) + 6) = nI (i + 6) from nI_add i 6) ?_
  refine va_sld C.x C.b hX hbl hbA hW.2.2 (nI_in (by omega) (by omega)) dL_law_1293 ?_
  refine gx_topi (show xs (nI (i + 6)).toNatClampNeg = xs (i + 6) from by rw [nI_clamp (by omega)]) ?_
  refine lv_i2l gX gB dL_law_1294 rfl ?_
  refine gx_ldc2 (v := 4294967295) C (tq_6 2 (by decide +kernel) rfl) dL_law_1295 ?_
  refine lv_land gX gB dL_law_1298 ?_
  refine lv_lor gX gB dL_law_1299 ?_
  refine gx_topl (show ((((xs (i + 5)).toInt64) <<< ((32 : Int32).toInt64 &&& 63)) ||| (((xs (i + 6)).toInt64) &&& 4294967295)) = sc_l xs (i + 5) from rfl) ?_
  refine lv_aload_n gX gB dL_law_1300 rfl (lv_at hl 5 rfl) ?_
  refine lv_iload gX gB dL_law_1301 (lv_at hl 0 rfl) ?_
  refine lv_bipush (v := 7) gX gB dL_law_1303 (by decide) ?_
  refine lv_iadd gX gB dL_law_1305 ?_
  refine gx_topi (show ((nI i) + 7) = nI (i + 7) from nI_add i 7) ?_
  refine va_sld C.x C.b hX hbl hbA hW.2.2 (nI_in (by omega) (by omega)) dL_law_1306 ?_
  refine gx_topi (show xs (nI (i + 7)).toNatClampNeg = xs (i + 7) from by rw [nI_clamp (by omega)]) ?_
  refine lv_i2l gX gB dL_law_1307 rfl ?_
  refine lv_bipush (v := 32) gX gB dL_law_1308 (by decide) ?_
  refine lv_lshl gX gB dL_law_1310 rfl ?_
  refine lv_aload_n gX gB dL_law_1311 rfl (lv_at hl 5 rfl) ?_
  refine lv_iload gX gB dL_law_1312 (lv_at hl 0 rfl) ?_
  refine lv_bipush (v := 8) gX gB dL_law_1314 (by decide) ?_
  refine lv_iadd gX gB dL_law_1316 ?_
  refine gx_topi (show ((nI i) + 8) = nI (i + 8) from nI_add i 8) ?_
  refine va_sld C.x C.b hX hbl hbA hW.2.2 (nI_in (by omega) (by omega)) dL_law_1317 ?_
  refine gx_topi (show xs (nI (i + 8)).toNatClampNeg = xs (i + 8) from by rw [nI_clamp (by omega)]) ?_
  refine lv_i2l gX gB dL_law_1318 rfl ?_
  refine gx_ldc2 (v := 4294967295) C (tq_6 2 (by decide +kernel) rfl) dL_law_1319 ?_
  refine lv_land gX gB dL_law_1322 ?_
  refine lv_lor gX gB dL_law_1323 ?_
  refine gx_topl (show ((((xs (i + 7)).toInt64) <<< ((32 : Int32).toInt64 &&& 63)) ||| (((xs (i + 8)).toInt64) &&& 4294967295)) = sc_l xs (i + 7) from rfl) ?_
  refine lv_aload gX gB dL_law_1324 (lv_at hl 1 rfl) ?_
  have hW := gx_W.toD hW
  have hW : gx_W G A s ((([(ad 0, .inr (11, [.int cd, .int (nI pa.length), .ref (ad 1), .ref (ad 2), .ref (ad 3), .ref (ad 4), .ref (ad 5), .int (nI fa.length), .ref (ad 6), .ref (ad 7), .int (nI dn), .ref (ad 8), .long ex, .long ey, .long eg, .int (nI cn), .ref (ad 9), .ref (ad 10), .int (nI n), .int at0, .int fl, .int (nI ds.length), .ref (ad 11), .ref (ad 12)])), (ad 1, .inl (G.2.1 2, 16, .inr (.inl px))), (ad 2, .inl (G.2.1 2, 16, .inr (.inl py))), (ad 3, .inl (G.2.1 2, 16, .inr (.inl pz))), (ad 4, .inl (G.2.1 2, 16, .inr (.inl gr))), (ad 5, .inl (G.2.1 2, 16, .inr (.inl ou))), (ad 6, .inl (G.2.1 2, 12, .inr (.inl fx))), (ad 7, .inl (G.2.1 2, 12, .inr (.inl fy))), (ad 8, .inl (G.2.1 1, 8, .inl od)), (ad 9, .inl (G.2.1 1, 12, .inl cr)), (ad 10, .inl (G.2.1 1, 200, .inl ty)), (ad 11, .inl (G.2.1 1, 48, .inl to_)), (ad 12, .inl (G.2.1 1, 48, .inl dr))] : va_W) ++ ([(ow, .inl (G.2.1 2, 1, .inr (.inl g)))] : va_W)) ++ (([(oD, .inl (G.2.1 4, 1, .inr (.inr (.inr (.inl gD)))))] : va_W) ++ va_pl L f)) H locs := hW
  refine gx_callSH (wr := ([(ad 0, .inr (11, [.int cd, .int (nI pa.length), .ref (ad 1), .ref (ad 2), .ref (ad 3), .ref (ad 4), .ref (ad 5), .int (nI fa.length), .ref (ad 6), .ref (ad 7), .int (nI dn), .ref (ad 8), .long ex, .long ey, .long eg, .int (nI cn), .ref (ad 9), .ref (ad 10), .int (nI n), .int at0, .int fl, .int (nI ds.length), .ref (ad 11), .ref (ad 12)])), (ad 1, .inl (G.2.1 2, 16, .inr (.inl px))), (ad 2, .inl (G.2.1 2, 16, .inr (.inl py))), (ad 3, .inl (G.2.1 2, 16, .inr (.inl pz))), (ad 4, .inl (G.2.1 2, 16, .inr (.inl gr))), (ad 5, .inl (G.2.1 2, 16, .inr (.inl ou))), (ad 6, .inl (G.2.1 2, 12, .inr (.inl fx))), (ad 7, .inl (G.2.1 2, 12, .inr (.inl fy))), (ad 8, .inl (G.2.1 1, 8, .inl od)), (ad 9, .inl (G.2.1 1, 12, .inl cr)), (ad 10, .inl (G.2.1 1, 200, .inl ty)), (ad 11, .inl (G.2.1 1, 48, .inl to_)), (ad 12, .inl (G.2.1 1, 48, .inl dr))] : va_W) ++ ([(ow, .inl (G.2.1 2, 1, .inr (.inl g)))] : va_W)) (rest := []) C hW sLH_129 (kL_wobble l G L f x _ hx fx0 oD gD (sc_l xs (i + 1)) (sc_l xs (i + 3)) (sc_l xs (i + 5)) (sc_l xs (i + 7)) _ _ (kX5_wobble l hfl G L f x P F S X N T E (nI dn) hx fx0 bF fa fd lF pF f12 (sc_l xs (i + 1)) (sc_l xs (i + 3)) (sc_l xs (i + 5)) (sc_l xs (i + 7))) (fun v u h => ⟨_, h.1⟩) (fun E u h => h.2.imp (fun z => z.1) (fun z => z.1))) rfl ⟨(by dsimp only; omega), (by dsimp only; omega)⟩ hl.1 rfl (Nat.le_of_ble_eq_true rfl) dL_law_1326 ⟨(by dsimp only; omega), (by dsimp only; omega)⟩ (fun v9 u9 H locs hp hW => ?_)
  rcases hp with ⟨r, u, hpo, rfl, rfl⟩ | ⟨u, hpx9, rfl, rfl⟩ | ⟨u, hpx9, rfl, rfl⟩
  · have hW : gx_W G A s ((([(ad 0, .inr (11, [.int cd, .int (nI pa.length), .ref (ad 1), .ref (ad 2), .ref (ad 3), .ref (ad 4), .ref (ad 5), .int (nI fa.length), .ref (ad 6), .ref (ad 7), .int (nI dn), .ref (ad 8), .long ex, .long ey, .long eg, .int (nI cn), .ref (ad 9), .ref (ad 10), .int (nI n), .int at0, .int fl, .int (nI ds.length), .ref (ad 11), .ref (ad 12)])), (ad 1, .inl (G.2.1 2, 16, .inr (.inl px))), (ad 2, .inl (G.2.1 2, 16, .inr (.inl py))), (ad 3, .inl (G.2.1 2, 16, .inr (.inl pz))), (ad 4, .inl (G.2.1 2, 16, .inr (.inl gr))), (ad 5, .inl (G.2.1 2, 16, .inr (.inl ou))), (ad 6, .inl (G.2.1 2, 12, .inr (.inl fx))), (ad 7, .inl (G.2.1 2, 12, .inr (.inl fy))), (ad 8, .inl (G.2.1 1, 8, .inl od)), (ad 9, .inl (G.2.1 1, 12, .inl cr)), (ad 10, .inl (G.2.1 1, 200, .inl ty)), (ad 11, .inl (G.2.1 1, 48, .inl to_)), (ad 12, .inl (G.2.1 1, 48, .inl dr))] : va_W) ++ ([(ow, .inl (G.2.1 2, 1, .inr (.inl g)))] : va_W)) ++ (([(oD, .inl (G.2.1 4, 1, .inr (.inr (.inr (.inl (vf_upd gD 0 r))))))] : va_W) ++ u)) H locs := hW
    have hW := gx_W.ofD hW
    have hW : gx_W G A s (((oD, .inl (G.2.1 4, 1, .inr (.inr (.inr (.inl (vf_upd gD 0 r)))))) :: ([(ad 0, .inr (11, [.int cd, .int (nI pa.length), .ref (ad 1), .ref (ad 2), .ref (ad 3), .ref (ad 4), .ref (ad 5), .int (nI fa.length), .ref (ad 6), .ref (ad 7), .int (nI dn), .ref (ad 8), .long ex, .long ey, .long eg, .int (nI cn), .ref (ad 9), .ref (ad 10), .int (nI n), .int at0, .int fl, .int (nI ds.length), .ref (ad 11), .ref (ad 12)])), (ad 1, .inl (G.2.1 2, 16, .inr (.inl px))), (ad 2, .inl (G.2.1 2, 16, .inr (.inl py))), (ad 3, .inl (G.2.1 2, 16, .inr (.inl pz))), (ad 4, .inl (G.2.1 2, 16, .inr (.inl gr))), (ad 5, .inl (G.2.1 2, 16, .inr (.inl ou))), (ad 6, .inl (G.2.1 2, 12, .inr (.inl fx))), (ad 7, .inl (G.2.1 2, 12, .inr (.inl fy))), (ad 8, .inl (G.2.1 1, 8, .inl od)), (ad 9, .inl (G.2.1 1, 12, .inl cr)), (ad 10, .inl (G.2.1 1, 200, .inl ty)), (ad 11, .inl (G.2.1 1, 48, .inl to_)), (ad 12, .inl (G.2.1 1, 48, .inl dr))] : va_W)) ++ ([(ow, .inl (G.2.1 2, 1, .inr (.inl g)))] ++ u)) H locs := hW
    refine W.eq (g2 := F0 m 1329 ls [.int 0]) rfl ?_
    refine W.widen (k := cells + 5) (n := slots + 40) (by dsimp only; omega) (by dsimp only; omega) ?_
    refine lv_istore (lv' := [(6, .int 0), (5, .int (nI i)), (4, .ref oD), (3, .ref ow), (2, .ref (ad 0)), (1, .ref x), (0, .ref b0)]) gX gB dL_law_1329 hl (by decide) rfl (fun ls hl => ?_)
    refine lv_aload_n gX gB dL_law_1331 rfl (lv_at hl 4 rfl) ?_
    refine lv_aload_n gX gB dL_law_1332 rfl (lv_at hl 6 rfl) ?_
    refine lv_iload gX gB dL_law_1333 (lv_at hl 1 rfl) ?_
    refine lv_iconst (v := 1) gX gB dL_law_1335 (by decide) ?_
    refine lv_iadd gX gB dL_law_1336 ?_
    refine gx_topi (show ((nI i) + 1) = nI (i + 1) from nI_add i 1) ?_
    refine va_sld C.x C.b hX hbl hbA hW.2.2 (nI_in (by omega) (by omega)) dL_law_1337 ?_
    refine gx_topi (show xs (nI (i + 1)).toNatClampNeg = xs (i + 1) from by rw [nI_clamp (by omega)]) ?_
    refine lv_i2l gX gB dL_law_1338 rfl ?_
    refine lv_bipush (v := 32) gX gB dL_law_1339 (by decide) ?_
    refine lv_lshl gX gB dL_law_1341 rfl ?_
    refine lv_aload_n gX gB dL_law_1342 rfl (lv_at hl 6 rfl) ?_
    refine lv_iload gX gB dL_law_1343 (lv_at hl 1 rfl) ?_
    refine lv_iconst (v := 2) gX gB dL_law_1345 (by decide) ?_
    refine lv_iadd gX gB dL_law_1346 ?_
    refine gx_topi (show ((nI i) + 2) = nI (i + 2) from nI_add i 2) ?_
    refine va_sld C.x C.b hX hbl hbA hW.2.2 (nI_in (by omega) (by omega)) dL_law_1347 ?_
    refine gx_topi (show xs (nI (i + 2)).toNatClampNeg = xs (i + 2) from by rw [nI_clamp (by omega)]) ?_
    refine lv_i2l gX gB dL_law_1348 rfl ?_
    refine gx_ldc2 (v := 4294967295) C (tq_6 2 (by decide +kernel) rfl) dL_law_1349 ?_
    refine lv_land gX gB dL_law_1352 ?_
    refine lv_lor gX gB dL_law_1353 ?_
    refine gx_topl (show ((((xs (i + 1)).toInt64) <<< ((32 : Int32).toInt64 &&& 63)) ||| (((xs (i + 2)).toInt64) &&& 4294967295)) = sc_l xs (i + 1) from rfl) ?_
    refine lv_aload_n gX gB dL_law_1354 rfl (lv_at hl 6 rfl) ?_
    refine lv_iload gX gB dL_law_1355 (lv_at hl 1 rfl) ?_
    refine lv_iconst (v := 3) gX gB dL_law_1357 (by decide) ?_
    refine lv_iadd gX gB dL_law_1358 ?_
    refine gx_topi (show ((nI i) + 3) = nI (i + 3) from nI_add i 3) ?_
    refine va_sld C.x C.b hX hbl hbA hW.2.2 (nI_in (by omega) (by omega)) dL_law_1359 ?_
    refine gx_topi (show xs (nI (i + 3)).toNatClampNeg = xs (i + 3) from by rw [nI_clamp (by omega)]) ?_
    refine lv_i2l gX gB dL_law_1360 rfl ?_
    refine lv_bipush (v := 32) gX gB dL_law_1361 (by decide) ?_
    refine lv_lshl gX gB dL_law_1363 rfl ?_
    refine lv_aload_n gX gB dL_law_1364 rfl (lv_at hl 6 rfl) ?_
    refine lv_iload gX gB dL_law_1365 (lv_at hl 1 rfl) ?_
    refine lv_iconst (v := 4) gX gB dL_law_1367 (by decide) ?_
    refine lv_iadd gX gB dL_law_1368 ?_
    refine gx_topi (show ((nI i) + 4) = nI (i + 4) from nI_add i 4) ?_
    refine va_sld C.x C.b hX hbl hbA hW.2.2 (nI_in (by omega) (by omega)) dL_law_1369 ?_
    refine gx_topi (show xs (nI (i + 4)).toNatClampNeg = xs (i + 4) from by rw [nI_clamp (by omega)]) ?_
    refine lv_i2l gX gB dL_law_1370 rfl ?_
    refine gx_ldc2 (v := 4294967295) C (tq_6 2 (by decide +kernel) rfl) dL_law_1371 ?_
    refine lv_land gX gB dL_law_1374 ?_
    refine lv_lor gX gB dL_law_1375 ?_
    refine gx_topl (show ((((xs (i + 3)).toInt64) <<< ((32 : Int32).toInt64 &&& 63)) ||| (((xs (i + 4)).toInt64) &&& 4294967295)) = sc_l xs (i + 3) from rfl) ?_
    refine lv_aload_n gX gB dL_law_1376 rfl (lv_at hl 6 rfl) ?_
    refine lv_iload gX gB dL_law_1377 (lv_at hl 1 rfl) ?_
    refine lv_iconst (v := 5) gX gB dL_law_1379 (by decide) ?_
    refine lv_iadd gX gB dL_law_1380 ?_
    refine gx_topi (show ((nI i) + 5) = nI (i + 5) from nI_add i 5) ?_
    refine va_sld C.x C.b hX hbl hbA hW.2.2 (nI_in (by omega) (by omega)) dL_law_1381 ?_
    refine gx_topi (show xs (nI (i + 5)).toNatClampNeg = xs (i + 5) from by rw [nI_clamp (by omega)]) ?_
    refine lv_i2l gX gB dL_law_1382 rfl ?_
    refine lv_bipush (v := 32) gX gB dL_law_1383 (by decide) ?_
    refine lv_lshl gX gB dL_law_1385 rfl ?_
    refine lv_aload_n gX gB dL_law_1386 rfl (lv_at hl 6 rfl) ?_
    refine lv_iload gX gB dL_law_1387 (lv_at hl 1 rfl) ?_
    refine lv_bipush (v := 6) gX gB dL_law_1389 (by decide) ?_
    refine lv_iadd gX gB dL_law_1391 ?_
    refine gx_topi (show ((nI i) + 6) = nI (i + 6) from nI_add i 6) ?_
    refine va_sld C.x C.b hX hbl hbA hW.2.2 (nI_in (by omega) (by omega)) dL_law_1392 ?_
    refine gx_topi (show xs (nI (i + 6)).toNatClampNeg = xs (i + 6) from by rw [nI_clamp (by omega)]) ?_
    refine lv_i2l gX gB dL_law_1393 rfl ?_
    refine gx_ldc2 (v := 4294967295) C (tq_6 2 (by decide +kernel) rfl) dL_law_1394 ?_
    refine lv_land gX gB dL_law_1397 ?_
    refine lv_lor gX gB dL_law_1398 ?_
    refine gx_topl (show ((((xs (i + 5)).toInt64) <<< ((32 : Int32).toInt64 &&& 63)) ||| (((xs (i + 6)).toInt64) &&& 4294967295)) = sc_l xs (i + 5) from rfl) ?_
    refine lv_aload_n gX gB dL_law_1399 rfl (lv_at hl 6 rfl) ?_
    refine lv_iload gX gB dL_law_1400 (lv_at hl 1 rfl) ?_
    refine lv_bipush (v := 7) gX gB dL_law_1402 (by decide) ?_
    refine lv_iadd gX gB dL_law_1404 ?_
    refine gx_topi (show ((nI i) + 7) = nI (i + 7) from nI_add i 7) ?_
    refine va_sld C.x C.b hX hbl hbA hW.2.2 (nI_in (by omega) (by omega)) dL_law_1405 ?_
    refine gx_topi (show xs (nI (i + 7)).toNatClampNeg = xs (i + 7) from by rw [nI_clamp (by omega)]) ?_
    refine lv_i2l gX gB dL_law_1406 rfl ?_
    refine lv_bipush (v := 32) gX gB dL_law_1407 (by decide) ?_
    refine lv_lshl gX gB dL_law_1409 rfl ?_
    refine lv_aload_n gX gB dL_law_1410 rfl (lv_at hl 6 rfl) ?_
    refine lv_iload gX gB dL_law_1411 (lv_at hl 1 rfl) ?_
    refine lv_bipush (v := 8) gX gB dL_law_1413 (by decide) ?_
    refine lv_iadd gX gB dL_law_1415 ?_
    refine gx_topi (show ((nI i) + 8) = nI (i + 8) from nI_add i 8) ?_
    refine va_sld C.x C.b hX hbl hbA hW.2.2 (nI_in (by omega) (by omega)) dL_law_1416 ?_
    refine gx_topi (show xs (nI (i + 8)).toNatClampNeg = xs (i + 8) from by rw [nI_clamp (by omega)]) ?_
    refine lv_i2l gX gB dL_law_1417 rfl ?_
    refine gx_ldc2 (v := 4294967295) C (tq_6 2 (by decide +kernel) rfl) dL_law_1418 ?_
    refine lv_land gX gB dL_law_1421 ?_
    refine lv_lor gX gB dL_law_1422 ?_
    refine gx_topl (show ((((xs (i + 7)).toInt64) <<< ((32 : Int32).toInt64 &&& 63)) ||| (((xs (i + 8)).toInt64) &&& 4294967295)) = sc_l xs (i + 7) from rfl) ?_
    have hW := gx_W.toM hW
    have hW : gx_W G A s ((([(ow, .inl (G.2.1 2, 1, .inr (.inl g)))] ++ u) ++ [(oD, .inl (G.2.1 4, 1, .inr (.inr (.inr (.inl (vf_upd gD 0 r))))))]) ++ [(ad 0, .inr (11, [.int cd, .int (nI pa.length), .ref (ad 1), .ref (ad 2), .ref (ad 3), .ref (ad 4), .ref (ad 5), .int (nI fa.length), .ref (ad 6), .ref (ad 7), .int (nI dn), .ref (ad 8), .long ex, .long ey, .long eg, .int (nI cn), .ref (ad 9), .ref (ad 10), .int (nI n), .int at0, .int fl, .int (nI ds.length), .ref (ad 11), .ref (ad 12)])), (ad 1, .inl (G.2.1 2, 16, .inr (.inl px))), (ad 2, .inl (G.2.1 2, 16, .inr (.inl py))), (ad 3, .inl (G.2.1 2, 16, .inr (.inl pz))), (ad 4, .inl (G.2.1 2, 16, .inr (.inl gr))), (ad 5, .inl (G.2.1 2, 16, .inr (.inl ou))), (ad 6, .inl (G.2.1 2, 12, .inr (.inl fx))), (ad 7, .inl (G.2.1 2, 12, .inr (.inl fy))), (ad 8, .inl (G.2.1 1, 8, .inl od)), (ad 9, .inl (G.2.1 1, 12, .inl cr)), (ad 10, .inl (G.2.1 1, 200, .inl ty)), (ad 11, .inl (G.2.1 1, 48, .inl to_)), (ad 12, .inl (G.2.1 1, 48, .inl dr))]) H locs := hW
    refine gx_callV (wr := ([(ow, .inl (G.2.1 2, 1, .inr (.inl g)))] ++ u) ++ [(oD, .inl (G.2.1 4, 1, .inr (.inr (.inr (.inl (vf_upd gD 0 r))))))]) (rest := []) C hW sL_132 (kX6_wobble l G ad cd pa.length fa.length dn cn n ds.length ex ey eg at0 fl px py pz gr ou fx fy od cr ty to_ dr (sc_l xs (i + 1)) (sc_l xs (i + 3)) (sc_l xs (i + 5)) (sc_l xs (i + 7))) ⟨0, rfl⟩ rfl rfl ⟨(by dsimp only; omega), (by dsimp only; omega)⟩ hl.1 rfl (Nat.le_of_ble_eq_true rfl) dL_law_1423 ⟨(by dsimp only; omega), (by dsimp only; omega)⟩ (fun v9 u9 H locs hm hW => ?_)
    obtain ⟨bb, rfl, hval, hout⟩ := pr_wobble_0 (ow := ow) (oD := oD) (cd := cd) (at0 := at0) (fl := fl) (dr := dr) hrl hpo hm
    obtain ⟨cd9, pn9, fn9, dn9, cn9, sn9, tn9, ex9, ey9, eg9, at9, fl9, px9, py9, pz9, gr9, ou9, fx9, fy9, od9, cr9, ty9, to9, dr9, rfl, hcd, hnew⟩ := hout
    subst hval
    have hW : gx_W G A s ((([(ow, .inl (G.2.1 2, 1, .inr (.inl g)))] ++ u) ++ [(oD, .inl (G.2.1 4, 1, .inr (.inr (.inr (.inl (vf_upd gD 0 r))))))]) ++ [(ad 0, .inr (11, [.int cd9, .int (nI pn9), .ref (ad 1), .ref (ad 2), .ref (ad 3), .ref (ad 4), .ref (ad 5), .int (nI fn9), .ref (ad 6), .ref (ad 7), .int (nI dn9), .ref (ad 8), .long ex9, .long ey9, .long eg9, .int (nI cn9), .ref (ad 9), .ref (ad 10), .int (nI sn9), .int at9, .int fl9, .int (nI tn9), .ref (ad 11), .ref (ad 12)])), (ad 1, .inl (G.2.1 2, 16, .inr (.inl px9))), (ad 2, .inl (G.2.1 2, 16, .inr (.inl py9))), (ad 3, .inl (G.2.1 2, 16, .inr (.inl pz9))), (ad 4, .inl (G.2.1 2, 16, .inr (.inl gr9))), (ad 5, .inl (G.2.1 2, 16, .inr (.inl ou9))), (ad 6, .inl (G.2.1 2, 12, .inr (.inl fx9))), (ad 7, .inl (G.2.1 2, 12, .inr (.inl fy9))), (ad 8, .inl (G.2.1 1, 8, .inl od9)), (ad 9, .inl (G.2.1 1, 12, .inl cr9)), (ad 10, .inl (G.2.1 1, 200, .inl ty9)), (ad 11, .inl (G.2.1 1, 48, .inl to9)), (ad 12, .inl (G.2.1 1, 48, .inl dr9))]) H locs := hW
    refine W.eq (g2 := F0 m 1426 ls [.double r]) rfl ?_
    refine W.widen (k := cells + 5 + 0) (n := slots + 40 + 0) (by dsimp only; omega) (by dsimp only; omega) ?_
    refine lv_dstore (lv' := [(7, .double r), (6, .int 0), (5, .int (nI i)), (4, .ref oD), (3, .ref ow), (2, .ref (ad 0)), (1, .ref x), (0, .ref b0)]) gX gB dL_law_1426 hl (by decide) rfl (fun ls hl => ?_)
    refine lv_aload_n gX gB dL_law_1428 rfl (lv_at hl 5 rfl) ?_
    refine gx_callV (wr := ([(ow, .inl (G.2.1 2, 1, .inr (.inl g)))] ++ u) ++ [(oD, .inl (G.2.1 4, 1, .inr (.inr (.inr (.inl (vf_upd gD 0 r))))))]) (rest := []) C hW sL_81 (kX6_thrown l G ad cd9 pn9 fn9 dn9 cn9 sn9 tn9 ex9 ey9 eg9 at9 fl9 px9 py9 pz9 gr9 ou9 fx9 fy9 od9 cr9 ty9 to9 dr9) ⟨0, rfl⟩ rfl rfl ⟨(by dsimp only; omega), (by dsimp only; omega)⟩ hl.1 rfl (Nat.le_of_ble_eq_true rfl) dL_law_1429 ⟨(by dsimp only; omega), (by dsimp only; omega)⟩ (fun v9 u9 H locs hp hW => ?_)
    obtain ⟨rfl, rfl⟩ := hp
    have hW : gx_W G A s ((([(ow, .inl (G.2.1 2, 1, .inr (.inl g)))] ++ u) ++ [(oD, .inl (G.2.1 4, 1, .inr (.inr (.inr (.inl (vf_upd gD 0 r))))))]) ++ [(ad 0, .inr (11, [.int cd9, .int (nI pn9), .ref (ad 1), .ref (ad 2), .ref (ad 3), .ref (ad 4), .ref (ad 5), .int (nI fn9), .ref (ad 6), .ref (ad 7), .int (nI dn9), .ref (ad 8), .long ex9, .long ey9, .long eg9, .int (nI cn9), .ref (ad 9), .ref (ad 10), .int (nI sn9), .int at9, .int fl9, .int (nI tn9), .ref (ad 11), .ref (ad 12)])), (ad 1, .inl (G.2.1 2, 16, .inr (.inl px9))), (ad 2, .inl (G.2.1 2, 16, .inr (.inl py9))), (ad 3, .inl (G.2.1 2, 16, .inr (.inl pz9))), (ad 4, .inl (G.2.1 2, 16, .inr (.inl gr9))), (ad 5, .inl (G.2.1 2, 16, .inr (.inl ou9))), (ad 6, .inl (G.2.1 2, 12, .inr (.inl fx9))), (ad 7, .inl (G.2.1 2, 12, .inr (.inl fy9))), (ad 8, .inl (G.2.1 1, 8, .inl od9)), (ad 9, .inl (G.2.1 1, 12, .inl cr9)), (ad 10, .inl (G.2.1 1, 200, .inl ty9)), (ad 11, .inl (G.2.1 1, 48, .inl to9)), (ad 12, .inl (G.2.1 1, 48, .inl dr9))]) H locs := hW
    have hW := gx_W.ofM hW
    have hW : gx_W G A s (((oD, .inl (G.2.1 4, 1, .inr (.inr (.inr (.inl (vf_upd gD 0 r)))))) :: [(ad 0, .inr (11, [.int cd9, .int (nI pn9), .ref (ad 1), .ref (ad 2), .ref (ad 3), .ref (ad 4), .ref (ad 5), .int (nI fn9), .ref (ad 6), .ref (ad 7), .int (nI dn9), .ref (ad 8), .long ex9, .long ey9, .long eg9, .int (nI cn9), .ref (ad 9), .ref (ad 10), .int (nI sn9), .int at9, .int fl9, .int (nI tn9), .ref (ad 11), .ref (ad 12)])), (ad 1, .inl (G.2.1 2, 16, .inr (.inl px9))), (ad 2, .inl (G.2.1 2, 16, .inr (.inl py9))), (ad 3, .inl (G.2.1 2, 16, .inr (.inl pz9))), (ad 4, .inl (G.2.1 2, 16, .inr (.inl gr9))), (ad 5, .inl (G.2.1 2, 16, .inr (.inl ou9))), (ad 6, .inl (G.2.1 2, 12, .inr (.inl fx9))), (ad 7, .inl (G.2.1 2, 12, .inr (.inl fy9))), (ad 8, .inl (G.2.1 1, 8, .inl od9)), (ad 9, .inl (G.2.1 1, 12, .inl cr9)), (ad 10, .inl (G.2.1 1, 200, .inl ty9)), (ad 11, .inl (G.2.1 1, 48, .inl to9)), (ad 12, .inl (G.2.1 1, 48, .inl dr9))]) ++ ([(ow, .inl (G.2.1 2, 1, .inr (.inl g)))] ++ u)) H locs := hW
    refine W.eq (g2 := F0 m 1432 ls [.int cd9]) rfl ?_
    refine W.widen (k := cells + 5 + 0 + 0) (n := slots + 40 + 0 + 0) (by dsimp only; omega) (by dsimp only; omega) ?_
    refine lv_iload gX gB dL_law_1432 (lv_at hl 1 rfl) ?_
    refine lv_icmp_eq (tgt := 1439) gX gB dL_law_1434 (by decide) (fun _ => ?_) (fun h9 => absurd (show cd9 = (0 : Int32) from hcd) h9)
    refine lv_iload gX gB dL_law_1439 (lv_at hl 1 rfl) ?_
    refine lv_if_ne (tgt := 1476) gX gB dL_law_1441 (by decide) (fun h9 => absurd (show ¬ 0 = (0 : Int32) from h9) (by decide)) (fun _ => ?_)
    refine lv_aload gX gB dL_law_1444 (lv_at hl 3 rfl) ?_
    refine lv_iconst (v := 0) gX gB dL_law_1446 (by decide) ?_
    refine gx_dald C hW (a := oD) (g := vf_upd gD 0 r) (j := 0) ⟨0, rfl⟩ rfl (by decide) (by decide) dL_law_1447 ?_
    refine W.eq (g2 := F0 m 1448 ls [.double r]) rfl ?_
    refine lv_dload gX gB dL_law_1448 (lv_at hl 0 rfl) ?_
    refine lv_dcmp gX gB dL_law_1450 ?_
    refine lv_if_eq (tgt := 1476) gX gB dL_law_1451 (by decide) (fun c1451 => ?_) (fun c1451 => ?_)
    · refine lv_goto (tgt := 1766) gX gB dL_law_1476 (by decide) ?_
      refine W.widen (k := cells + 64) (n := slots + 2000) (by omega) (by omega) ?_
      exact kk _ _ _ _ (hnew _ _) hW (lv_sub hl [2, 3, 4, 5, 6, 7] rfl)
    · refine lv_aload gX gB dL_law_1454 (lv_at hl 3 rfl) ?_
      refine lv_iconst (v := 0) gX gB dL_law_1456 (by decide) ?_
      refine gx_dald C hW (a := oD) (g := vf_upd gD 0 r) (j := 0) ⟨0, rfl⟩ rfl (by decide) (by decide) dL_law_1457 ?_
      refine W.eq (g2 := F0 m 1458 ls [.double r]) rfl ?_
      refine lv_aload gX gB dL_law_1458 (lv_at hl 3 rfl) ?_
      refine lv_iconst (v := 0) gX gB dL_law_1460 (by decide) ?_
      refine gx_dald C hW (a := oD) (g := vf_upd gD 0 r) (j := 0) ⟨0, rfl⟩ rfl (by decide) (by decide) dL_law_1461 ?_
      refine W.eq (g2 := F0 m 1462 ls [.double r, .double r]) rfl ?_
      refine lv_dcmp gX gB dL_law_1462 ?_
      refine lv_if_eq (tgt := 1474) gX gB dL_law_1463 (by decide) (fun h9 => absurd (show (Op.cmpValue (FP.dcmp r r) CmpOp.l) = (0 : Int32) from h9) (c1451)) (fun _ => ?_)
      refine lv_dload gX gB dL_law_1466 (lv_at hl 0 rfl) ?_
      refine lv_dload gX gB dL_law_1468 (lv_at hl 0 rfl) ?_
      refine lv_dcmp gX gB dL_law_1470 ?_
      refine lv_if_ne (tgt := 1476) gX gB dL_law_1471 (by decide) (fun _ => ?_) (fun h9 => absurd h9 (show ¬ (Op.cmpValue (FP.dcmp r r) CmpOp.l) = (0 : Int32) from c1451))
      refine lv_goto (tgt := 1766) gX gB dL_law_1476 (by decide) ?_
      refine W.widen (k := cells + 64) (n := slots + 2000) (by omega) (by omega) ?_
      exact kk _ _ _ _ (hnew _ _) hW (lv_sub hl [2, 3, 4, 5, 6, 7] rfl)
  · have hW : gx_W G A s ((([(ad 0, .inr (11, [.int cd, .int (nI pa.length), .ref (ad 1), .ref (ad 2), .ref (ad 3), .ref (ad 4), .ref (ad 5), .int (nI fa.length), .ref (ad 6), .ref (ad 7), .int (nI dn), .ref (ad 8), .long ex, .long ey, .long eg, .int (nI cn), .ref (ad 9), .ref (ad 10), .int (nI n), .int at0, .int fl, .int (nI ds.length), .ref (ad 11), .ref (ad 12)])), (ad 1, .inl (G.2.1 2, 16, .inr (.inl px))), (ad 2, .inl (G.2.1 2, 16, .inr (.inl py))), (ad 3, .inl (G.2.1 2, 16, .inr (.inl pz))), (ad 4, .inl (G.2.1 2, 16, .inr (.inl gr))), (ad 5, .inl (G.2.1 2, 16, .inr (.inl ou))), (ad 6, .inl (G.2.1 2, 12, .inr (.inl fx))), (ad 7, .inl (G.2.1 2, 12, .inr (.inl fy))), (ad 8, .inl (G.2.1 1, 8, .inl od)), (ad 9, .inl (G.2.1 1, 12, .inl cr)), (ad 10, .inl (G.2.1 1, 200, .inl ty)), (ad 11, .inl (G.2.1 1, 48, .inl to_)), (ad 12, .inl (G.2.1 1, 48, .inl dr))] : va_W) ++ ([(ow, .inl (G.2.1 2, 1, .inr (.inl g)))] : va_W)) ++ (([(oD, .inl (G.2.1 4, 1, .inr (.inr (.inr (.inl gD)))))] : va_W) ++ u)) H locs := hW
    have hW := gx_W.ofD hW
    have hW : gx_W G A s (((oD, .inl (G.2.1 4, 1, .inr (.inr (.inr (.inl gD))))) :: ([(ad 0, .inr (11, [.int cd, .int (nI pa.length), .ref (ad 1), .ref (ad 2), .ref (ad 3), .ref (ad 4), .ref (ad 5), .int (nI fa.length), .ref (ad 6), .ref (ad 7), .int (nI dn), .ref (ad 8), .long ex, .long ey, .long eg, .int (nI cn), .ref (ad 9), .ref (ad 10), .int (nI n), .int at0, .int fl, .int (nI ds.length), .ref (ad 11), .ref (ad 12)])), (ad 1, .inl (G.2.1 2, 16, .inr (.inl px))), (ad 2, .inl (G.2.1 2, 16, .inr (.inl py))), (ad 3, .inl (G.2.1 2, 16, .inr (.inl pz))), (ad 4, .inl (G.2.1 2, 16, .inr (.inl gr))), (ad 5, .inl (G.2.1 2, 16, .inr (.inl ou))), (ad 6, .inl (G.2.1 2, 12, .inr (.inl fx))), (ad 7, .inl (G.2.1 2, 12, .inr (.inl fy))), (ad 8, .inl (G.2.1 1, 8, .inl od)), (ad 9, .inl (G.2.1 1, 12, .inl cr)), (ad 10, .inl (G.2.1 1, 200, .inl ty)), (ad 11, .inl (G.2.1 1, 48, .inl to_)), (ad 12, .inl (G.2.1 1, 48, .inl dr))] : va_W)) ++ ([(ow, .inl (G.2.1 2, 1, .inr (.inl g)))] ++ u)) H locs := hW
    refine W.eq (g2 := F0 m 1329 ls [.int 1]) rfl ?_
    refine W.widen (k := cells + 5) (n := slots + 40) (by dsimp only; omega) (by dsimp only; omega) ?_
    refine lv_istore (lv' := [(6, .int 1), (5, .int (nI i)), (4, .ref oD), (3, .ref ow), (2, .ref (ad 0)), (1, .ref x), (0, .ref b0)]) gX gB dL_law_1329 hl (by decide) rfl (fun ls hl => ?_)
    refine lv_aload_n gX gB dL_law_1331 rfl (lv_at hl 4 rfl) ?_
    refine lv_aload_n gX gB dL_law_1332 rfl (lv_at hl 6 rfl) ?_
    refine lv_iload gX gB dL_law_1333 (lv_at hl 1 rfl) ?_
    refine lv_iconst (v := 1) gX gB dL_law_1335 (by decide) ?_
    refine lv_iadd gX gB dL_law_1336 ?_
    refine gx_topi (show ((nI i) + 1) = nI (i + 1) from nI_add i 1) ?_
    refine va_sld C.x C.b hX hbl hbA hW.2.2 (nI_in (by omega) (by omega)) dL_law_1337 ?_
    refine gx_topi (show xs (nI (i + 1)).toNatClampNeg = xs (i + 1) from by rw [nI_clamp (by omega)]) ?_
    refine lv_i2l gX gB dL_law_1338 rfl ?_
    refine lv_bipush (v := 32) gX gB dL_law_1339 (by decide) ?_
    refine lv_lshl gX gB dL_law_1341 rfl ?_
    refine lv_aload_n gX gB dL_law_1342 rfl (lv_at hl 6 rfl) ?_
    refine lv_iload gX gB dL_law_1343 (lv_at hl 1 rfl) ?_
    refine lv_iconst (v := 2) gX gB dL_law_1345 (by decide) ?_
    refine lv_iadd gX gB dL_law_1346 ?_
    refine gx_topi (show ((nI i) + 2) = nI (i + 2) from nI_add i 2) ?_
    refine va_sld C.x C.b hX hbl hbA hW.2.2 (nI_in (by omega) (by omega)) dL_law_1347 ?_
    refine gx_topi (show xs (nI (i + 2)).toNatClampNeg = xs (i + 2) from by rw [nI_clamp (by omega)]) ?_
    refine lv_i2l gX gB dL_law_1348 rfl ?_
    refine gx_ldc2 (v := 4294967295) C (tq_6 2 (by decide +kernel) rfl) dL_law_1349 ?_
    refine lv_land gX gB dL_law_1352 ?_
    refine lv_lor gX gB dL_law_1353 ?_
    refine gx_topl (show ((((xs (i + 1)).toInt64) <<< ((32 : Int32).toInt64 &&& 63)) ||| (((xs (i + 2)).toInt64) &&& 4294967295)) = sc_l xs (i + 1) from rfl) ?_
    refine lv_aload_n gX gB dL_law_1354 rfl (lv_at hl 6 rfl) ?_
    refine lv_iload gX gB dL_law_1355 (lv_at hl 1 rfl) ?_
    refine lv_iconst (v := 3) gX gB dL_law_1357 (by decide) ?_
    refine lv_iadd gX gB dL_law_1358 ?_
    refine gx_topi (show ((nI i) + 3) = nI (i + 3) from nI_add i 3) ?_
    refine va_sld C.x C.b hX hbl hbA hW.2.2 (nI_in (by omega) (by omega)) dL_law_1359 ?_
    refine gx_topi (show xs (nI (i + 3)).toNatClampNeg = xs (i + 3) from by rw [nI_clamp (by omega)]) ?_
    refine lv_i2l gX gB dL_law_1360 rfl ?_
    refine lv_bipush (v := 32) gX gB dL_law_1361 (by decide) ?_
    refine lv_lshl gX gB dL_law_1363 rfl ?_
    refine lv_aload_n gX gB dL_law_1364 rfl (lv_at hl 6 rfl) ?_
    refine lv_iload gX gB dL_law_1365 (lv_at hl 1 rfl) ?_
    refine lv_iconst (v := 4) gX gB dL_law_1367 (by decide) ?_
    refine lv_iadd gX gB dL_law_1368 ?_
    refine gx_topi (show ((nI i) + 4) = nI (i + 4) from nI_add i 4) ?_
    refine va_sld C.x C.b hX hbl hbA hW.2.2 (nI_in (by omega) (by omega)) dL_law_1369 ?_
    refine gx_topi (show xs (nI (i + 4)).toNatClampNeg = xs (i + 4) from by rw [nI_clamp (by omega)]) ?_
    refine lv_i2l gX gB dL_law_1370 rfl ?_
    refine gx_ldc2 (v := 4294967295) C (tq_6 2 (by decide +kernel) rfl) dL_law_1371 ?_
    refine lv_land gX gB dL_law_1374 ?_
    refine lv_lor gX gB dL_law_1375 ?_
    refine gx_topl (show ((((xs (i + 3)).toInt64) <<< ((32 : Int32).toInt64 &&& 63)) ||| (((xs (i + 4)).toInt64) &&& 4294967295)) = sc_l xs (i + 3) from rfl) ?_
    refine lv_aload_n gX gB dL_law_1376 rfl (lv_at hl 6 rfl) ?_
    refine lv_iload gX gB dL_law_1377 (lv_at hl 1 rfl) ?_
    refine lv_iconst (v := 5) gX gB dL_law_1379 (by decide) ?_
    refine lv_iadd gX gB dL_law_1380 ?_
    refine gx_topi (show ((nI i) + 5) = nI (i + 5) from nI_add i 5) ?_
    refine va_sld C.x C.b hX hbl hbA hW.2.2 (nI_in (by omega) (by omega)) dL_law_1381 ?_
    refine gx_topi (show xs (nI (i + 5)).toNatClampNeg = xs (i + 5) from by rw [nI_clamp (by omega)]) ?_
    refine lv_i2l gX gB dL_law_1382 rfl ?_
    refine lv_bipush (v := 32) gX gB dL_law_1383 (by decide) ?_
    refine lv_lshl gX gB dL_law_1385 rfl ?_
    refine lv_aload_n gX gB dL_law_1386 rfl (lv_at hl 6 rfl) ?_
    refine lv_iload gX gB dL_law_1387 (lv_at hl 1 rfl) ?_
    refine lv_bipush (v := 6) gX gB dL_law_1389 (by decide) ?_
    refine lv_iadd gX gB dL_law_1391 ?_
    refine gx_topi (show ((nI i) + 6) = nI (i + 6) from nI_add i 6) ?_
    refine va_sld C.x C.b hX hbl hbA hW.2.2 (nI_in (by omega) (by omega)) dL_law_1392 ?_
    refine gx_topi (show xs (nI (i + 6)).toNatClampNeg = xs (i + 6) from by rw [nI_clamp (by omega)]) ?_
    refine lv_i2l gX gB dL_law_1393 rfl ?_
    refine gx_ldc2 (v := 4294967295) C (tq_6 2 (by decide +kernel) rfl) dL_law_1394 ?_
    refine lv_land gX gB dL_law_1397 ?_
    refine lv_lor gX gB dL_law_1398 ?_
    refine gx_topl (show ((((xs (i + 5)).toInt64) <<< ((32 : Int32).toInt64 &&& 63)) ||| (((xs (i + 6)).toInt64) &&& 4294967295)) = sc_l xs (i + 5) from rfl) ?_
    refine lv_aload_n gX gB dL_law_1399 rfl (lv_at hl 6 rfl) ?_
    refine lv_iload gX gB dL_law_1400 (lv_at hl 1 rfl) ?_
    refine lv_bipush (v := 7) gX gB dL_law_1402 (by decide) ?_
    refine lv_iadd gX gB dL_law_1404 ?_
    refine gx_topi (show ((nI i) + 7) = nI (i + 7) from nI_add i 7) ?_
    refine va_sld C.x C.b hX hbl hbA hW.2.2 (nI_in (by omega) (by omega)) dL_law_1405 ?_
    refine gx_topi (show xs (nI (i + 7)).toNatClampNeg = xs (i + 7) from by rw [nI_clamp (by omega)]) ?_
    refine lv_i2l gX gB dL_law_1406 rfl ?_
    refine lv_bipush (v := 32) gX gB dL_law_1407 (by decide) ?_
    refine lv_lshl gX gB dL_law_1409 rfl ?_
    refine lv_aload_n gX gB dL_law_1410 rfl (lv_at hl 6 rfl) ?_
    refine lv_iload gX gB dL_law_1411 (lv_at hl 1 rfl) ?_
    refine lv_bipush (v := 8) gX gB dL_law_1413 (by decide) ?_
    refine lv_iadd gX gB dL_law_1415 ?_
    refine gx_topi (show ((nI i) + 8) = nI (i + 8) from nI_add i 8) ?_
    refine va_sld C.x C.b hX hbl hbA hW.2.2 (nI_in (by omega) (by omega)) dL_law_1416 ?_
    refine gx_topi (show xs (nI (i + 8)).toNatClampNeg = xs (i + 8) from by rw [nI_clamp (by omega)]) ?_
    refine lv_i2l gX gB dL_law_1417 rfl ?_
    refine gx_ldc2 (v := 4294967295) C (tq_6 2 (by decide +kernel) rfl) dL_law_1418 ?_
    refine lv_land gX gB dL_law_1421 ?_
    refine lv_lor gX gB dL_law_1422 ?_
    refine gx_topl (show ((((xs (i + 7)).toInt64) <<< ((32 : Int32).toInt64 &&& 63)) ||| (((xs (i + 8)).toInt64) &&& 4294967295)) = sc_l xs (i + 7) from rfl) ?_
    have hW := gx_W.toM hW
    have hW : gx_W G A s ((([(ow, .inl (G.2.1 2, 1, .inr (.inl g)))] ++ u) ++ [(oD, .inl (G.2.1 4, 1, .inr (.inr (.inr (.inl gD)))))]) ++ [(ad 0, .inr (11, [.int cd, .int (nI pa.length), .ref (ad 1), .ref (ad 2), .ref (ad 3), .ref (ad 4), .ref (ad 5), .int (nI fa.length), .ref (ad 6), .ref (ad 7), .int (nI dn), .ref (ad 8), .long ex, .long ey, .long eg, .int (nI cn), .ref (ad 9), .ref (ad 10), .int (nI n), .int at0, .int fl, .int (nI ds.length), .ref (ad 11), .ref (ad 12)])), (ad 1, .inl (G.2.1 2, 16, .inr (.inl px))), (ad 2, .inl (G.2.1 2, 16, .inr (.inl py))), (ad 3, .inl (G.2.1 2, 16, .inr (.inl pz))), (ad 4, .inl (G.2.1 2, 16, .inr (.inl gr))), (ad 5, .inl (G.2.1 2, 16, .inr (.inl ou))), (ad 6, .inl (G.2.1 2, 12, .inr (.inl fx))), (ad 7, .inl (G.2.1 2, 12, .inr (.inl fy))), (ad 8, .inl (G.2.1 1, 8, .inl od)), (ad 9, .inl (G.2.1 1, 12, .inl cr)), (ad 10, .inl (G.2.1 1, 200, .inl ty)), (ad 11, .inl (G.2.1 1, 48, .inl to_)), (ad 12, .inl (G.2.1 1, 48, .inl dr))]) H locs := hW
    refine gx_callV (wr := ([(ow, .inl (G.2.1 2, 1, .inr (.inl g)))] ++ u) ++ [(oD, .inl (G.2.1 4, 1, .inr (.inr (.inr (.inl gD)))))]) (rest := []) C hW sL_132 (kX6_wobble l G ad cd pa.length fa.length dn cn n ds.length ex ey eg at0 fl px py pz gr ou fx fy od cr ty to_ dr (sc_l xs (i + 1)) (sc_l xs (i + 3)) (sc_l xs (i + 5)) (sc_l xs (i + 7))) ⟨0, rfl⟩ rfl rfl ⟨(by dsimp only; omega), (by dsimp only; omega)⟩ hl.1 rfl (Nat.le_of_ble_eq_true rfl) dL_law_1423 ⟨(by dsimp only; omega), (by dsimp only; omega)⟩ (fun v9 u9 H locs hm hW => ?_)
    obtain ⟨bb, rfl, hval, hout⟩ := pr_wobble_1 (ow := ow) (oD := oD) (cd := cd) (at0 := at0) (fl := fl) (dr := dr) hrl hpx9 hm
    obtain ⟨cd9, pn9, fn9, dn9, cn9, sn9, tn9, ex9, ey9, eg9, at9, fl9, px9, py9, pz9, gr9, ou9, fx9, fy9, od9, cr9, ty9, to9, dr9, rfl, hcd, hnew⟩ := hout
    have hW : gx_W G A s ((([(ow, .inl (G.2.1 2, 1, .inr (.inl g)))] ++ u) ++ [(oD, .inl (G.2.1 4, 1, .inr (.inr (.inr (.inl gD)))))]) ++ [(ad 0, .inr (11, [.int cd9, .int (nI pn9), .ref (ad 1), .ref (ad 2), .ref (ad 3), .ref (ad 4), .ref (ad 5), .int (nI fn9), .ref (ad 6), .ref (ad 7), .int (nI dn9), .ref (ad 8), .long ex9, .long ey9, .long eg9, .int (nI cn9), .ref (ad 9), .ref (ad 10), .int (nI sn9), .int at9, .int fl9, .int (nI tn9), .ref (ad 11), .ref (ad 12)])), (ad 1, .inl (G.2.1 2, 16, .inr (.inl px9))), (ad 2, .inl (G.2.1 2, 16, .inr (.inl py9))), (ad 3, .inl (G.2.1 2, 16, .inr (.inl pz9))), (ad 4, .inl (G.2.1 2, 16, .inr (.inl gr9))), (ad 5, .inl (G.2.1 2, 16, .inr (.inl ou9))), (ad 6, .inl (G.2.1 2, 12, .inr (.inl fx9))), (ad 7, .inl (G.2.1 2, 12, .inr (.inl fy9))), (ad 8, .inl (G.2.1 1, 8, .inl od9)), (ad 9, .inl (G.2.1 1, 12, .inl cr9)), (ad 10, .inl (G.2.1 1, 200, .inl ty9)), (ad 11, .inl (G.2.1 1, 48, .inl to9)), (ad 12, .inl (G.2.1 1, 48, .inl dr9))]) H locs := hW
    refine W.eq (g2 := F0 m 1426 ls [.double bb]) rfl ?_
    refine W.widen (k := cells + 5 + 0) (n := slots + 40 + 0) (by dsimp only; omega) (by dsimp only; omega) ?_
    refine lv_dstore (lv' := [(7, .double bb), (6, .int 1), (5, .int (nI i)), (4, .ref oD), (3, .ref ow), (2, .ref (ad 0)), (1, .ref x), (0, .ref b0)]) gX gB dL_law_1426 hl (by decide) rfl (fun ls hl => ?_)
    refine lv_aload_n gX gB dL_law_1428 rfl (lv_at hl 5 rfl) ?_
    refine gx_callV (wr := ([(ow, .inl (G.2.1 2, 1, .inr (.inl g)))] ++ u) ++ [(oD, .inl (G.2.1 4, 1, .inr (.inr (.inr (.inl gD)))))]) (rest := []) C hW sL_81 (kX6_thrown l G ad cd9 pn9 fn9 dn9 cn9 sn9 tn9 ex9 ey9 eg9 at9 fl9 px9 py9 pz9 gr9 ou9 fx9 fy9 od9 cr9 ty9 to9 dr9) ⟨0, rfl⟩ rfl rfl ⟨(by dsimp only; omega), (by dsimp only; omega)⟩ hl.1 rfl (Nat.le_of_ble_eq_true rfl) dL_law_1429 ⟨(by dsimp only; omega), (by dsimp only; omega)⟩ (fun v9 u9 H locs hp hW => ?_)
    obtain ⟨rfl, rfl⟩ := hp
    have hW : gx_W G A s ((([(ow, .inl (G.2.1 2, 1, .inr (.inl g)))] ++ u) ++ [(oD, .inl (G.2.1 4, 1, .inr (.inr (.inr (.inl gD)))))]) ++ [(ad 0, .inr (11, [.int cd9, .int (nI pn9), .ref (ad 1), .ref (ad 2), .ref (ad 3), .ref (ad 4), .ref (ad 5), .int (nI fn9), .ref (ad 6), .ref (ad 7), .int (nI dn9), .ref (ad 8), .long ex9, .long ey9, .long eg9, .int (nI cn9), .ref (ad 9), .ref (ad 10), .int (nI sn9), .int at9, .int fl9, .int (nI tn9), .ref (ad 11), .ref (ad 12)])), (ad 1, .inl (G.2.1 2, 16, .inr (.inl px9))), (ad 2, .inl (G.2.1 2, 16, .inr (.inl py9))), (ad 3, .inl (G.2.1 2, 16, .inr (.inl pz9))), (ad 4, .inl (G.2.1 2, 16, .inr (.inl gr9))), (ad 5, .inl (G.2.1 2, 16, .inr (.inl ou9))), (ad 6, .inl (G.2.1 2, 12, .inr (.inl fx9))), (ad 7, .inl (G.2.1 2, 12, .inr (.inl fy9))), (ad 8, .inl (G.2.1 1, 8, .inl od9)), (ad 9, .inl (G.2.1 1, 12, .inl cr9)), (ad 10, .inl (G.2.1 1, 200, .inl ty9)), (ad 11, .inl (G.2.1 1, 48, .inl to9)), (ad 12, .inl (G.2.1 1, 48, .inl dr9))]) H locs := hW
    have hW := gx_W.ofM hW
    have hW : gx_W G A s (((oD, .inl (G.2.1 4, 1, .inr (.inr (.inr (.inl gD))))) :: [(ad 0, .inr (11, [.int cd9, .int (nI pn9), .ref (ad 1), .ref (ad 2), .ref (ad 3), .ref (ad 4), .ref (ad 5), .int (nI fn9), .ref (ad 6), .ref (ad 7), .int (nI dn9), .ref (ad 8), .long ex9, .long ey9, .long eg9, .int (nI cn9), .ref (ad 9), .ref (ad 10), .int (nI sn9), .int at9, .int fl9, .int (nI tn9), .ref (ad 11), .ref (ad 12)])), (ad 1, .inl (G.2.1 2, 16, .inr (.inl px9))), (ad 2, .inl (G.2.1 2, 16, .inr (.inl py9))), (ad 3, .inl (G.2.1 2, 16, .inr (.inl pz9))), (ad 4, .inl (G.2.1 2, 16, .inr (.inl gr9))), (ad 5, .inl (G.2.1 2, 16, .inr (.inl ou9))), (ad 6, .inl (G.2.1 2, 12, .inr (.inl fx9))), (ad 7, .inl (G.2.1 2, 12, .inr (.inl fy9))), (ad 8, .inl (G.2.1 1, 8, .inl od9)), (ad 9, .inl (G.2.1 1, 12, .inl cr9)), (ad 10, .inl (G.2.1 1, 200, .inl ty9)), (ad 11, .inl (G.2.1 1, 48, .inl to9)), (ad 12, .inl (G.2.1 1, 48, .inl dr9))]) ++ ([(ow, .inl (G.2.1 2, 1, .inr (.inl g)))] ++ u)) H locs := hW
    refine W.eq (g2 := F0 m 1432 ls [.int cd9]) rfl ?_
    refine W.widen (k := cells + 5 + 0 + 0) (n := slots + 40 + 0 + 0) (by dsimp only; omega) (by dsimp only; omega) ?_
    refine lv_iload gX gB dL_law_1432 (lv_at hl 1 rfl) ?_
    refine lv_icmp_eq (tgt := 1439) gX gB dL_law_1434 (by decide) (fun _ => ?_) (fun h9 => absurd (show cd9 = (1 : Int32) from hcd) h9)
    refine lv_iload gX gB dL_law_1439 (lv_at hl 1 rfl) ?_
    refine lv_if_ne (tgt := 1476) gX gB dL_law_1441 (by decide) (fun _ => ?_) (fun h9 => absurd h9 (show ¬ 1 = (0 : Int32) from by decide))
    refine lv_goto (tgt := 1766) gX gB dL_law_1476 (by decide) ?_
    refine W.widen (k := cells + 64) (n := slots + 2000) (by omega) (by omega) ?_
    exact kk _ _ _ _ (hnew _ _) hW (lv_sub hl [2, 3, 4, 5, 6, 7] rfl)
  · have hW : gx_W G A s ((([(ad 0, .inr (11, [.int cd, .int (nI pa.length), .ref (ad 1), .ref (ad 2), .ref (ad 3), .ref (ad 4), .ref (ad 5), .int (nI fa.length), .ref (ad 6), .ref (ad 7), .int (nI dn), .ref (ad 8), .long ex, .long ey, .long eg, .int (nI cn), .ref (ad 9), .ref (ad 10), .int (nI n), .int at0, .int fl, .int (nI ds.length), .ref (ad 11), .ref (ad 12)])), (ad 1, .inl (G.2.1 2, 16, .inr (.inl px))), (ad 2, .inl (G.2.1 2, 16, .inr (.inl py))), (ad 3, .inl (G.2.1 2, 16, .inr (.inl pz))), (ad 4, .inl (G.2.1 2, 16, .inr (.inl gr))), (ad 5, .inl (G.2.1 2, 16, .inr (.inl ou))), (ad 6, .inl (G.2.1 2, 12, .inr (.inl fx))), (ad 7, .inl (G.2.1 2, 12, .inr (.inl fy))), (ad 8, .inl (G.2.1 1, 8, .inl od)), (ad 9, .inl (G.2.1 1, 12, .inl cr)), (ad 10, .inl (G.2.1 1, 200, .inl ty)), (ad 11, .inl (G.2.1 1, 48, .inl to_)), (ad 12, .inl (G.2.1 1, 48, .inl dr))] : va_W) ++ ([(ow, .inl (G.2.1 2, 1, .inr (.inl g)))] : va_W)) ++ (([(oD, .inl (G.2.1 4, 1, .inr (.inr (.inr (.inl gD)))))] : va_W) ++ u)) H locs := hW
    have hW := gx_W.ofD hW
    have hW : gx_W G A s (((oD, .inl (G.2.1 4, 1, .inr (.inr (.inr (.inl gD))))) :: ([(ad 0, .inr (11, [.int cd, .int (nI pa.length), .ref (ad 1), .ref (ad 2), .ref (ad 3), .ref (ad 4), .ref (ad 5), .int (nI fa.length), .ref (ad 6), .ref (ad 7), .int (nI dn), .ref (ad 8), .long ex, .long ey, .long eg, .int (nI cn), .ref (ad 9), .ref (ad 10), .int (nI n), .int at0, .int fl, .int (nI ds.length), .ref (ad 11), .ref (ad 12)])), (ad 1, .inl (G.2.1 2, 16, .inr (.inl px))), (ad 2, .inl (G.2.1 2, 16, .inr (.inl py))), (ad 3, .inl (G.2.1 2, 16, .inr (.inl pz))), (ad 4, .inl (G.2.1 2, 16, .inr (.inl gr))), (ad 5, .inl (G.2.1 2, 16, .inr (.inl ou))), (ad 6, .inl (G.2.1 2, 12, .inr (.inl fx))), (ad 7, .inl (G.2.1 2, 12, .inr (.inl fy))), (ad 8, .inl (G.2.1 1, 8, .inl od)), (ad 9, .inl (G.2.1 1, 12, .inl cr)), (ad 10, .inl (G.2.1 1, 200, .inl ty)), (ad 11, .inl (G.2.1 1, 48, .inl to_)), (ad 12, .inl (G.2.1 1, 48, .inl dr))] : va_W)) ++ ([(ow, .inl (G.2.1 2, 1, .inr (.inl g)))] ++ u)) H locs := hW
    refine W.eq (g2 := F0 m 1329 ls [.int 2]) rfl ?_
    refine W.widen (k := cells + 5) (n := slots + 40) (by dsimp only; omega) (by dsimp only; omega) ?_
    refine lv_istore (lv' := [(6, .int 2), (5, .int (nI i)), (4, .ref oD), (3, .ref ow), (2, .ref (ad 0)), (1, .ref x), (0, .ref b0)]) gX gB dL_law_1329 hl (by decide) rfl (fun ls hl => ?_)
    refine lv_aload_n gX gB dL_law_1331 rfl (lv_at hl 4 rfl) ?_
    refine lv_aload_n gX gB dL_law_1332 rfl (lv_at hl 6 rfl) ?_
    refine lv_iload gX gB dL_law_1333 (lv_at hl 1 rfl) ?_
    refine lv_iconst (v := 1) gX gB dL_law_1335 (by decide) ?_
    refine lv_iadd gX gB dL_law_1336 ?_
    refine gx_topi (show ((nI i) + 1) = nI (i + 1) from nI_add i 1) ?_
    refine va_sld C.x C.b hX hbl hbA hW.2.2 (nI_in (by omega) (by omega)) dL_law_1337 ?_
    refine gx_topi (show xs (nI (i + 1)).toNatClampNeg = xs (i + 1) from by rw [nI_clamp (by omega)]) ?_
    refine lv_i2l gX gB dL_law_1338 rfl ?_
    refine lv_bipush (v := 32) gX gB dL_law_1339 (by decide) ?_
    refine lv_lshl gX gB dL_law_1341 rfl ?_
    refine lv_aload_n gX gB dL_law_1342 rfl (lv_at hl 6 rfl) ?_
    refine lv_iload gX gB dL_law_1343 (lv_at hl 1 rfl) ?_
    refine lv_iconst (v := 2) gX gB dL_law_1345 (by decide) ?_
    refine lv_iadd gX gB dL_law_1346 ?_
    refine gx_topi (show ((nI i) + 2) = nI (i + 2) from nI_add i 2) ?_
    refine va_sld C.x C.b hX hbl hbA hW.2.2 (nI_in (by omega) (by omega)) dL_law_1347 ?_
    refine gx_topi (show xs (nI (i + 2)).toNatClampNeg = xs (i + 2) from by rw [nI_clamp (by omega)]) ?_
    refine lv_i2l gX gB dL_law_1348 rfl ?_
    refine gx_ldc2 (v := 4294967295) C (tq_6 2 (by decide +kernel) rfl) dL_law_1349 ?_
    refine lv_land gX gB dL_law_1352 ?_
    refine lv_lor gX gB dL_law_1353 ?_
    refine gx_topl (show ((((xs (i + 1)).toInt64) <<< ((32 : Int32).toInt64 &&& 63)) ||| (((xs (i + 2)).toInt64) &&& 4294967295)) = sc_l xs (i + 1) from rfl) ?_
    refine lv_aload_n gX gB dL_law_1354 rfl (lv_at hl 6 rfl) ?_
    refine lv_iload gX gB dL_law_1355 (lv_at hl 1 rfl) ?_
    refine lv_iconst (v := 3) gX gB dL_law_1357 (by decide) ?_
    refine lv_iadd gX gB dL_law_1358 ?_
    refine gx_topi (show ((nI i) + 3) = nI (i + 3) from nI_add i 3) ?_
    refine va_sld C.x C.b hX hbl hbA hW.2.2 (nI_in (by omega) (by omega)) dL_law_1359 ?_
    refine gx_topi (show xs (nI (i + 3)).toNatClampNeg = xs (i + 3) from by rw [nI_clamp (by omega)]) ?_
    refine lv_i2l gX gB dL_law_1360 rfl ?_
    refine lv_bipush (v := 32) gX gB dL_law_1361 (by decide) ?_
    refine lv_lshl gX gB dL_law_1363 rfl ?_
    refine lv_aload_n gX gB dL_law_1364 rfl (lv_at hl 6 rfl) ?_
    refine lv_iload gX gB dL_law_1365 (lv_at hl 1 rfl) ?_
    refine lv_iconst (v := 4) gX gB dL_law_1367 (by decide) ?_
    refine lv_iadd gX gB dL_law_1368 ?_
    refine gx_topi (show ((nI i) + 4) = nI (i + 4) from nI_add i 4) ?_
    refine va_sld C.x C.b hX hbl hbA hW.2.2 (nI_in (by omega) (by omega)) dL_law_1369 ?_
    refine gx_topi (show xs (nI (i + 4)).toNatClampNeg = xs (i + 4) from by rw [nI_clamp (by omega)]) ?_
    refine lv_i2l gX gB dL_law_1370 rfl ?_
    refine gx_ldc2 (v := 4294967295) C (tq_6 2 (by decide +kernel) rfl) dL_law_1371 ?_
    refine lv_land gX gB dL_law_1374 ?_
    refine lv_lor gX gB dL_law_1375 ?_
    refine gx_topl (show ((((xs (i + 3)).toInt64) <<< ((32 : Int32).toInt64 &&& 63)) ||| (((xs (i + 4)).toInt64) &&& 4294967295)) = sc_l xs (i + 3) from rfl) ?_
    refine lv_aload_n gX gB dL_law_1376 rfl (lv_at hl 6 rfl) ?_
    refine lv_iload gX gB dL_law_1377 (lv_at hl 1 rfl) ?_
    refine lv_iconst (v := 5) gX gB dL_law_1379 (by decide) ?_
    refine lv_iadd gX gB dL_law_1380 ?_
    refine gx_topi (show ((nI i) + 5) = nI (i + 5) from nI_add i 5) ?_
    refine va_sld C.x C.b hX hbl hbA hW.2.2 (nI_in (by omega) (by omega)) dL_law_1381 ?_
    refine gx_topi (show xs (nI (i + 5)).toNatClampNeg = xs (i + 5) from by rw [nI_clamp (by omega)]) ?_
    refine lv_i2l gX gB dL_law_1382 rfl ?_
    refine lv_bipush (v := 32) gX gB dL_law_1383 (by decide) ?_
    refine lv_lshl gX gB dL_law_1385 rfl ?_
    refine lv_aload_n gX gB dL_law_1386 rfl (lv_at hl 6 rfl) ?_
    refine lv_iload gX gB dL_law_1387 (lv_at hl 1 rfl) ?_
    refine lv_bipush (v := 6) gX gB dL_law_1389 (by decide) ?_
    refine lv_iadd gX gB dL_law_1391 ?_
    refine gx_topi (show ((nI i) + 6) = nI (i + 6) from nI_add i 6) ?_
    refine va_sld C.x C.b hX hbl hbA hW.2.2 (nI_in (by omega) (by omega)) dL_law_1392 ?_
    refine gx_topi (show xs (nI (i + 6)).toNatClampNeg = xs (i + 6) from by rw [nI_clamp (by omega)]) ?_
    refine lv_i2l gX gB dL_law_1393 rfl ?_
    refine gx_ldc2 (v := 4294967295) C (tq_6 2 (by decide +kernel) rfl) dL_law_1394 ?_
    refine lv_land gX gB dL_law_1397 ?_
    refine lv_lor gX gB dL_law_1398 ?_
    refine gx_topl (show ((((xs (i + 5)).toInt64) <<< ((32 : Int32).toInt64 &&& 63)) ||| (((xs (i + 6)).toInt64) &&& 4294967295)) = sc_l xs (i + 5) from rfl) ?_
    refine lv_aload_n gX gB dL_law_1399 rfl (lv_at hl 6 rfl) ?_
    refine lv_iload gX gB dL_law_1400 (lv_at hl 1 rfl) ?_
    refine lv_bipush (v := 7) gX gB dL_law_1402 (by decide) ?_
    refine lv_iadd gX gB dL_law_1404 ?_
    refine gx_topi (show ((nI i) + 7) = nI (i + 7) from nI_add i 7) ?_
    refine va_sld C.x C.b hX hbl hbA hW.2.2 (nI_in (by omega) (by omega)) dL_law_1405 ?_
    refine gx_topi (show xs (nI (i + 7)).toNatClampNeg = xs (i + 7) from by rw [nI_clamp (by omega)]) ?_
    refine lv_i2l gX gB dL_law_1406 rfl ?_
    refine lv_bipush (v := 32) gX gB dL_law_1407 (by decide) ?_
    refine lv_lshl gX gB dL_law_1409 rfl ?_
    refine lv_aload_n gX gB dL_law_1410 rfl (lv_at hl 6 rfl) ?_
    refine lv_iload gX gB dL_law_1411 (lv_at hl 1 rfl) ?_
    refine lv_bipush (v := 8) gX gB dL_law_1413 (by decide) ?_
    refine lv_iadd gX gB dL_law_1415 ?_
    refine gx_topi (show ((nI i) + 8) = nI (i + 8) from nI_add i 8) ?_
    refine va_sld C.x C.b hX hbl hbA hW.2.2 (nI_in (by omega) (by omega)) dL_law_1416 ?_
    refine gx_topi (show xs (nI (i + 8)).toNatClampNeg = xs (i + 8) from by rw [nI_clamp (by omega)]) ?_
    refine lv_i2l gX gB dL_law_1417 rfl ?_
    refine gx_ldc2 (v := 4294967295) C (tq_6 2 (by decide +kernel) rfl) dL_law_1418 ?_
    refine lv_land gX gB dL_law_1421 ?_
    refine lv_lor gX gB dL_law_1422 ?_
    refine gx_topl (show ((((xs (i + 7)).toInt64) <<< ((32 : Int32).toInt64 &&& 63)) ||| (((xs (i + 8)).toInt64) &&& 4294967295)) = sc_l xs (i + 7) from rfl) ?_
    have hW := gx_W.toM hW
    have hW : gx_W G A s ((([(ow, .inl (G.2.1 2, 1, .inr (.inl g)))] ++ u) ++ [(oD, .inl (G.2.1 4, 1, .inr (.inr (.inr (.inl gD)))))]) ++ [(ad 0, .inr (11, [.int cd, .int (nI pa.length), .ref (ad 1), .ref (ad 2), .ref (ad 3), .ref (ad 4), .ref (ad 5), .int (nI fa.length), .ref (ad 6), .ref (ad 7), .int (nI dn), .ref (ad 8), .long ex, .long ey, .long eg, .int (nI cn), .ref (ad 9), .ref (ad 10), .int (nI n), .int at0, .int fl, .int (nI ds.length), .ref (ad 11), .ref (ad 12)])), (ad 1, .inl (G.2.1 2, 16, .inr (.inl px))), (ad 2, .inl (G.2.1 2, 16, .inr (.inl py))), (ad 3, .inl (G.2.1 2, 16, .inr (.inl pz))), (ad 4, .inl (G.2.1 2, 16, .inr (.inl gr))), (ad 5, .inl (G.2.1 2, 16, .inr (.inl ou))), (ad 6, .inl (G.2.1 2, 12, .inr (.inl fx))), (ad 7, .inl (G.2.1 2, 12, .inr (.inl fy))), (ad 8, .inl (G.2.1 1, 8, .inl od)), (ad 9, .inl (G.2.1 1, 12, .inl cr)), (ad 10, .inl (G.2.1 1, 200, .inl ty)), (ad 11, .inl (G.2.1 1, 48, .inl to_)), (ad 12, .inl (G.2.1 1, 48, .inl dr))]) H locs := hW
    refine gx_callV (wr := ([(ow, .inl (G.2.1 2, 1, .inr (.inl g)))] ++ u) ++ [(oD, .inl (G.2.1 4, 1, .inr (.inr (.inr (.inl gD)))))]) (rest := []) C hW sL_132 (kX6_wobble l G ad cd pa.length fa.length dn cn n ds.length ex ey eg at0 fl px py pz gr ou fx fy od cr ty to_ dr (sc_l xs (i + 1)) (sc_l xs (i + 3)) (sc_l xs (i + 5)) (sc_l xs (i + 7))) ⟨0, rfl⟩ rfl rfl ⟨(by dsimp only; omega), (by dsimp only; omega)⟩ hl.1 rfl (Nat.le_of_ble_eq_true rfl) dL_law_1423 ⟨(by dsimp only; omega), (by dsimp only; omega)⟩ (fun v9 u9 H locs hm hW => ?_)
    obtain ⟨bb, rfl, hval, hout⟩ := pr_wobble_2 (ow := ow) (oD := oD) (cd := cd) (at0 := at0) (fl := fl) (dr := dr) hrl hpx9 hm
    obtain ⟨cd9, pn9, fn9, dn9, cn9, sn9, tn9, ex9, ey9, eg9, at9, fl9, px9, py9, pz9, gr9, ou9, fx9, fy9, od9, cr9, ty9, to9, dr9, rfl, hcd, hnew⟩ := hout
    have hW : gx_W G A s ((([(ow, .inl (G.2.1 2, 1, .inr (.inl g)))] ++ u) ++ [(oD, .inl (G.2.1 4, 1, .inr (.inr (.inr (.inl gD)))))]) ++ [(ad 0, .inr (11, [.int cd9, .int (nI pn9), .ref (ad 1), .ref (ad 2), .ref (ad 3), .ref (ad 4), .ref (ad 5), .int (nI fn9), .ref (ad 6), .ref (ad 7), .int (nI dn9), .ref (ad 8), .long ex9, .long ey9, .long eg9, .int (nI cn9), .ref (ad 9), .ref (ad 10), .int (nI sn9), .int at9, .int fl9, .int (nI tn9), .ref (ad 11), .ref (ad 12)])), (ad 1, .inl (G.2.1 2, 16, .inr (.inl px9))), (ad 2, .inl (G.2.1 2, 16, .inr (.inl py9))), (ad 3, .inl (G.2.1 2, 16, .inr (.inl pz9))), (ad 4, .inl (G.2.1 2, 16, .inr (.inl gr9))), (ad 5, .inl (G.2.1 2, 16, .inr (.inl ou9))), (ad 6, .inl (G.2.1 2, 12, .inr (.inl fx9))), (ad 7, .inl (G.2.1 2, 12, .inr (.inl fy9))), (ad 8, .inl (G.2.1 1, 8, .inl od9)), (ad 9, .inl (G.2.1 1, 12, .inl cr9)), (ad 10, .inl (G.2.1 1, 200, .inl ty9)), (ad 11, .inl (G.2.1 1, 48, .inl to9)), (ad 12, .inl (G.2.1 1, 48, .inl dr9))]) H locs := hW
    refine W.eq (g2 := F0 m 1426 ls [.double bb]) rfl ?_
    refine W.widen (k := cells + 5 + 0) (n := slots + 40 + 0) (by dsimp only; omega) (by dsimp only; omega) ?_
    refine lv_dstore (lv' := [(7, .double bb), (6, .int 2), (5, .int (nI i)), (4, .ref oD), (3, .ref ow), (2, .ref (ad 0)), (1, .ref x), (0, .ref b0)]) gX gB dL_law_1426 hl (by decide) rfl (fun ls hl => ?_)
    refine lv_aload_n gX gB dL_law_1428 rfl (lv_at hl 5 rfl) ?_
    refine gx_callV (wr := ([(ow, .inl (G.2.1 2, 1, .inr (.inl g)))] ++ u) ++ [(oD, .inl (G.2.1 4, 1, .inr (.inr (.inr (.inl gD)))))]) (rest := []) C hW sL_81 (kX6_thrown l G ad cd9 pn9 fn9 dn9 cn9 sn9 tn9 ex9 ey9 eg9 at9 fl9 px9 py9 pz9 gr9 ou9 fx9 fy9 od9 cr9 ty9 to9 dr9) ⟨0, rfl⟩ rfl rfl ⟨(by dsimp only; omega), (by dsimp only; omega)⟩ hl.1 rfl (Nat.le_of_ble_eq_true rfl) dL_law_1429 ⟨(by dsimp only; omega), (by dsimp only; omega)⟩ (fun v9 u9 H locs hp hW => ?_)
    obtain ⟨rfl, rfl⟩ := hp
    have hW : gx_W G A s ((([(ow, .inl (G.2.1 2, 1, .inr (.inl g)))] ++ u) ++ [(oD, .inl (G.2.1 4, 1, .inr (.inr (.inr (.inl gD)))))]) ++ [(ad 0, .inr (11, [.int cd9, .int (nI pn9), .ref (ad 1), .ref (ad 2), .ref (ad 3), .ref (ad 4), .ref (ad 5), .int (nI fn9), .ref (ad 6), .ref (ad 7), .int (nI dn9), .ref (ad 8), .long ex9, .long ey9, .long eg9, .int (nI cn9), .ref (ad 9), .ref (ad 10), .int (nI sn9), .int at9, .int fl9, .int (nI tn9), .ref (ad 11), .ref (ad 12)])), (ad 1, .inl (G.2.1 2, 16, .inr (.inl px9))), (ad 2, .inl (G.2.1 2, 16, .inr (.inl py9))), (ad 3, .inl (G.2.1 2, 16, .inr (.inl pz9))), (ad 4, .inl (G.2.1 2, 16, .inr (.inl gr9))), (ad 5, .inl (G.2.1 2, 16, .inr (.inl ou9))), (ad 6, .inl (G.2.1 2, 12, .inr (.inl fx9))), (ad 7, .inl (G.2.1 2, 12, .inr (.inl fy9))), (ad 8, .inl (G.2.1 1, 8, .inl od9)), (ad 9, .inl (G.2.1 1, 12, .inl cr9)), (ad 10, .inl (G.2.1 1, 200, .inl ty9)), (ad 11, .inl (G.2.1 1, 48, .inl to9)), (ad 12, .inl (G.2.1 1, 48, .inl dr9))]) H locs := hW
    have hW := gx_W.ofM hW
    have hW : gx_W G A s (((oD, .inl (G.2.1 4, 1, .inr (.inr (.inr (.inl gD))))) :: [(ad 0, .inr (11, [.int cd9, .int (nI pn9), .ref (ad 1), .ref (ad 2), .ref (ad 3), .ref (ad 4), .ref (ad 5), .int (nI fn9), .ref (ad 6), .ref (ad 7), .int (nI dn9), .ref (ad 8), .long ex9, .long ey9, .long eg9, .int (nI cn9), .ref (ad 9), .ref (ad 10), .int (nI sn9), .int at9, .int fl9, .int (nI tn9), .ref (ad 11), .ref (ad 12)])), (ad 1, .inl (G.2.1 2, 16, .inr (.inl px9))), (ad 2, .inl (G.2.1 2, 16, .inr (.inl py9))), (ad 3, .inl (G.2.1 2, 16, .inr (.inl pz9))), (ad 4, .inl (G.2.1 2, 16, .inr (.inl gr9))), (ad 5, .inl (G.2.1 2, 16, .inr (.inl ou9))), (ad 6, .inl (G.2.1 2, 12, .inr (.inl fx9))), (ad 7, .inl (G.2.1 2, 12, .inr (.inl fy9))), (ad 8, .inl (G.2.1 1, 8, .inl od9)), (ad 9, .inl (G.2.1 1, 12, .inl cr9)), (ad 10, .inl (G.2.1 1, 200, .inl ty9)), (ad 11, .inl (G.2.1 1, 48, .inl to9)), (ad 12, .inl (G.2.1 1, 48, .inl dr9))]) ++ ([(ow, .inl (G.2.1 2, 1, .inr (.inl g)))] ++ u)) H locs := hW
    refine W.eq (g2 := F0 m 1432 ls [.int cd9]) rfl ?_
    refine W.widen (k := cells + 5 + 0 + 0) (n := slots + 40 + 0 + 0) (by dsimp only; omega) (by dsimp only; omega) ?_
    refine lv_iload gX gB dL_law_1432 (lv_at hl 1 rfl) ?_
    refine lv_icmp_eq (tgt := 1439) gX gB dL_law_1434 (by decide) (fun _ => ?_) (fun h9 => absurd (show cd9 = (2 : Int32) from hcd) h9)
    refine lv_iload gX gB dL_law_1439 (lv_at hl 1 rfl) ?_
    refine lv_if_ne (tgt := 1476) gX gB dL_law_1441 (by decide) (fun _ => ?_) (fun h9 => absurd h9 (show ¬ 2 = (0 : Int32) from by decide))
    refine lv_goto (tgt := 1766) gX gB dL_law_1476 (by decide) ?_
    refine W.widen (k := cells + 64) (n := slots + 2000) (by omega) (by omega) ?_
    exact kk _ _ _ _ (hnew _ _) hW (lv_sub hl [2, 3, 4, 5, 6, 7] rfl)
set_option maxRecDepth 100000 in
theorem pr_bend_0 {G : gx_T} {L : List Nat} {f : Nat → va_E} {x ow oD : Nat} {ad : Nat → Nat} {P F S X N T E : Nat} {dn : Nat} {bP : Option Nat} {pa : List Nat} {ps : Nat → ld_T} {bF : Option Nat} {fa : List Nat} {fd : Nat → ft_T} {bS : Option Nat} {sa : List Nat} {sd : Nat → sd_T} {b cap n : Nat} {t : Nat → Nat} {bT : Option Nat} {ta : List Nat} {ds : List rt_T} {ex ey eg : Int64} {cn : Nat} {cf : Nat → Nat} {px py pz gr ou fx fy : Nat → Int64} {od cr ty to_ : Nat → Int32} {cd at0 fl : Int32} {dr : Nat → Int32} {p0 p1 p2 p3 : UInt64} (hrl : rl_at G L f x P F S X N T E dn bP pa ps bF fa fd bS sa sd b cap n t bT ta ds ex ey eg cn cf px py pz gr ou fx fy od cr ty to_) {u M : va_W} {v : Option Value}  {r : UInt64} (hpo : (fun (v : Option Value) (u : va_W) => v = some (.double (be_val p0 p1 p2 p3)) ∧ u = (va_pl L f) ∧ be_code p0 p1 p2 p3 = 0) (some (.double r)) u) (hm : (fun (v : Option Value) (u : va_W) => (be_code p0 p1 p2 p3 = 0 ∧ v = some (.double (be_val p0 p1 p2 p3)) ∧ u = [(ad 0, .inr (11, [.int 0, .int (nI pa.length), .ref (ad 1), .ref (ad 2), .ref (ad 3), .ref (ad 4), .ref (ad 5), .int (nI fa.length), .ref (ad 6), .ref (ad 7), .int (nI dn), .ref (ad 8), .long ex, .long ey, .long eg, .int (nI cn), .ref (ad 9), .ref (ad 10), .int (nI n), .int at0, .int fl, .int (nI ds.length), .ref (ad 11), .ref (ad 12)])), (ad 1, .inl (G.2.1 2, 16, .inr (.inl px))), (ad 2, .inl (G.2.1 2, 16, .inr (.inl py))), (ad 3, .inl (G.2.1 2, 16, .inr (.inl pz))), (ad 4, .inl (G.2.1 2, 16, .inr (.inl gr))), (ad 5, .inl (G.2.1 2, 16, .inr (.inl ou))), (ad 6, .inl (G.2.1 2, 12, .inr (.inl fx))), (ad 7, .inl (G.2.1 2, 12, .inr (.inl fy))), (ad 8, .inl (G.2.1 1, 8, .inl od)), (ad 9, .inl (G.2.1 1, 12, .inl cr)), (ad 10, .inl (G.2.1 1, 200, .inl ty)), (ad 11, .inl (G.2.1 1, 48, .inl to_)), (ad 12, .inl (G.2.1 1, 48, .inl dr))]) ∨ (¬ be_code p0 p1 p2 p3 = 0 ∧ v = some (.double FP.dconst0) ∧ u = [(ad 0, .inr (11, [.int (be_code p0 p1 p2 p3), .int (nI pa.length), .ref (ad 1), .ref (ad 2), .ref (ad 3), .ref (ad 4), .ref (ad 5), .int (nI fa.length), .ref (ad 6), .ref (ad 7), .int (nI dn), .ref (ad 8), .long ex, .long ey, .long eg, .int (nI cn), .ref (ad 9), .ref (ad 10), .int (nI n), .int at0, .int fl, .int (nI ds.length), .ref (ad 11), .ref (ad 12)])), (ad 1, .inl (G.2.1 2, 16, .inr (.inl px))), (ad 2, .inl (G.2.1 2, 16, .inr (.inl py))), (ad 3, .inl (G.2.1 2, 16, .inr (.inl pz))), (ad 4, .inl (G.2.1 2, 16, .inr (.inl gr))), (ad 5, .inl (G.2.1 2, 16, .inr (.inl ou))), (ad 6, .inl (G.2.1 2, 12, .inr (.inl fx))), (ad 7, .inl (G.2.1 2, 12, .inr (.inl fy))), (ad 8, .inl (G.2.1 1, 8, .inl od)), (ad 9, .inl (G.2.1 1, 12, .inl cr)), (ad 10, .inl (G.2.1 1, 200, .inl ty)), (ad 11, .inl (G.2.1 1, 48, .inl to_)), (ad 12, .inl (G.2.1 1, 48, .inl dr))])) v M) : ∃ bb : UInt64, v = some (.double bb) ∧ r = bb ∧ lw_out G x ow oD ad 0 u M := by
  obtain ⟨e1, rfl, hc⟩ := hpo
  rcases hm with ⟨-, rfl, rfl⟩ | ⟨h1, -, -⟩
  · injection e1 with e1
    injection e1 with e1
    exact ⟨_, rfl, e1, ⟨(0), pa.length, fa.length, dn, cn, n, ds.length, ex, ey, eg, at0, fl, px, py, pz, gr, ou, fx, fy, od, cr, ty, to_, dr, rfl, rfl, fun g gD => ⟨L, f, P, F, S, X, N, T, E, dn, bP, pa, ps, bF, fa, fd, bS, sa, sd, b, cap, n, t, bT, ta, ds, ex, ey, eg, cn, cf, px, py, pz, gr, ou, fx, fy, od, cr, ty, to_, _, at0, fl, dr, g, gD, rfl, hrl⟩⟩⟩
  · exact absurd hc h1
set_option maxRecDepth 100000 in
theorem pr_bend_1 {G : gx_T} {L : List Nat} {f : Nat → va_E} {x ow oD : Nat} {ad : Nat → Nat} {P F S X N T E : Nat} {dn : Nat} {bP : Option Nat} {pa : List Nat} {ps : Nat → ld_T} {bF : Option Nat} {fa : List Nat} {fd : Nat → ft_T} {bS : Option Nat} {sa : List Nat} {sd : Nat → sd_T} {b cap n : Nat} {t : Nat → Nat} {bT : Option Nat} {ta : List Nat} {ds : List rt_T} {ex ey eg : Int64} {cn : Nat} {cf : Nat → Nat} {px py pz gr ou fx fy : Nat → Int64} {od cr ty to_ : Nat → Int32} {cd at0 fl : Int32} {dr : Nat → Int32} {p0 p1 p2 p3 : UInt64} (hrl : rl_at G L f x P F S X N T E dn bP pa ps bF fa fd bS sa sd b cap n t bT ta ds ex ey eg cn cf px py pz gr ou fx fy od cr ty to_) {u M : va_W} {v : Option Value}  (hpo : (fun (Ex : String) (u : va_W) => u = (va_pl L f) ∧ px1 gx_E2 (be_code p0 p1 p2 p3) Ex) gx_E2 u) (hm : (fun (v : Option Value) (u : va_W) => (be_code p0 p1 p2 p3 = 0 ∧ v = some (.double (be_val p0 p1 p2 p3)) ∧ u = [(ad 0, .inr (11, [.int 0, .int (nI pa.length), .ref (ad 1), .ref (ad 2), .ref (ad 3), .ref (ad 4), .ref (ad 5), .int (nI fa.length), .ref (ad 6), .ref (ad 7), .int (nI dn), .ref (ad 8), .long ex, .long ey, .long eg, .int (nI cn), .ref (ad 9), .ref (ad 10), .int (nI n), .int at0, .int fl, .int (nI ds.length), .ref (ad 11), .ref (ad 12)])), (ad 1, .inl (G.2.1 2, 16, .inr (.inl px))), (ad 2, .inl (G.2.1 2, 16, .inr (.inl py))), (ad 3, .inl (G.2.1 2, 16, .inr (.inl pz))), (ad 4, .inl (G.2.1 2, 16, .inr (.inl gr))), (ad 5, .inl (G.2.1 2, 16, .inr (.inl ou))), (ad 6, .inl (G.2.1 2, 12, .inr (.inl fx))), (ad 7, .inl (G.2.1 2, 12, .inr (.inl fy))), (ad 8, .inl (G.2.1 1, 8, .inl od)), (ad 9, .inl (G.2.1 1, 12, .inl cr)), (ad 10, .inl (G.2.1 1, 200, .inl ty)), (ad 11, .inl (G.2.1 1, 48, .inl to_)), (ad 12, .inl (G.2.1 1, 48, .inl dr))]) ∨ (¬ be_code p0 p1 p2 p3 = 0 ∧ v = some (.double FP.dconst0) ∧ u = [(ad 0, .inr (11, [.int (be_code p0 p1 p2 p3), .int (nI pa.length), .ref (ad 1), .ref (ad 2), .ref (ad 3), .ref (ad 4), .ref (ad 5), .int (nI fa.length), .ref (ad 6), .ref (ad 7), .int (nI dn), .ref (ad 8), .long ex, .long ey, .long eg, .int (nI cn), .ref (ad 9), .ref (ad 10), .int (nI n), .int at0, .int fl, .int (nI ds.length), .ref (ad 11), .ref (ad 12)])), (ad 1, .inl (G.2.1 2, 16, .inr (.inl px))), (ad 2, .inl (G.2.1 2, 16, .inr (.inl py))), (ad 3, .inl (G.2.1 2, 16, .inr (.inl pz))), (ad 4, .inl (G.2.1 2, 16, .inr (.inl gr))), (ad 5, .inl (G.2.1 2, 16, .inr (.inl ou))), (ad 6, .inl (G.2.1 2, 12, .inr (.inl fx))), (ad 7, .inl (G.2.1 2, 12, .inr (.inl fy))), (ad 8, .inl (G.2.1 1, 8, .inl od)), (ad 9, .inl (G.2.1 1, 12, .inl cr)), (ad 10, .inl (G.2.1 1, 200, .inl ty)), (ad 11, .inl (G.2.1 1, 48, .inl to_)), (ad 12, .inl (G.2.1 1, 48, .inl dr))])) v M) : ∃ bb : UInt64, v = some (.double bb) ∧ True ∧ lw_out G x ow oD ad 1 u M := by
  obtain ⟨rfl, hp⟩ := hpo
  have hc := px1_c hp
  rcases hm with ⟨h1, -, -⟩ | ⟨-, rfl, rfl⟩
  · rw [hc] at h1
    exact absurd h1 (by decide)
  · exact ⟨_, rfl, trivial, ⟨((be_code p0 p1 p2 p3)), pa.length, fa.length, dn, cn, n, ds.length, ex, ey, eg, at0, fl, px, py, pz, gr, ou, fx, fy, od, cr, ty, to_, dr, rfl, hc, fun g gD => ⟨L, f, P, F, S, X, N, T, E, dn, bP, pa, ps, bF, fa, fd, bS, sa, sd, b, cap, n, t, bT, ta, ds, ex, ey, eg, cn, cf, px, py, pz, gr, ou, fx, fy, od, cr, ty, to_, _, at0, fl, dr, g, gD, rfl, hrl⟩⟩⟩
set_option maxHeartbeats 8000000 in
set_option maxRecDepth 100000 in
theorem lc_bend {l : Launch} (hfl : l.flags = flags0) {p : Program} {e : Env} {R : Room} {s : State} {m : MethodId} {below : List Frame} {meth : Method} {c : Code} {A : Nat → Prop} {G : gx_T} {b0 Ls : Nat} {xs : Nat → Int32} {x ow oD : Nat} {ad : Nat → Nat} {H : Heap} {locs : List Loc} {cells slots : Nat} {Q : State → Prop} {ls : Array Slot} {i : Nat} {ws : va_W} (C : gx_C G p s m #[Value.ref b0] meth c cL_law 9 RL A) (hX : va_X b0 Ls xs s s.heap) (hbl : b0 < s.heap.size) (hbA : ¬ A b0) (hi : i + 9 ≤ Ls) (hLs : Ls ≤ 4608) (hR : 100 ≤ R.frames ∧ 4000 ≤ R.locals ∧ cells + 64 ≤ R.cells ∧ slots + 2000 ≤ R.slots) (hinv : lw_inv G x ow oD ad ws) (hW : gx_W G A s ws H locs) (hl : lv_has ls 9 [(5, .int (nI i)), (4, .ref oD), (3, .ref ow), (2, .ref (ad 0)), (1, .ref x), (0, .ref b0)]) (kk : ∀ (ws2 : va_W) (H2 : Heap) (locs2 : List Loc) (ls2 : Array Slot), lw_inv G x ow oD ad ws2 → gx_W G A s ws2 H2 locs2 → lv_has ls2 9 [(5, .int (nI i)), (4, .ref oD), (3, .ref ow), (2, .ref (ad 0)), (1, .ref x), (0, .ref b0)] → W p l e R s m #[Value.ref b0] below meth c H2 locs2 (cells + 64) (slots + 2000) Q (F0 m 1766 ls2 [])) : W p l e R s m #[Value.ref b0] below meth c H locs cells slots Q (F0 m 1479 ls []) := by
  have gX := C.x
  have gB := C.b
  obtain ⟨L, f, P, F, S, X, N, T, E, dn, bP, pa, ps, bF, fa, fd, bS, sa, sd, b, cap, n, t, bT, ta, ds, ex, ey, eg, cn, cf, px, py, pz, gr, ou, fx, fy, od, cr, ty, to_, cd, at0, fl, dr, g, gD, rfl, hrl⟩ := hinv
  obtain ⟨hx, fx0, lP, lF, lS, lT, tb, hN, hE, pP, pF, pS, pT, nPF, nPS, nPT, nFS, nFT, nST, rPF, rPS, rPT, rFS, rFT, rST, nd, Nn, En, p16, f12, t12, tl, n2, d8, c12, sl, rP, rO, rQ, rF, rE, rX, rT, rD, rC, rS⟩ := id hrl
  refine lv_aload_n gX gB dL_law_1479 rfl (lv_at hl 4 rfl) ?_
  refine lv_aload_n gX gB dL_law_1480 rfl (lv_at hl 5 rfl) ?_
  refine lv_iload gX gB dL_law_1481 (lv_at hl 0 rfl) ?_
  refine lv_iconst (v := 1) gX gB dL_law_1483 (by decide) ?_
  refine lv_iadd gX gB dL_law_1484 ?_
  refine gx_topi (show ((nI i) + 1) = nI (i + 1) from nI_add i 1) ?_
  refine va_sld C.x C.b hX hbl hbA hW.2.2 (nI_in (by omega) (by omega)) dL_law_1485 ?_
  refine gx_topi (show xs (nI (i + 1)).toNatClampNeg = xs (i + 1) from by rw [nI_clamp (by omega)]) ?_
  refine lv_i2d gX gB dL_law_1486 ?_
  refine lv_ldc2d (v := 4593671619917905920) gX gB C.hown (C.ts _ (tq_6 3 (by decide +kernel) rfl)) dL_law_1487 ?_
  refine lv_dmul gX gB dL_law_1490 ((fp_mfin (fp_i2d _).1 ⟨_, _, _, fp_kl⟩).1) ?_
  refine lv_aload_n gX gB dL_law_1491 rfl (lv_at hl 5 rfl) ?_
  refine lv_iload gX gB dL_law_1492 (lv_at hl 0 rfl) ?_
  refine lv_iconst (v := 2) gX gB dL_law_1494 (by decide) ?_
  refine lv_iadd gX gB dL_law_1495 ?_
  refine gx_topi (show ((nI i) + 2) = nI (i + 2) from nI_add i 2) ?_
  refine va_sld C.x C.b hX hbl hbA hW.2.2 (nI_in (by omega) (by omega)) dL_law_1496 ?_
  refine gx_topi (show xs (nI (i + 2)).toNatClampNeg = xs (i + 2) from by rw [nI_clamp (by omega)]) ?_
  refine lv_i2d gX gB dL_law_1497 ?_
  refine lv_ldc2d (v := 4593671619917905920) gX gB C.hown (C.ts _ (tq_6 3 (by decide +kernel) rfl)) dL_law_1498 ?_
  refine lv_dmul gX gB dL_law_1501 ((fp_mfin (fp_i2d _).1 ⟨_, _, _, fp_kl⟩).1) ?_
  refine lv_aload_n gX gB dL_law_1502 rfl (lv_at hl 5 rfl) ?_
  refine lv_iload gX gB dL_law_1503 (lv_at hl 0 rfl) ?_
  refine lv_iconst (v := 3) gX gB dL_law_1505 (by decide) ?_
  refine lv_iadd gX gB dL_law_1506 ?_
  refine gx_topi (show ((nI i) + 3) = nI (i + 3) from nI_add i 3) ?_
  refine va_sld C.x C.b hX hbl hbA hW.2.2 (nI_in (by omega) (by omega)) dL_law_1507 ?_
  refine gx_topi (show xs (nI (i + 3)).toNatClampNeg = xs (i + 3) from by rw [nI_clamp (by omega)]) ?_
  refine lv_i2d gX gB dL_law_1508 ?_
  refine lv_ldc2d (v := 4593671619917905920) gX gB C.hown (C.ts _ (tq_6 3 (by decide +kernel) rfl)) dL_law_1509 ?_
  refine lv_dmul gX gB dL_law_1512 ((fp_mfin (fp_i2d _).1 ⟨_, _, _, fp_kl⟩).1) ?_
  refine lv_aload_n gX gB dL_law_1513 rfl (lv_at hl 5 rfl) ?_
  refine lv_iload gX gB dL_law_1514 (lv_at hl 0 rfl) ?_
  refine lv_iconst (v := 4) gX gB dL_law_1516 (by decide) ?_
  refine lv_iadd gX gB dL_law_1517 ?_
  refine gx_topi (show ((nI i) + 4) = nI (i + 4) from nI_add i 4) ?_
  refine va_sld C.x C.b hX hbl hbA hW.2.2 (nI_in (by omega) (by omega)) dL_law_1518 ?_
  refine gx_topi (show xs (nI (i + 4)).toNatClampNeg = xs (i + 4) from by rw [nI_clamp (by omega)]) ?_
  refine lv_i2d gX gB dL_law_1519 ?_
  refine lv_ldc2d (v := 4593671619917905920) gX gB C.hown (C.ts _ (tq_6 3 (by decide +kernel) rfl)) dL_law_1520 ?_
  refine lv_dmul gX gB dL_law_1523 ((fp_mfin (fp_i2d _).1 ⟨_, _, _, fp_kl⟩).1) ?_
  refine lv_aload gX gB dL_law_1524 (lv_at hl 1 rfl) ?_
  have hW := gx_W.toD hW
  have hW : gx_W G A s ((([(ad 0, .inr (11, [.int cd, .int (nI pa.length), .ref (ad 1), .ref (ad 2), .ref (ad 3), .ref (ad 4), .ref (ad 5), .int (nI fa.length), .ref (ad 6), .ref (ad 7), .int (nI dn), .ref (ad 8), .long ex, .long ey, .long eg, .int (nI cn), .ref (ad 9), .ref (ad 10), .int (nI n), .int at0, .int fl, .int (nI ds.length), .ref (ad 11), .ref (ad 12)])), (ad 1, .inl (G.2.1 2, 16, .inr (.inl px))), (ad 2, .inl (G.2.1 2, 16, .inr (.inl py))), (ad 3, .inl (G.2.1 2, 16, .inr (.inl pz))), (ad 4, .inl (G.2.1 2, 16, .inr (.inl gr))), (ad 5, .inl (G.2.1 2, 16, .inr (.inl ou))), (ad 6, .inl (G.2.1 2, 12, .inr (.inl fx))), (ad 7, .inl (G.2.1 2, 12, .inr (.inl fy))), (ad 8, .inl (G.2.1 1, 8, .inl od)), (ad 9, .inl (G.2.1 1, 12, .inl cr)), (ad 10, .inl (G.2.1 1, 200, .inl ty)), (ad 11, .inl (G.2.1 1, 48, .inl to_)), (ad 12, .inl (G.2.1 1, 48, .inl dr))] : va_W) ++ ([(ow, .inl (G.2.1 2, 1, .inr (.inl g)))] : va_W)) ++ (([(oD, .inl (G.2.1 4, 1, .inr (.inr (.inr (.inl gD)))))] : va_W) ++ va_pl L f)) H locs := hW
  refine gx_callSH (wr := ([(ad 0, .inr (11, [.int cd, .int (nI pa.length), .ref (ad 1), .ref (ad 2), .ref (ad 3), .ref (ad 4), .ref (ad 5), .int (nI fa.length), .ref (ad 6), .ref (ad 7), .int (nI dn), .ref (ad 8), .long ex, .long ey, .long eg, .int (nI cn), .ref (ad 9), .ref (ad 10), .int (nI n), .int at0, .int fl, .int (nI ds.length), .ref (ad 11), .ref (ad 12)])), (ad 1, .inl (G.2.1 2, 16, .inr (.inl px))), (ad 2, .inl (G.2.1 2, 16, .inr (.inl py))), (ad 3, .inl (G.2.1 2, 16, .inr (.inl pz))), (ad 4, .inl (G.2.1 2, 16, .inr (.inl gr))), (ad 5, .inl (G.2.1 2, 16, .inr (.inl ou))), (ad 6, .inl (G.2.1 2, 12, .inr (.inl fx))), (ad 7, .inl (G.2.1 2, 12, .inr (.inl fy))), (ad 8, .inl (G.2.1 1, 8, .inl od)), (ad 9, .inl (G.2.1 1, 12, .inl cr)), (ad 10, .inl (G.2.1 1, 200, .inl ty)), (ad 11, .inl (G.2.1 1, 48, .inl to_)), (ad 12, .inl (G.2.1 1, 48, .inl dr))] : va_W) ++ ([(ow, .inl (G.2.1 2, 1, .inr (.inl g)))] : va_W)) (rest := []) C hW sLH_135 (kL_bend l G L f x _ hx fx0 oD gD (FP.dmul (FP.i2d (xs (i + 1))) 4593671619917905920) (FP.dmul (FP.i2d (xs (i + 2))) 4593671619917905920) (FP.dmul (FP.i2d (xs (i + 3))) 4593671619917905920) (FP.dmul (FP.i2d (xs (i + 4))) 4593671619917905920) _ _ (kX5_bend l hfl G (va_pl L f) x (FP.dmul (FP.i2d (xs (i + 1))) 4593671619917905920) (FP.dmul (FP.i2d (xs (i + 2))) 4593671619917905920) (FP.dmul (FP.i2d (xs (i + 3))) 4593671619917905920) (FP.dmul (FP.i2d (xs (i + 4))) 4593671619917905920)) (fun v u h => ⟨_, h.1⟩) (fun E u h => h.2.1)) rfl ⟨(by dsimp only; omega), (by dsimp only; omega)⟩ hl.1 rfl (Nat.le_of_ble_eq_true rfl) dL_law_1526 ⟨(by dsimp only; omega), (by dsimp only; omega)⟩ (fun v9 u9 H locs hp hW => ?_)
  rcases hp with ⟨r, u, hpo, rfl, rfl⟩ | ⟨u, hpx9, rfl, rfl⟩
  · have hW : gx_W G A s ((([(ad 0, .inr (11, [.int cd, .int (nI pa.length), .ref (ad 1), .ref (ad 2), .ref (ad 3), .ref (ad 4), .ref (ad 5), .int (nI fa.length), .ref (ad 6), .ref (ad 7), .int (nI dn), .ref (ad 8), .long ex, .long ey, .long eg, .int (nI cn), .ref (ad 9), .ref (ad 10), .int (nI n), .int at0, .int fl, .int (nI ds.length), .ref (ad 11), .ref (ad 12)])), (ad 1, .inl (G.2.1 2, 16, .inr (.inl px))), (ad 2, .inl (G.2.1 2, 16, .inr (.inl py))), (ad 3, .inl (G.2.1 2, 16, .inr (.inl pz))), (ad 4, .inl (G.2.1 2, 16, .inr (.inl gr))), (ad 5, .inl (G.2.1 2, 16, .inr (.inl ou))), (ad 6, .inl (G.2.1 2, 12, .inr (.inl fx))), (ad 7, .inl (G.2.1 2, 12, .inr (.inl fy))), (ad 8, .inl (G.2.1 1, 8, .inl od)), (ad 9, .inl (G.2.1 1, 12, .inl cr)), (ad 10, .inl (G.2.1 1, 200, .inl ty)), (ad 11, .inl (G.2.1 1, 48, .inl to_)), (ad 12, .inl (G.2.1 1, 48, .inl dr))] : va_W) ++ ([(ow, .inl (G.2.1 2, 1, .inr (.inl g)))] : va_W)) ++ (([(oD, .inl (G.2.1 4, 1, .inr (.inr (.inr (.inl (vf_upd gD 0 r))))))] : va_W) ++ u)) H locs := hW
    have hW := gx_W.ofD hW
    have hW : gx_W G A s (((oD, .inl (G.2.1 4, 1, .inr (.inr (.inr (.inl (vf_upd gD 0 r)))))) :: ([(ad 0, .inr (11, [.int cd, .int (nI pa.length), .ref (ad 1), .ref (ad 2), .ref (ad 3), .ref (ad 4), .ref (ad 5), .int (nI fa.length), .ref (ad 6), .ref (ad 7), .int (nI dn), .ref (ad 8), .long ex, .long ey, .long eg, .int (nI cn), .ref (ad 9), .ref (ad 10), .int (nI n), .int at0, .int fl, .int (nI ds.length), .ref (ad 11), .ref (ad 12)])), (ad 1, .inl (G.2.1 2, 16, .inr (.inl px))), (ad 2, .inl (G.2.1 2, 16, .inr (.inl py))), (ad 3, .inl (G.2.1 2, 16, .inr (.inl pz))), (ad 4, .inl (G.2.1 2, 16, .inr (.inl gr))), (ad 5, .inl (G.2.1 2, 16, .inr (.inl ou))), (ad 6, .inl (G.2.1 2, 12, .inr (.inl fx))), (ad 7, .inl (G.2.1 2, 12, .inr (.inl fy))), (ad 8, .inl (G.2.1 1, 8, .inl od)), (ad 9, .inl (G.2.1 1, 12, .inl cr)), (ad 10, .inl (G.2.1 1, 200, .inl ty)), (ad 11, .inl (G.2.1 1, 48, .inl to_)), (ad 12, .inl (G.2.1 1, 48, .inl dr))] : va_W)) ++ ([(ow, .inl (G.2.1 2, 1, .inr (.inl g)))] ++ u)) H locs := hW
    refine W.eq (g2 := F0 m 1529 ls [.int 0]) rfl ?_
    refine W.widen (k := cells + 1) (n := slots + 6) (by dsimp only; omega) (by dsimp only; omega) ?_
    refine lv_istore (lv' := [(6, .int 0), (5, .int (nI i)), (4, .ref oD), (3, .ref ow), (2, .ref (ad 0)), (1, .ref x), (0, .ref b0)]) gX gB dL_law_1529 hl (by decide) rfl (fun ls hl => ?_)
    refine lv_aload_n gX gB dL_law_1531 rfl (lv_at hl 4 rfl) ?_
    refine lv_aload_n gX gB dL_law_1532 rfl (lv_at hl 6 rfl) ?_
    refine lv_iload gX gB dL_law_1533 (lv_at hl 1 rfl) ?_
    refine lv_iconst (v := 1) gX gB dL_law_1535 (by decide) ?_
    refine lv_iadd gX gB dL_law_1536 ?_
    refine gx_topi (show ((nI i) + 1) = nI (i + 1) from nI_add i 1) ?_
    refine va_sld C.x C.b hX hbl hbA hW.2.2 (nI_in (by omega) (by omega)) dL_law_1537 ?_
    refine gx_topi (show xs (nI (i + 1)).toNatClampNeg = xs (i + 1) from by rw [nI_clamp (by omega)]) ?_
    refine lv_i2d gX gB dL_law_1538 ?_
    refine lv_ldc2d (v := 4593671619917905920) gX gB C.hown (C.ts _ (tq_6 3 (by decide +kernel) rfl)) dL_law_1539 ?_
    refine lv_dmul gX gB dL_law_1542 ((fp_mfin (fp_i2d _).1 ⟨_, _, _, fp_kl⟩).1) ?_
    refine lv_aload_n gX gB dL_law_1543 rfl (lv_at hl 6 rfl) ?_
    refine lv_iload gX gB dL_law_1544 (lv_at hl 1 rfl) ?_
    refine lv_iconst (v := 2) gX gB dL_law_1546 (by decide) ?_
    refine lv_iadd gX gB dL_law_1547 ?_
    refine gx_topi (show ((nI i) + 2) = nI (i + 2) from nI_add i 2) ?_
    refine va_sld C.x C.b hX hbl hbA hW.2.2 (nI_in (by omega) (by omega)) dL_law_1548 ?_
    refine gx_topi (show xs (nI (i + 2)).toNatClampNeg = xs (i + 2) from by rw [nI_clamp (by omega)]) ?_
    refine lv_i2d gX gB dL_law_1549 ?_
    refine lv_ldc2d (v := 4593671619917905920) gX gB C.hown (C.ts _ (tq_6 3 (by decide +kernel) rfl)) dL_law_1550 ?_
    refine lv_dmul gX gB dL_law_1553 ((fp_mfin (fp_i2d _).1 ⟨_, _, _, fp_kl⟩).1) ?_
    refine lv_aload_n gX gB dL_law_1554 rfl (lv_at hl 6 rfl) ?_
    refine lv_iload gX gB dL_law_1555 (lv_at hl 1 rfl) ?_
    refine lv_iconst (v := 3) gX gB dL_law_1557 (by decide) ?_
    refine lv_iadd gX gB dL_law_1558 ?_
    refine gx_topi (show ((nI i) + 3) = nI (i + 3) from nI_add i 3) ?_
    refine va_sld C.x C.b hX hbl hbA hW.2.2 (nI_in (by omega) (by omega)) dL_law_1559 ?_
    refine gx_topi (show xs (nI (i + 3)).toNatClampNeg = xs (i + 3) from by rw [nI_clamp (by omega)]) ?_
    refine lv_i2d gX gB dL_law_1560 ?_
    refine lv_ldc2d (v := 4593671619917905920) gX gB C.hown (C.ts _ (tq_6 3 (by decide +kernel) rfl)) dL_law_1561 ?_
    refine lv_dmul gX gB dL_law_1564 ((fp_mfin (fp_i2d _).1 ⟨_, _, _, fp_kl⟩).1) ?_
    refine lv_aload_n gX gB dL_law_1565 rfl (lv_at hl 6 rfl) ?_
    refine lv_iload gX gB dL_law_1566 (lv_at hl 1 rfl) ?_
    refine lv_iconst (v := 4) gX gB dL_law_1568 (by decide) ?_
    refine lv_iadd gX gB dL_law_1569 ?_
    refine gx_topi (show ((nI i) + 4) = nI (i + 4) from nI_add i 4) ?_
    refine va_sld C.x C.b hX hbl hbA hW.2.2 (nI_in (by omega) (by omega)) dL_law_1570 ?_
    refine gx_topi (show xs (nI (i + 4)).toNatClampNeg = xs (i + 4) from by rw [nI_clamp (by omega)]) ?_
    refine lv_i2d gX gB dL_law_1571 ?_
    refine lv_ldc2d (v := 4593671619917905920) gX gB C.hown (C.ts _ (tq_6 3 (by decide +kernel) rfl)) dL_law_1572 ?_
    refine lv_dmul gX gB dL_law_1575 ((fp_mfin (fp_i2d _).1 ⟨_, _, _, fp_kl⟩).1) ?_
    have hW := gx_W.toM hW
    have hW : gx_W G A s ((([(ow, .inl (G.2.1 2, 1, .inr (.inl g)))] ++ u) ++ [(oD, .inl (G.2.1 4, 1, .inr (.inr (.inr (.inl (vf_upd gD 0 r))))))]) ++ [(ad 0, .inr (11, [.int cd, .int (nI pa.length), .ref (ad 1), .ref (ad 2), .ref (ad 3), .ref (ad 4), .ref (ad 5), .int (nI fa.length), .ref (ad 6), .ref (ad 7), .int (nI dn), .ref (ad 8), .long ex, .long ey, .long eg, .int (nI cn), .ref (ad 9), .ref (ad 10), .int (nI n), .int at0, .int fl, .int (nI ds.length), .ref (ad 11), .ref (ad 12)])), (ad 1, .inl (G.2.1 2, 16, .inr (.inl px))), (ad 2, .inl (G.2.1 2, 16, .inr (.inl py))), (ad 3, .inl (G.2.1 2, 16, .inr (.inl pz))), (ad 4, .inl (G.2.1 2, 16, .inr (.inl gr))), (ad 5, .inl (G.2.1 2, 16, .inr (.inl ou))), (ad 6, .inl (G.2.1 2, 12, .inr (.inl fx))), (ad 7, .inl (G.2.1 2, 12, .inr (.inl fy))), (ad 8, .inl (G.2.1 1, 8, .inl od)), (ad 9, .inl (G.2.1 1, 12, .inl cr)), (ad 10, .inl (G.2.1 1, 200, .inl ty)), (ad 11, .inl (G.2.1 1, 48, .inl to_)), (ad 12, .inl (G.2.1 1, 48, .inl dr))]) H locs := hW
    refine gx_callV (wr := ([(ow, .inl (G.2.1 2, 1, .inr (.inl g)))] ++ u) ++ [(oD, .inl (G.2.1 4, 1, .inr (.inr (.inr (.inl (vf_upd gD 0 r))))))]) (rest := []) C hW sL_138 (kX6_bend l G ad cd pa.length fa.length dn cn n ds.length ex ey eg at0 fl px py pz gr ou fx fy od cr ty to_ dr (FP.dmul (FP.i2d (xs (i + 1))) 4593671619917905920) (FP.dmul (FP.i2d (xs (i + 2))) 4593671619917905920) (FP.dmul (FP.i2d (xs (i + 3))) 4593671619917905920) (FP.dmul (FP.i2d (xs (i + 4))) 4593671619917905920)) ⟨0, rfl⟩ rfl rfl ⟨(by dsimp only; omega), (by dsimp only; omega)⟩ hl.1 rfl (Nat.le_of_ble_eq_true rfl) dL_law_1576 ⟨(by dsimp only; omega), (by dsimp only; omega)⟩ (fun v9 u9 H locs hm hW => ?_)
    obtain ⟨bb, rfl, hval, hout⟩ := pr_bend_0 (ow := ow) (oD := oD) (cd := cd) (at0 := at0) (fl := fl) (dr := dr) hrl hpo hm
    obtain ⟨cd9, pn9, fn9, dn9, cn9, sn9, tn9, ex9, ey9, eg9, at9, fl9, px9, py9, pz9, gr9, ou9, fx9, fy9, od9, cr9, ty9, to9, dr9, rfl, hcd, hnew⟩ := hout
    subst hval
    have hW : gx_W G A s ((([(ow, .inl (G.2.1 2, 1, .inr (.inl g)))] ++ u) ++ [(oD, .inl (G.2.1 4, 1, .inr (.inr (.inr (.inl (vf_upd gD 0 r))))))]) ++ [(ad 0, .inr (11, [.int cd9, .int (nI pn9), .ref (ad 1), .ref (ad 2), .ref (ad 3), .ref (ad 4), .ref (ad 5), .int (nI fn9), .ref (ad 6), .ref (ad 7), .int (nI dn9), .ref (ad 8), .long ex9, .long ey9, .long eg9, .int (nI cn9), .ref (ad 9), .ref (ad 10), .int (nI sn9), .int at9, .int fl9, .int (nI tn9), .ref (ad 11), .ref (ad 12)])), (ad 1, .inl (G.2.1 2, 16, .inr (.inl px9))), (ad 2, .inl (G.2.1 2, 16, .inr (.inl py9))), (ad 3, .inl (G.2.1 2, 16, .inr (.inl pz9))), (ad 4, .inl (G.2.1 2, 16, .inr (.inl gr9))), (ad 5, .inl (G.2.1 2, 16, .inr (.inl ou9))), (ad 6, .inl (G.2.1 2, 12, .inr (.inl fx9))), (ad 7, .inl (G.2.1 2, 12, .inr (.inl fy9))), (ad 8, .inl (G.2.1 1, 8, .inl od9)), (ad 9, .inl (G.2.1 1, 12, .inl cr9)), (ad 10, .inl (G.2.1 1, 200, .inl ty9)), (ad 11, .inl (G.2.1 1, 48, .inl to9)), (ad 12, .inl (G.2.1 1, 48, .inl dr9))]) H locs := hW
    refine W.eq (g2 := F0 m 1579 ls [.double r]) rfl ?_
    refine W.widen (k := cells + 1 + 0) (n := slots + 6 + 0) (by dsimp only; omega) (by dsimp only; omega) ?_
    refine lv_dstore (lv' := [(7, .double r), (6, .int 0), (5, .int (nI i)), (4, .ref oD), (3, .ref ow), (2, .ref (ad 0)), (1, .ref x), (0, .ref b0)]) gX gB dL_law_1579 hl (by decide) rfl (fun ls hl => ?_)
    refine lv_aload_n gX gB dL_law_1581 rfl (lv_at hl 5 rfl) ?_
    refine gx_callV (wr := ([(ow, .inl (G.2.1 2, 1, .inr (.inl g)))] ++ u) ++ [(oD, .inl (G.2.1 4, 1, .inr (.inr (.inr (.inl (vf_upd gD 0 r))))))]) (rest := []) C hW sL_81 (kX6_thrown l G ad cd9 pn9 fn9 dn9 cn9 sn9 tn9 ex9 ey9 eg9 at9 fl9 px9 py9 pz9 gr9 ou9 fx9 fy9 od9 cr9 ty9 to9 dr9) ⟨0, rfl⟩ rfl rfl ⟨(by dsimp only; omega), (by dsimp only; omega)⟩ hl.1 rfl (Nat.le_of_ble_eq_true rfl) dL_law_1582 ⟨(by dsimp only; omega), (by dsimp only; omega)⟩ (fun v9 u9 H locs hp hW => ?_)
    obtain ⟨rfl, rfl⟩ := hp
    have hW : gx_W G A s ((([(ow, .inl (G.2.1 2, 1, .inr (.inl g)))] ++ u) ++ [(oD, .inl (G.2.1 4, 1, .inr (.inr (.inr (.inl (vf_upd gD 0 r))))))]) ++ [(ad 0, .inr (11, [.int cd9, .int (nI pn9), .ref (ad 1), .ref (ad 2), .ref (ad 3), .ref (ad 4), .ref (ad 5), .int (nI fn9), .ref (ad 6), .ref (ad 7), .int (nI dn9), .ref (ad 8), .long ex9, .long ey9, .long eg9, .int (nI cn9), .ref (ad 9), .ref (ad 10), .int (nI sn9), .int at9, .int fl9, .int (nI tn9), .ref (ad 11), .ref (ad 12)])), (ad 1, .inl (G.2.1 2, 16, .inr (.inl px9))), (ad 2, .inl (G.2.1 2, 16, .inr (.inl py9))), (ad 3, .inl (G.2.1 2, 16, .inr (.inl pz9))), (ad 4, .inl (G.2.1 2, 16, .inr (.inl gr9))), (ad 5, .inl (G.2.1 2, 16, .inr (.inl ou9))), (ad 6, .inl (G.2.1 2, 12, .inr (.inl fx9))), (ad 7, .inl (G.2.1 2, 12, .inr (.inl fy9))), (ad 8, .inl (G.2.1 1, 8, .inl od9)), (ad 9, .inl (G.2.1 1, 12, .inl cr9)), (ad 10, .inl (G.2.1 1, 200, .inl ty9)), (ad 11, .inl (G.2.1 1, 48, .inl to9)), (ad 12, .inl (G.2.1 1, 48, .inl dr9))]) H locs := hW
    have hW := gx_W.ofM hW
    have hW : gx_W G A s (((oD, .inl (G.2.1 4, 1, .inr (.inr (.inr (.inl (vf_upd gD 0 r)))))) :: [(ad 0, .inr (11, [.int cd9, .int (nI pn9), .ref (ad 1), .ref (ad 2), .ref (ad 3), .ref (ad 4), .ref (ad 5), .int (nI fn9), .ref (ad 6), .ref (ad 7), .int (nI dn9), .ref (ad 8), .long ex9, .long ey9, .long eg9, .int (nI cn9), .ref (ad 9), .ref (ad 10), .int (nI sn9), .int at9, .int fl9, .int (nI tn9), .ref (ad 11), .ref (ad 12)])), (ad 1, .inl (G.2.1 2, 16, .inr (.inl px9))), (ad 2, .inl (G.2.1 2, 16, .inr (.inl py9))), (ad 3, .inl (G.2.1 2, 16, .inr (.inl pz9))), (ad 4, .inl (G.2.1 2, 16, .inr (.inl gr9))), (ad 5, .inl (G.2.1 2, 16, .inr (.inl ou9))), (ad 6, .inl (G.2.1 2, 12, .inr (.inl fx9))), (ad 7, .inl (G.2.1 2, 12, .inr (.inl fy9))), (ad 8, .inl (G.2.1 1, 8, .inl od9)), (ad 9, .inl (G.2.1 1, 12, .inl cr9)), (ad 10, .inl (G.2.1 1, 200, .inl ty9)), (ad 11, .inl (G.2.1 1, 48, .inl to9)), (ad 12, .inl (G.2.1 1, 48, .inl dr9))]) ++ ([(ow, .inl (G.2.1 2, 1, .inr (.inl g)))] ++ u)) H locs := hW
    refine W.eq (g2 := F0 m 1585 ls [.int cd9]) rfl ?_
    refine W.widen (k := cells + 1 + 0 + 0) (n := slots + 6 + 0 + 0) (by dsimp only; omega) (by dsimp only; omega) ?_
    refine lv_iload gX gB dL_law_1585 (lv_at hl 1 rfl) ?_
    refine lv_icmp_eq (tgt := 1592) gX gB dL_law_1587 (by decide) (fun _ => ?_) (fun h9 => absurd (show cd9 = (0 : Int32) from hcd) h9)
    refine lv_iload gX gB dL_law_1592 (lv_at hl 1 rfl) ?_
    refine lv_if_ne (tgt := 1629) gX gB dL_law_1594 (by decide) (fun h9 => absurd (show ¬ 0 = (0 : Int32) from h9) (by decide)) (fun _ => ?_)
    refine lv_aload gX gB dL_law_1597 (lv_at hl 3 rfl) ?_
    refine lv_iconst (v := 0) gX gB dL_law_1599 (by decide) ?_
    refine gx_dald C hW (a := oD) (g := vf_upd gD 0 r) (j := 0) ⟨0, rfl⟩ rfl (by decide) (by decide) dL_law_1600 ?_
    refine W.eq (g2 := F0 m 1601 ls [.double r]) rfl ?_
    refine lv_dload gX gB dL_law_1601 (lv_at hl 0 rfl) ?_
    refine lv_dcmp gX gB dL_law_1603 ?_
    refine lv_if_eq (tgt := 1629) gX gB dL_law_1604 (by decide) (fun c1604 => ?_) (fun c1604 => ?_)
    · refine lv_goto (tgt := 1766) gX gB dL_law_1629 (by decide) ?_
      refine W.widen (k := cells + 64) (n := slots + 2000) (by omega) (by omega) ?_
      exact kk _ _ _ _ (hnew _ _) hW (lv_sub hl [2, 3, 4, 5, 6, 7] rfl)
    · refine lv_aload gX gB dL_law_1607 (lv_at hl 3 rfl) ?_
      refine lv_iconst (v := 0) gX gB dL_law_1609 (by decide) ?_
      refine gx_dald C hW (a := oD) (g := vf_upd gD 0 r) (j := 0) ⟨0, rfl⟩ rfl (by decide) (by decide) dL_law_1610 ?_
      refine W.eq (g2 := F0 m 1611 ls [.double r]) rfl ?_
      refine lv_aload gX gB dL_law_1611 (lv_at hl 3 rfl) ?_
      refine lv_iconst (v := 0) gX gB dL_law_1613 (by decide) ?_
      refine gx_dald C hW (a := oD) (g := vf_upd gD 0 r) (j := 0) ⟨0, rfl⟩ rfl (by decide) (by decide) dL_law_1614 ?_
      refine W.eq (g2 := F0 m 1615 ls [.double r, .double r]) rfl ?_
      refine lv_dcmp gX gB dL_law_1615 ?_
      refine lv_if_eq (tgt := 1627) gX gB dL_law_1616 (by decide) (fun h9 => absurd (show (Op.cmpValue (FP.dcmp r r) CmpOp.l) = (0 : Int32) from h9) (c1604)) (fun _ => ?_)
      refine lv_dload gX gB dL_law_1619 (lv_at hl 0 rfl) ?_
      refine lv_dload gX gB dL_law_1621 (lv_at hl 0 rfl) ?_
      refine lv_dcmp gX gB dL_law_1623 ?_
      refine lv_if_ne (tgt := 1629) gX gB dL_law_1624 (by decide) (fun _ => ?_) (fun h9 => absurd h9 (show ¬ (Op.cmpValue (FP.dcmp r r) CmpOp.l) = (0 : Int32) from c1604))
      refine lv_goto (tgt := 1766) gX gB dL_law_1629 (by decide) ?_
      refine W.widen (k := cells + 64) (n := slots + 2000) (by omega) (by omega) ?_
      exact kk _ _ _ _ (hnew _ _) hW (lv_sub hl [2, 3, 4, 5, 6, 7] rfl)
  · have hW : gx_W G A s ((([(ad 0, .inr (11, [.int cd, .int (nI pa.length), .ref (ad 1), .ref (ad 2), .ref (ad 3), .ref (ad 4), .ref (ad 5), .int (nI fa.length), .ref (ad 6), .ref (ad 7), .int (nI dn), .ref (ad 8), .long ex, .long ey, .long eg, .int (nI cn), .ref (ad 9), .ref (ad 10), .int (nI n), .int at0, .int fl, .int (nI ds.length), .ref (ad 11), .ref (ad 12)])), (ad 1, .inl (G.2.1 2, 16, .inr (.inl px))), (ad 2, .inl (G.2.1 2, 16, .inr (.inl py))), (ad 3, .inl (G.2.1 2, 16, .inr (.inl pz))), (ad 4, .inl (G.2.1 2, 16, .inr (.inl gr))), (ad 5, .inl (G.2.1 2, 16, .inr (.inl ou))), (ad 6, .inl (G.2.1 2, 12, .inr (.inl fx))), (ad 7, .inl (G.2.1 2, 12, .inr (.inl fy))), (ad 8, .inl (G.2.1 1, 8, .inl od)), (ad 9, .inl (G.2.1 1, 12, .inl cr)), (ad 10, .inl (G.2.1 1, 200, .inl ty)), (ad 11, .inl (G.2.1 1, 48, .inl to_)), (ad 12, .inl (G.2.1 1, 48, .inl dr))] : va_W) ++ ([(ow, .inl (G.2.1 2, 1, .inr (.inl g)))] : va_W)) ++ (([(oD, .inl (G.2.1 4, 1, .inr (.inr (.inr (.inl gD)))))] : va_W) ++ u)) H locs := hW
    have hW := gx_W.ofD hW
    have hW : gx_W G A s (((oD, .inl (G.2.1 4, 1, .inr (.inr (.inr (.inl gD))))) :: ([(ad 0, .inr (11, [.int cd, .int (nI pa.length), .ref (ad 1), .ref (ad 2), .ref (ad 3), .ref (ad 4), .ref (ad 5), .int (nI fa.length), .ref (ad 6), .ref (ad 7), .int (nI dn), .ref (ad 8), .long ex, .long ey, .long eg, .int (nI cn), .ref (ad 9), .ref (ad 10), .int (nI n), .int at0, .int fl, .int (nI ds.length), .ref (ad 11), .ref (ad 12)])), (ad 1, .inl (G.2.1 2, 16, .inr (.inl px))), (ad 2, .inl (G.2.1 2, 16, .inr (.inl py))), (ad 3, .inl (G.2.1 2, 16, .inr (.inl pz))), (ad 4, .inl (G.2.1 2, 16, .inr (.inl gr))), (ad 5, .inl (G.2.1 2, 16, .inr (.inl ou))), (ad 6, .inl (G.2.1 2, 12, .inr (.inl fx))), (ad 7, .inl (G.2.1 2, 12, .inr (.inl fy))), (ad 8, .inl (G.2.1 1, 8, .inl od)), (ad 9, .inl (G.2.1 1, 12, .inl cr)), (ad 10, .inl (G.2.1 1, 200, .inl ty)), (ad 11, .inl (G.2.1 1, 48, .inl to_)), (ad 12, .inl (G.2.1 1, 48, .inl dr))] : va_W)) ++ ([(ow, .inl (G.2.1 2, 1, .inr (.inl g)))] ++ u)) H locs := hW
    refine W.eq (g2 := F0 m 1529 ls [.int 1]) rfl ?_
    refine W.widen (k := cells + 1) (n := slots + 6) (by dsimp only; omega) (by dsimp only; omega) ?_
    refine lv_istore (lv' := [(6, .int 1), (5, .int (nI i)), (4, .ref oD), (3, .ref ow), (2, .ref (ad 0)), (1, .ref x), (0, .ref b0)]) gX gB dL_law_1529 hl (by decide) rfl (fun ls hl => ?_)
    refine lv_aload_n gX gB dL_law_1531 rfl (lv_at hl 4 rfl) ?_
    refine lv_aload_n gX gB dL_law_1532 rfl (lv_at hl 6 rfl) ?_
    refine lv_iload gX gB dL_law_1533 (lv_at hl 1 rfl) ?_
    refine lv_iconst (v := 1) gX gB dL_law_1535 (by decide) ?_
    refine lv_iadd gX gB dL_law_1536 ?_
    refine gx_topi (show ((nI i) + 1) = nI (i + 1) from nI_add i 1) ?_
    refine va_sld C.x C.b hX hbl hbA hW.2.2 (nI_in (by omega) (by omega)) dL_law_1537 ?_
    refine gx_topi (show xs (nI (i + 1)).toNatClampNeg = xs (i + 1) from by rw [nI_clamp (by omega)]) ?_
    refine lv_i2d gX gB dL_law_1538 ?_
    refine lv_ldc2d (v := 4593671619917905920) gX gB C.hown (C.ts _ (tq_6 3 (by decide +kernel) rfl)) dL_law_1539 ?_
    refine lv_dmul gX gB dL_law_1542 ((fp_mfin (fp_i2d _).1 ⟨_, _, _, fp_kl⟩).1) ?_
    refine lv_aload_n gX gB dL_law_1543 rfl (lv_at hl 6 rfl) ?_
    refine lv_iload gX gB dL_law_1544 (lv_at hl 1 rfl) ?_
    refine lv_iconst (v := 2) gX gB dL_law_1546 (by decide) ?_
    refine lv_iadd gX gB dL_law_1547 ?_
    refine gx_topi (show ((nI i) + 2) = nI (i + 2) from nI_add i 2) ?_
    refine va_sld C.x C.b hX hbl hbA hW.2.2 (nI_in (by omega) (by omega)) dL_law_1548 ?_
    refine gx_topi (show xs (nI (i + 2)).toNatClampNeg = xs (i + 2) from by rw [nI_clamp (by omega)]) ?_
    refine lv_i2d gX gB dL_law_1549 ?_
    refine lv_ldc2d (v := 4593671619917905920) gX gB C.hown (C.ts _ (tq_6 3 (by decide +kernel) rfl)) dL_law_1550 ?_
    refine lv_dmul gX gB dL_law_1553 ((fp_mfin (fp_i2d _).1 ⟨_, _, _, fp_kl⟩).1) ?_
    refine lv_aload_n gX gB dL_law_1554 rfl (lv_at hl 6 rfl) ?_
    refine lv_iload gX gB dL_law_1555 (lv_at hl 1 rfl) ?_
    refine lv_iconst (v := 3) gX gB dL_law_1557 (by decide) ?_
    refine lv_iadd gX gB dL_law_1558 ?_
    refine gx_topi (show ((nI i) + 3) = nI (i + 3) from nI_add i 3) ?_
    refine va_sld C.x C.b hX hbl hbA hW.2.2 (nI_in (by omega) (by omega)) dL_law_1559 ?_
    refine gx_topi (show xs (nI (i + 3)).toNatClampNeg = xs (i + 3) from by rw [nI_clamp (by omega)]) ?_
    refine lv_i2d gX gB dL_law_1560 ?_
    refine lv_ldc2d (v := 4593671619917905920) gX gB C.hown (C.ts _ (tq_6 3 (by decide +kernel) rfl)) dL_law_1561 ?_
    refine lv_dmul gX gB dL_law_1564 ((fp_mfin (fp_i2d _).1 ⟨_, _, _, fp_kl⟩).1) ?_
    refine lv_aload_n gX gB dL_law_1565 rfl (lv_at hl 6 rfl) ?_
    refine lv_iload gX gB dL_law_1566 (lv_at hl 1 rfl) ?_
    refine lv_iconst (v := 4) gX gB dL_law_1568 (by decide) ?_
    refine lv_iadd gX gB dL_law_1569 ?_
    refine gx_topi (show ((nI i) + 4) = nI (i + 4) from nI_add i 4) ?_
    refine va_sld C.x C.b hX hbl hbA hW.2.2 (nI_in (by omega) (by omega)) dL_law_1570 ?_
    refine gx_topi (show xs (nI (i + 4)).toNatClampNeg = xs (i + 4) from by rw [nI_clamp (by omega)]) ?_
    refine lv_i2d gX gB dL_law_1571 ?_
    refine lv_ldc2d (v := 4593671619917905920) gX gB C.hown (C.ts _ (tq_6 3 (by decide +kernel) rfl)) dL_law_1572 ?_
    refine lv_dmul gX gB dL_law_1575 ((fp_mfin (fp_i2d _).1 ⟨_, _, _, fp_kl⟩).1) ?_
    have hW := gx_W.toM hW
    have hW : gx_W G A s ((([(ow, .inl (G.2.1 2, 1, .inr (.inl g)))] ++ u) ++ [(oD, .inl (G.2.1 4, 1, .inr (.inr (.inr (.inl gD)))))]) ++ [(ad 0, .inr (11, [.int cd, .int (nI pa.length), .ref (ad 1), .ref (ad 2), .ref (ad 3), .ref (ad 4), .ref (ad 5), .int (nI fa.length), .ref (ad 6), .ref (ad 7), .int (nI dn), .ref (ad 8), .long ex, .long ey, .long eg, .int (nI cn), .ref (ad 9), .ref (ad 10), .int (nI n), .int at0, .int fl, .int (nI ds.length), .ref (ad 11), .ref (ad 12)])), (ad 1, .inl (G.2.1 2, 16, .inr (.inl px))), (ad 2, .inl (G.2.1 2, 16, .inr (.inl py))), (ad 3, .inl (G.2.1 2, 16, .inr (.inl pz))), (ad 4, .inl (G.2.1 2, 16, .inr (.inl gr))), (ad 5, .inl (G.2.1 2, 16, .inr (.inl ou))), (ad 6, .inl (G.2.1 2, 12, .inr (.inl fx))), (ad 7, .inl (G.2.1 2, 12, .inr (.inl fy))), (ad 8, .inl (G.2.1 1, 8, .inl od)), (ad 9, .inl (G.2.1 1, 12, .inl cr)), (ad 10, .inl (G.2.1 1, 200, .inl ty)), (ad 11, .inl (G.2.1 1, 48, .inl to_)), (ad 12, .inl (G.2.1 1, 48, .inl dr))]) H locs := hW
    refine gx_callV (wr := ([(ow, .inl (G.2.1 2, 1, .inr (.inl g)))] ++ u) ++ [(oD, .inl (G.2.1 4, 1, .inr (.inr (.inr (.inl gD)))))]) (rest := []) C hW sL_138 (kX6_bend l G ad cd pa.length fa.length dn cn n ds.length ex ey eg at0 fl px py pz gr ou fx fy od cr ty to_ dr (FP.dmul (FP.i2d (xs (i + 1))) 4593671619917905920) (FP.dmul (FP.i2d (xs (i + 2))) 4593671619917905920) (FP.dmul (FP.i2d (xs (i + 3))) 4593671619917905920) (FP.dmul (FP.i2d (xs (i + 4))) 4593671619917905920)) ⟨0, rfl⟩ rfl rfl ⟨(by dsimp only; omega), (by dsimp only; omega)⟩ hl.1 rfl (Nat.le_of_ble_eq_true rfl) dL_law_1576 ⟨(by dsimp only; omega), (by dsimp only; omega)⟩ (fun v9 u9 H locs hm hW => ?_)
    obtain ⟨bb, rfl, hval, hout⟩ := pr_bend_1 (ow := ow) (oD := oD) (cd := cd) (at0 := at0) (fl := fl) (dr := dr) hrl hpx9 hm
    obtain ⟨cd9, pn9, fn9, dn9, cn9, sn9, tn9, ex9, ey9, eg9, at9, fl9, px9, py9, pz9, gr9, ou9, fx9, fy9, od9, cr9, ty9, to9, dr9, rfl, hcd, hnew⟩ := hout
    have hW : gx_W G A s ((([(ow, .inl (G.2.1 2, 1, .inr (.inl g)))] ++ u) ++ [(oD, .inl (G.2.1 4, 1, .inr (.inr (.inr (.inl gD)))))]) ++ [(ad 0, .inr (11, [.int cd9, .int (nI pn9), .ref (ad 1), .ref (ad 2), .ref (ad 3), .ref (ad 4), .ref (ad 5), .int (nI fn9), .ref (ad 6), .ref (ad 7), .int (nI dn9), .ref (ad 8), .long ex9, .long ey9, .long eg9, .int (nI cn9), .ref (ad 9), .ref (ad 10), .int (nI sn9), .int at9, .int fl9, .int (nI tn9), .ref (ad 11), .ref (ad 12)])), (ad 1, .inl (G.2.1 2, 16, .inr (.inl px9))), (ad 2, .inl (G.2.1 2, 16, .inr (.inl py9))), (ad 3, .inl (G.2.1 2, 16, .inr (.inl pz9))), (ad 4, .inl (G.2.1 2, 16, .inr (.inl gr9))), (ad 5, .inl (G.2.1 2, 16, .inr (.inl ou9))), (ad 6, .inl (G.2.1 2, 12, .inr (.inl fx9))), (ad 7, .inl (G.2.1 2, 12, .inr (.inl fy9))), (ad 8, .inl (G.2.1 1, 8, .inl od9)), (ad 9, .inl (G.2.1 1, 12, .inl cr9)), (ad 10, .inl (G.2.1 1, 200, .inl ty9)), (ad 11, .inl (G.2.1 1, 48, .inl to9)), (ad 12, .inl (G.2.1 1, 48, .inl dr9))]) H locs := hW
    refine W.eq (g2 := F0 m 1579 ls [.double bb]) rfl ?_
    refine W.widen (k := cells + 1 + 0) (n := slots + 6 + 0) (by dsimp only; omega) (by dsimp only; omega) ?_
    refine lv_dstore (lv' := [(7, .double bb), (6, .int 1), (5, .int (nI i)), (4, .ref oD), (3, .ref ow), (2, .ref (ad 0)), (1, .ref x), (0, .ref b0)]) gX gB dL_law_1579 hl (by decide) rfl (fun ls hl => ?_)
    refine lv_aload_n gX gB dL_law_1581 rfl (lv_at hl 5 rfl) ?_
    refine gx_callV (wr := ([(ow, .inl (G.2.1 2, 1, .inr (.inl g)))] ++ u) ++ [(oD, .inl (G.2.1 4, 1, .inr (.inr (.inr (.inl gD)))))]) (rest := []) C hW sL_81 (kX6_thrown l G ad cd9 pn9 fn9 dn9 cn9 sn9 tn9 ex9 ey9 eg9 at9 fl9 px9 py9 pz9 gr9 ou9 fx9 fy9 od9 cr9 ty9 to9 dr9) ⟨0, rfl⟩ rfl rfl ⟨(by dsimp only; omega), (by dsimp only; omega)⟩ hl.1 rfl (Nat.le_of_ble_eq_true rfl) dL_law_1582 ⟨(by dsimp only; omega), (by dsimp only; omega)⟩ (fun v9 u9 H locs hp hW => ?_)
    obtain ⟨rfl, rfl⟩ := hp
    have hW : gx_W G A s ((([(ow, .inl (G.2.1 2, 1, .inr (.inl g)))] ++ u) ++ [(oD, .inl (G.2.1 4, 1, .inr (.inr (.inr (.inl gD)))))]) ++ [(ad 0, .inr (11, [.int cd9, .int (nI pn9), .ref (ad 1), .ref (ad 2), .ref (ad 3), .ref (ad 4), .ref (ad 5), .int (nI fn9), .ref (ad 6), .ref (ad 7), .int (nI dn9), .ref (ad 8), .long ex9, .long ey9, .long eg9, .int (nI cn9), .ref (ad 9), .ref (ad 10), .int (nI sn9), .int at9, .int fl9, .int (nI tn9), .ref (ad 11), .ref (ad 12)])), (ad 1, .inl (G.2.1 2, 16, .inr (.inl px9))), (ad 2, .inl (G.2.1 2, 16, .inr (.inl py9))), (ad 3, .inl (G.2.1 2, 16, .inr (.inl pz9))), (ad 4, .inl (G.2.1 2, 16, .inr (.inl gr9))), (ad 5, .inl (G.2.1 2, 16, .inr (.inl ou9))), (ad 6, .inl (G.2.1 2, 12, .inr (.inl fx9))), (ad 7, .inl (G.2.1 2, 12, .inr (.inl fy9))), (ad 8, .inl (G.2.1 1, 8, .inl od9)), (ad 9, .inl (G.2.1 1, 12, .inl cr9)), (ad 10, .inl (G.2.1 1, 200, .inl ty9)), (ad 11, .inl (G.2.1 1, 48, .inl to9)), (ad 12, .inl (G.2.1 1, 48, .inl dr9))]) H locs := hW
    have hW := gx_W.ofM hW
    have hW : gx_W G A s (((oD, .inl (G.2.1 4, 1, .inr (.inr (.inr (.inl gD))))) :: [(ad 0, .inr (11, [.int cd9, .int (nI pn9), .ref (ad 1), .ref (ad 2), .ref (ad 3), .ref (ad 4), .ref (ad 5), .int (nI fn9), .ref (ad 6), .ref (ad 7), .int (nI dn9), .ref (ad 8), .long ex9, .long ey9, .long eg9, .int (nI cn9), .ref (ad 9), .ref (ad 10), .int (nI sn9), .int at9, .int fl9, .int (nI tn9), .ref (ad 11), .ref (ad 12)])), (ad 1, .inl (G.2.1 2, 16, .inr (.inl px9))), (ad 2, .inl (G.2.1 2, 16, .inr (.inl py9))), (ad 3, .inl (G.2.1 2, 16, .inr (.inl pz9))), (ad 4, .inl (G.2.1 2, 16, .inr (.inl gr9))), (ad 5, .inl (G.2.1 2, 16, .inr (.inl ou9))), (ad 6, .inl (G.2.1 2, 12, .inr (.inl fx9))), (ad 7, .inl (G.2.1 2, 12, .inr (.inl fy9))), (ad 8, .inl (G.2.1 1, 8, .inl od9)), (ad 9, .inl (G.2.1 1, 12, .inl cr9)), (ad 10, .inl (G.2.1 1, 200, .inl ty9)), (ad 11, .inl (G.2.1 1, 48, .inl to9)), (ad 12, .inl (G.2.1 1, 48, .inl dr9))]) ++ ([(ow, .inl (G.2.1 2, 1, .inr (.inl g)))] ++ u)) H locs := hW
    refine W.eq (g2 := F0 m 1585 ls [.int cd9]) rfl ?_
    refine W.widen (k := cells + 1 + 0 + 0) (n := slots + 6 + 0 + 0) (by dsimp only; omega) (by dsimp only; omega) ?_
    refine lv_iload gX gB dL_law_1585 (lv_at hl 1 rfl) ?_
    refine lv_icmp_eq (tgt := 1592) gX gB dL_law_1587 (by decide) (fun _ => ?_) (fun h9 => absurd (show cd9 = (1 : Int32) from hcd) h9)
    refine lv_iload gX gB dL_law_1592 (lv_at hl 1 rfl) ?_
    refine lv_if_ne (tgt := 1629) gX gB dL_law_1594 (by decide) (fun _ => ?_) (fun h9 => absurd h9 (show ¬ 1 = (0 : Int32) from by decide))
    refine lv_goto (tgt := 1766) gX gB dL_law_1629 (by decide) ?_
    refine W.widen (k := cells + 64) (n := slots + 2000) (by omega) (by omega) ?_
    exact kk _ _ _ _ (hnew _ _) hW (lv_sub hl [2, 3, 4, 5, 6, 7] rfl)
set_option maxRecDepth 100000 in
theorem pr_creep_0 {G : gx_T} {L : List Nat} {f : Nat → va_E} {x ow oD : Nat} {ad : Nat → Nat} {P F S X N T E : Nat} {dn : Nat} {bP : Option Nat} {pa : List Nat} {ps : Nat → ld_T} {bF : Option Nat} {fa : List Nat} {fd : Nat → ft_T} {bS : Option Nat} {sa : List Nat} {sd : Nat → sd_T} {b cap n : Nat} {t : Nat → Nat} {bT : Option Nat} {ta : List Nat} {ds : List rt_T} {ex ey eg : Int64} {cn : Nat} {cf : Nat → Nat} {px py pz gr ou fx fy : Nat → Int64} {od cr ty to_ : Nat → Int32} {cd at0 fl : Int32} {dr : Nat → Int32} {p0 : Int32} (hrl : rl_at G L f x P F S X N T E dn bP pa ps bF fa fd bS sa sd b cap n t bT ta ds ex ey eg cn cf px py pz gr ou fx fy od cr ty to_) {u M : va_W} {v : Option Value}  {r : UInt64} (hpo : (fun (v : Option Value) (u : va_W) => v = some (.double (yc_val p0)) ∧ u = (va_pl L f) ∧ yc_code p0 = 0) (some (.double r)) u) (hm : (fun (v : Option Value) (u : va_W) => (yc_code p0 = 0 ∧ v = some (.double (yc_val p0)) ∧ u = [(ad 0, .inr (11, [.int 0, .int (nI pa.length), .ref (ad 1), .ref (ad 2), .ref (ad 3), .ref (ad 4), .ref (ad 5), .int (nI fa.length), .ref (ad 6), .ref (ad 7), .int (nI dn), .ref (ad 8), .long ex, .long ey, .long eg, .int (nI cn), .ref (ad 9), .ref (ad 10), .int (nI n), .int at0, .int fl, .int (nI ds.length), .ref (ad 11), .ref (ad 12)])), (ad 1, .inl (G.2.1 2, 16, .inr (.inl px))), (ad 2, .inl (G.2.1 2, 16, .inr (.inl py))), (ad 3, .inl (G.2.1 2, 16, .inr (.inl pz))), (ad 4, .inl (G.2.1 2, 16, .inr (.inl gr))), (ad 5, .inl (G.2.1 2, 16, .inr (.inl ou))), (ad 6, .inl (G.2.1 2, 12, .inr (.inl fx))), (ad 7, .inl (G.2.1 2, 12, .inr (.inl fy))), (ad 8, .inl (G.2.1 1, 8, .inl od)), (ad 9, .inl (G.2.1 1, 12, .inl cr)), (ad 10, .inl (G.2.1 1, 200, .inl ty)), (ad 11, .inl (G.2.1 1, 48, .inl to_)), (ad 12, .inl (G.2.1 1, 48, .inl dr))]) ∨ (¬ yc_code p0 = 0 ∧ v = some (.double FP.dconst0) ∧ u = [(ad 0, .inr (11, [.int (yc_code p0), .int (nI pa.length), .ref (ad 1), .ref (ad 2), .ref (ad 3), .ref (ad 4), .ref (ad 5), .int (nI fa.length), .ref (ad 6), .ref (ad 7), .int (nI dn), .ref (ad 8), .long ex, .long ey, .long eg, .int (nI cn), .ref (ad 9), .ref (ad 10), .int (nI n), .int at0, .int fl, .int (nI ds.length), .ref (ad 11), .ref (ad 12)])), (ad 1, .inl (G.2.1 2, 16, .inr (.inl px))), (ad 2, .inl (G.2.1 2, 16, .inr (.inl py))), (ad 3, .inl (G.2.1 2, 16, .inr (.inl pz))), (ad 4, .inl (G.2.1 2, 16, .inr (.inl gr))), (ad 5, .inl (G.2.1 2, 16, .inr (.inl ou))), (ad 6, .inl (G.2.1 2, 12, .inr (.inl fx))), (ad 7, .inl (G.2.1 2, 12, .inr (.inl fy))), (ad 8, .inl (G.2.1 1, 8, .inl od)), (ad 9, .inl (G.2.1 1, 12, .inl cr)), (ad 10, .inl (G.2.1 1, 200, .inl ty)), (ad 11, .inl (G.2.1 1, 48, .inl to_)), (ad 12, .inl (G.2.1 1, 48, .inl dr))])) v M) : ∃ bb : UInt64, v = some (.double bb) ∧ r = bb ∧ lw_out G x ow oD ad 0 u M := by
  obtain ⟨e1, rfl, hc⟩ := hpo
  rcases hm with ⟨-, rfl, rfl⟩ | ⟨h1, -, -⟩
  · injection e1 with e1
    injection e1 with e1
    exact ⟨_, rfl, e1, ⟨(0), pa.length, fa.length, dn, cn, n, ds.length, ex, ey, eg, at0, fl, px, py, pz, gr, ou, fx, fy, od, cr, ty, to_, dr, rfl, rfl, fun g gD => ⟨L, f, P, F, S, X, N, T, E, dn, bP, pa, ps, bF, fa, fd, bS, sa, sd, b, cap, n, t, bT, ta, ds, ex, ey, eg, cn, cf, px, py, pz, gr, ou, fx, fy, od, cr, ty, to_, _, at0, fl, dr, g, gD, rfl, hrl⟩⟩⟩
  · exact absurd hc h1
set_option maxRecDepth 100000 in
theorem pr_creep_1 {G : gx_T} {L : List Nat} {f : Nat → va_E} {x ow oD : Nat} {ad : Nat → Nat} {P F S X N T E : Nat} {dn : Nat} {bP : Option Nat} {pa : List Nat} {ps : Nat → ld_T} {bF : Option Nat} {fa : List Nat} {fd : Nat → ft_T} {bS : Option Nat} {sa : List Nat} {sd : Nat → sd_T} {b cap n : Nat} {t : Nat → Nat} {bT : Option Nat} {ta : List Nat} {ds : List rt_T} {ex ey eg : Int64} {cn : Nat} {cf : Nat → Nat} {px py pz gr ou fx fy : Nat → Int64} {od cr ty to_ : Nat → Int32} {cd at0 fl : Int32} {dr : Nat → Int32} {p0 : Int32} (hrl : rl_at G L f x P F S X N T E dn bP pa ps bF fa fd bS sa sd b cap n t bT ta ds ex ey eg cn cf px py pz gr ou fx fy od cr ty to_) {u M : va_W} {v : Option Value}  (hpo : (fun (Ex : String) (u : va_W) => u = (va_pl L f) ∧ px1 gx_E2 (yc_code p0) Ex) gx_E2 u) (hm : (fun (v : Option Value) (u : va_W) => (yc_code p0 = 0 ∧ v = some (.double (yc_val p0)) ∧ u = [(ad 0, .inr (11, [.int 0, .int (nI pa.length), .ref (ad 1), .ref (ad 2), .ref (ad 3), .ref (ad 4), .ref (ad 5), .int (nI fa.length), .ref (ad 6), .ref (ad 7), .int (nI dn), .ref (ad 8), .long ex, .long ey, .long eg, .int (nI cn), .ref (ad 9), .ref (ad 10), .int (nI n), .int at0, .int fl, .int (nI ds.length), .ref (ad 11), .ref (ad 12)])), (ad 1, .inl (G.2.1 2, 16, .inr (.inl px))), (ad 2, .inl (G.2.1 2, 16, .inr (.inl py))), (ad 3, .inl (G.2.1 2, 16, .inr (.inl pz))), (ad 4, .inl (G.2.1 2, 16, .inr (.inl gr))), (ad 5, .inl (G.2.1 2, 16, .inr (.inl ou))), (ad 6, .inl (G.2.1 2, 12, .inr (.inl fx))), (ad 7, .inl (G.2.1 2, 12, .inr (.inl fy))), (ad 8, .inl (G.2.1 1, 8, .inl od)), (ad 9, .inl (G.2.1 1, 12, .inl cr)), (ad 10, .inl (G.2.1 1, 200, .inl ty)), (ad 11, .inl (G.2.1 1, 48, .inl to_)), (ad 12, .inl (G.2.1 1, 48, .inl dr))]) ∨ (¬ yc_code p0 = 0 ∧ v = some (.double FP.dconst0) ∧ u = [(ad 0, .inr (11, [.int (yc_code p0), .int (nI pa.length), .ref (ad 1), .ref (ad 2), .ref (ad 3), .ref (ad 4), .ref (ad 5), .int (nI fa.length), .ref (ad 6), .ref (ad 7), .int (nI dn), .ref (ad 8), .long ex, .long ey, .long eg, .int (nI cn), .ref (ad 9), .ref (ad 10), .int (nI n), .int at0, .int fl, .int (nI ds.length), .ref (ad 11), .ref (ad 12)])), (ad 1, .inl (G.2.1 2, 16, .inr (.inl px))), (ad 2, .inl (G.2.1 2, 16, .inr (.inl py))), (ad 3, .inl (G.2.1 2, 16, .inr (.inl pz))), (ad 4, .inl (G.2.1 2, 16, .inr (.inl gr))), (ad 5, .inl (G.2.1 2, 16, .inr (.inl ou))), (ad 6, .inl (G.2.1 2, 12, .inr (.inl fx))), (ad 7, .inl (G.2.1 2, 12, .inr (.inl fy))), (ad 8, .inl (G.2.1 1, 8, .inl od)), (ad 9, .inl (G.2.1 1, 12, .inl cr)), (ad 10, .inl (G.2.1 1, 200, .inl ty)), (ad 11, .inl (G.2.1 1, 48, .inl to_)), (ad 12, .inl (G.2.1 1, 48, .inl dr))])) v M) : ∃ bb : UInt64, v = some (.double bb) ∧ True ∧ lw_out G x ow oD ad 1 u M := by
  obtain ⟨rfl, hp⟩ := hpo
  have hc := px1_c hp
  rcases hm with ⟨h1, -, -⟩ | ⟨-, rfl, rfl⟩
  · rw [hc] at h1
    exact absurd h1 (by decide)
  · exact ⟨_, rfl, trivial, ⟨((yc_code p0)), pa.length, fa.length, dn, cn, n, ds.length, ex, ey, eg, at0, fl, px, py, pz, gr, ou, fx, fy, od, cr, ty, to_, dr, rfl, hc, fun g gD => ⟨L, f, P, F, S, X, N, T, E, dn, bP, pa, ps, bF, fa, fd, bS, sa, sd, b, cap, n, t, bT, ta, ds, ex, ey, eg, cn, cf, px, py, pz, gr, ou, fx, fy, od, cr, ty, to_, _, at0, fl, dr, g, gD, rfl, hrl⟩⟩⟩
set_option maxHeartbeats 8000000 in
set_option maxRecDepth 100000 in
theorem lc_creep {l : Launch} (hfl : l.flags = flags0) {p : Program} {e : Env} {R : Room} {s : State} {m : MethodId} {below : List Frame} {meth : Method} {c : Code} {A : Nat → Prop} {G : gx_T} {b0 Ls : Nat} {xs : Nat → Int32} {x ow oD : Nat} {ad : Nat → Nat} {H : Heap} {locs : List Loc} {cells slots : Nat} {Q : State → Prop} {ls : Array Slot} {i : Nat} {ws : va_W} (C : gx_C G p s m #[Value.ref b0] meth c cL_law 9 RL A) (hX : va_X b0 Ls xs s s.heap) (hbl : b0 < s.heap.size) (hbA : ¬ A b0) (hi : i + 9 ≤ Ls) (hLs : Ls ≤ 4608) (hR : 100 ≤ R.frames ∧ 4000 ≤ R.locals ∧ cells + 64 ≤ R.cells ∧ slots + 2000 ≤ R.slots) (hinv : lw_inv G x ow oD ad ws) (hW : gx_W G A s ws H locs) (hl : lv_has ls 9 [(5, .int (nI i)), (4, .ref oD), (3, .ref ow), (2, .ref (ad 0)), (1, .ref x), (0, .ref b0)]) (kk : ∀ (ws2 : va_W) (H2 : Heap) (locs2 : List Loc) (ls2 : Array Slot), lw_inv G x ow oD ad ws2 → gx_W G A s ws2 H2 locs2 → lv_has ls2 9 [(5, .int (nI i)), (4, .ref oD), (3, .ref ow), (2, .ref (ad 0)), (1, .ref x), (0, .ref b0)] → W p l e R s m #[Value.ref b0] below meth c H2 locs2 (cells + 64) (slots + 2000) Q (F0 m 1766 ls2 [])) : W p l e R s m #[Value.ref b0] below meth c H locs cells slots Q (F0 m 1632 ls []) := by
  have gX := C.x
  have gB := C.b
  obtain ⟨L, f, P, F, S, X, N, T, E, dn, bP, pa, ps, bF, fa, fd, bS, sa, sd, b, cap, n, t, bT, ta, ds, ex, ey, eg, cn, cf, px, py, pz, gr, ou, fx, fy, od, cr, ty, to_, cd, at0, fl, dr, g, gD, rfl, hrl⟩ := hinv
  obtain ⟨hx, fx0, lP, lF, lS, lT, tb, hN, hE, pP, pF, pS, pT, nPF, nPS, nPT, nFS, nFT, nST, rPF, rPS, rPT, rFS, rFT, rST, nd, Nn, En, p16, f12, t12, tl, n2, d8, c12, sl, rP, rO, rQ, rF, rE, rX, rT, rD, rC, rS⟩ := id hrl
  refine lv_aload_n gX gB dL_law_1632 rfl (lv_at hl 4 rfl) ?_
  refine lv_aload_n gX gB dL_law_1633 rfl (lv_at hl 5 rfl) ?_
  refine lv_iload gX gB dL_law_1634 (lv_at hl 0 rfl) ?_
  refine lv_iconst (v := 1) gX gB dL_law_1636 (by decide) ?_
  refine lv_iadd gX gB dL_law_1637 ?_
  refine gx_topi (show ((nI i) + 1) = nI (i + 1) from nI_add i 1) ?_
  refine va_sld C.x C.b hX hbl hbA hW.2.2 (nI_in (by omega) (by omega)) dL_law_1638 ?_
  refine gx_topi (show xs (nI (i + 1)).toNatClampNeg = xs (i + 1) from by rw [nI_clamp (by omega)]) ?_
  refine lv_aload gX gB dL_law_1639 (lv_at hl 1 rfl) ?_
  have hW := gx_W.toD hW
  have hW : gx_W G A s ((([(ad 0, .inr (11, [.int cd, .int (nI pa.length), .ref (ad 1), .ref (ad 2), .ref (ad 3), .ref (ad 4), .ref (ad 5), .int (nI fa.length), .ref (ad 6), .ref (ad 7), .int (nI dn), .ref (ad 8), .long ex, .long ey, .long eg, .int (nI cn), .ref (ad 9), .ref (ad 10), .int (nI n), .int at0, .int fl, .int (nI ds.length), .ref (ad 11), .ref (ad 12)])), (ad 1, .inl (G.2.1 2, 16, .inr (.inl px))), (ad 2, .inl (G.2.1 2, 16, .inr (.inl py))), (ad 3, .inl (G.2.1 2, 16, .inr (.inl pz))), (ad 4, .inl (G.2.1 2, 16, .inr (.inl gr))), (ad 5, .inl (G.2.1 2, 16, .inr (.inl ou))), (ad 6, .inl (G.2.1 2, 12, .inr (.inl fx))), (ad 7, .inl (G.2.1 2, 12, .inr (.inl fy))), (ad 8, .inl (G.2.1 1, 8, .inl od)), (ad 9, .inl (G.2.1 1, 12, .inl cr)), (ad 10, .inl (G.2.1 1, 200, .inl ty)), (ad 11, .inl (G.2.1 1, 48, .inl to_)), (ad 12, .inl (G.2.1 1, 48, .inl dr))] : va_W) ++ ([(ow, .inl (G.2.1 2, 1, .inr (.inl g)))] : va_W)) ++ (([(oD, .inl (G.2.1 4, 1, .inr (.inr (.inr (.inl gD)))))] : va_W) ++ va_pl L f)) H locs := hW
  refine gx_callSH (wr := ([(ad 0, .inr (11, [.int cd, .int (nI pa.length), .ref (ad 1), .ref (ad 2), .ref (ad 3), .ref (ad 4), .ref (ad 5), .int (nI fa.length), .ref (ad 6), .ref (ad 7), .int (nI dn), .ref (ad 8), .long ex, .long ey, .long eg, .int (nI cn), .ref (ad 9), .ref (ad 10), .int (nI n), .int at0, .int fl, .int (nI ds.length), .ref (ad 11), .ref (ad 12)])), (ad 1, .inl (G.2.1 2, 16, .inr (.inl px))), (ad 2, .inl (G.2.1 2, 16, .inr (.inl py))), (ad 3, .inl (G.2.1 2, 16, .inr (.inl pz))), (ad 4, .inl (G.2.1 2, 16, .inr (.inl gr))), (ad 5, .inl (G.2.1 2, 16, .inr (.inl ou))), (ad 6, .inl (G.2.1 2, 12, .inr (.inl fx))), (ad 7, .inl (G.2.1 2, 12, .inr (.inl fy))), (ad 8, .inl (G.2.1 1, 8, .inl od)), (ad 9, .inl (G.2.1 1, 12, .inl cr)), (ad 10, .inl (G.2.1 1, 200, .inl ty)), (ad 11, .inl (G.2.1 1, 48, .inl to_)), (ad 12, .inl (G.2.1 1, 48, .inl dr))] : va_W) ++ ([(ow, .inl (G.2.1 2, 1, .inr (.inl g)))] : va_W)) (rest := []) C hW sLH_139 (kL_creep l G L f x _ hx fx0 oD gD (xs (i + 1)) _ _ (kX5_creep l hfl G (va_pl L f) x (xs (i + 1))) (fun v u h => ⟨_, h.1⟩) (fun E u h => h.2.1)) rfl ⟨(by dsimp only; omega), (by dsimp only; omega)⟩ hl.1 rfl (Nat.le_of_ble_eq_true rfl) dL_law_1641 ⟨(by dsimp only; omega), (by dsimp only; omega)⟩ (fun v9 u9 H locs hp hW => ?_)
  rcases hp with ⟨r, u, hpo, rfl, rfl⟩ | ⟨u, hpx9, rfl, rfl⟩
  · have hW : gx_W G A s ((([(ad 0, .inr (11, [.int cd, .int (nI pa.length), .ref (ad 1), .ref (ad 2), .ref (ad 3), .ref (ad 4), .ref (ad 5), .int (nI fa.length), .ref (ad 6), .ref (ad 7), .int (nI dn), .ref (ad 8), .long ex, .long ey, .long eg, .int (nI cn), .ref (ad 9), .ref (ad 10), .int (nI n), .int at0, .int fl, .int (nI ds.length), .ref (ad 11), .ref (ad 12)])), (ad 1, .inl (G.2.1 2, 16, .inr (.inl px))), (ad 2, .inl (G.2.1 2, 16, .inr (.inl py))), (ad 3, .inl (G.2.1 2, 16, .inr (.inl pz))), (ad 4, .inl (G.2.1 2, 16, .inr (.inl gr))), (ad 5, .inl (G.2.1 2, 16, .inr (.inl ou))), (ad 6, .inl (G.2.1 2, 12, .inr (.inl fx))), (ad 7, .inl (G.2.1 2, 12, .inr (.inl fy))), (ad 8, .inl (G.2.1 1, 8, .inl od)), (ad 9, .inl (G.2.1 1, 12, .inl cr)), (ad 10, .inl (G.2.1 1, 200, .inl ty)), (ad 11, .inl (G.2.1 1, 48, .inl to_)), (ad 12, .inl (G.2.1 1, 48, .inl dr))] : va_W) ++ ([(ow, .inl (G.2.1 2, 1, .inr (.inl g)))] : va_W)) ++ (([(oD, .inl (G.2.1 4, 1, .inr (.inr (.inr (.inl (vf_upd gD 0 r))))))] : va_W) ++ u)) H locs := hW
    have hW := gx_W.ofD hW
    have hW : gx_W G A s (((oD, .inl (G.2.1 4, 1, .inr (.inr (.inr (.inl (vf_upd gD 0 r)))))) :: ([(ad 0, .inr (11, [.int cd, .int (nI pa.length), .ref (ad 1), .ref (ad 2), .ref (ad 3), .ref (ad 4), .ref (ad 5), .int (nI fa.length), .ref (ad 6), .ref (ad 7), .int (nI dn), .ref (ad 8), .long ex, .long ey, .long eg, .int (nI cn), .ref (ad 9), .ref (ad 10), .int (nI n), .int at0, .int fl, .int (nI ds.length), .ref (ad 11), .ref (ad 12)])), (ad 1, .inl (G.2.1 2, 16, .inr (.inl px))), (ad 2, .inl (G.2.1 2, 16, .inr (.inl py))), (ad 3, .inl (G.2.1 2, 16, .inr (.inl pz))), (ad 4, .inl (G.2.1 2, 16, .inr (.inl gr))), (ad 5, .inl (G.2.1 2, 16, .inr (.inl ou))), (ad 6, .inl (G.2.1 2, 12, .inr (.inl fx))), (ad 7, .inl (G.2.1 2, 12, .inr (.inl fy))), (ad 8, .inl (G.2.1 1, 8, .inl od)), (ad 9, .inl (G.2.1 1, 12, .inl cr)), (ad 10, .inl (G.2.1 1, 200, .inl ty)), (ad 11, .inl (G.2.1 1, 48, .inl to_)), (ad 12, .inl (G.2.1 1, 48, .inl dr))] : va_W)) ++ ([(ow, .inl (G.2.1 2, 1, .inr (.inl g)))] ++ u)) H locs := hW
    refine W.eq (g2 := F0 m 1644 ls [.int 0]) rfl ?_
    refine W.widen (k := cells + 1) (n := slots + 6) (by dsimp only; omega) (by dsimp only; omega) ?_
    refine lv_istore (lv' := [(6, .int 0), (5, .int (nI i)), (4, .ref oD), (3, .ref ow), (2, .ref (ad 0)), (1, .ref x), (0, .ref b0)]) gX gB dL_law_1644 hl (by decide) rfl (fun ls hl => ?_)
    refine lv_aload_n gX gB dL_law_1646 rfl (lv_at hl 4 rfl) ?_
    refine lv_aload_n gX gB dL_law_1647 rfl (lv_at hl 6 rfl) ?_
    refine lv_iload gX gB dL_law_1648 (lv_at hl 1 rfl) ?_
    refine lv_iconst (v := 1) gX gB dL_law_1650 (by decide) ?_
    refine lv_iadd gX gB dL_law_1651 ?_
    refine gx_topi (show ((nI i) + 1) = nI (i + 1) from nI_add i 1) ?_
    refine va_sld C.x C.b hX hbl hbA hW.2.2 (nI_in (by omega) (by omega)) dL_law_1652 ?_
    refine gx_topi (show xs (nI (i + 1)).toNatClampNeg = xs (i + 1) from by rw [nI_clamp (by omega)]) ?_
    have hW := gx_W.toM hW
    have hW : gx_W G A s ((([(ow, .inl (G.2.1 2, 1, .inr (.inl g)))] ++ u) ++ [(oD, .inl (G.2.1 4, 1, .inr (.inr (.inr (.inl (vf_upd gD 0 r))))))]) ++ [(ad 0, .inr (11, [.int cd, .int (nI pa.length), .ref (ad 1), .ref (ad 2), .ref (ad 3), .ref (ad 4), .ref (ad 5), .int (nI fa.length), .ref (ad 6), .ref (ad 7), .int (nI dn), .ref (ad 8), .long ex, .long ey, .long eg, .int (nI cn), .ref (ad 9), .ref (ad 10), .int (nI n), .int at0, .int fl, .int (nI ds.length), .ref (ad 11), .ref (ad 12)])), (ad 1, .inl (G.2.1 2, 16, .inr (.inl px))), (ad 2, .inl (G.2.1 2, 16, .inr (.inl py))), (ad 3, .inl (G.2.1 2, 16, .inr (.inl pz))), (ad 4, .inl (G.2.1 2, 16, .inr (.inl gr))), (ad 5, .inl (G.2.1 2, 16, .inr (.inl ou))), (ad 6, .inl (G.2.1 2, 12, .inr (.inl fx))), (ad 7, .inl (G.2.1 2, 12, .inr (.inl fy))), (ad 8, .inl (G.2.1 1, 8, .inl od)), (ad 9, .inl (G.2.1 1, 12, .inl cr)), (ad 10, .inl (G.2.1 1, 200, .inl ty)), (ad 11, .inl (G.2.1 1, 48, .inl to_)), (ad 12, .inl (G.2.1 1, 48, .inl dr))]) H locs := hW
    refine gx_callV (wr := ([(ow, .inl (G.2.1 2, 1, .inr (.inl g)))] ++ u) ++ [(oD, .inl (G.2.1 4, 1, .inr (.inr (.inr (.inl (vf_upd gD 0 r))))))]) (rest := []) C hW sL_142 (kX6_creep l G ad cd pa.length fa.length dn cn n ds.length ex ey eg at0 fl px py pz gr ou fx fy od cr ty to_ dr (xs (i + 1))) ⟨0, rfl⟩ rfl rfl ⟨(by dsimp only; omega), (by dsimp only; omega)⟩ hl.1 rfl (Nat.le_of_ble_eq_true rfl) dL_law_1653 ⟨(by dsimp only; omega), (by dsimp only; omega)⟩ (fun v9 u9 H locs hm hW => ?_)
    obtain ⟨bb, rfl, hval, hout⟩ := pr_creep_0 (ow := ow) (oD := oD) (cd := cd) (at0 := at0) (fl := fl) (dr := dr) hrl hpo hm
    obtain ⟨cd9, pn9, fn9, dn9, cn9, sn9, tn9, ex9, ey9, eg9, at9, fl9, px9, py9, pz9, gr9, ou9, fx9, fy9, od9, cr9, ty9, to9, dr9, rfl, hcd, hnew⟩ := hout
    subst hval
    have hW : gx_W G A s ((([(ow, .inl (G.2.1 2, 1, .inr (.inl g)))] ++ u) ++ [(oD, .inl (G.2.1 4, 1, .inr (.inr (.inr (.inl (vf_upd gD 0 r))))))]) ++ [(ad 0, .inr (11, [.int cd9, .int (nI pn9), .ref (ad 1), .ref (ad 2), .ref (ad 3), .ref (ad 4), .ref (ad 5), .int (nI fn9), .ref (ad 6), .ref (ad 7), .int (nI dn9), .ref (ad 8), .long ex9, .long ey9, .long eg9, .int (nI cn9), .ref (ad 9), .ref (ad 10), .int (nI sn9), .int at9, .int fl9, .int (nI tn9), .ref (ad 11), .ref (ad 12)])), (ad 1, .inl (G.2.1 2, 16, .inr (.inl px9))), (ad 2, .inl (G.2.1 2, 16, .inr (.inl py9))), (ad 3, .inl (G.2.1 2, 16, .inr (.inl pz9))), (ad 4, .inl (G.2.1 2, 16, .inr (.inl gr9))), (ad 5, .inl (G.2.1 2, 16, .inr (.inl ou9))), (ad 6, .inl (G.2.1 2, 12, .inr (.inl fx9))), (ad 7, .inl (G.2.1 2, 12, .inr (.inl fy9))), (ad 8, .inl (G.2.1 1, 8, .inl od9)), (ad 9, .inl (G.2.1 1, 12, .inl cr9)), (ad 10, .inl (G.2.1 1, 200, .inl ty9)), (ad 11, .inl (G.2.1 1, 48, .inl to9)), (ad 12, .inl (G.2.1 1, 48, .inl dr9))]) H locs := hW
    refine W.eq (g2 := F0 m 1656 ls [.double r]) rfl ?_
    refine W.widen (k := cells + 1 + 0) (n := slots + 6 + 0) (by dsimp only; omega) (by dsimp only; omega) ?_
    refine lv_dstore (lv' := [(7, .double r), (6, .int 0), (5, .int (nI i)), (4, .ref oD), (3, .ref ow), (2, .ref (ad 0)), (1, .ref x), (0, .ref b0)]) gX gB dL_law_1656 hl (by decide) rfl (fun ls hl => ?_)
    refine lv_aload_n gX gB dL_law_1658 rfl (lv_at hl 5 rfl) ?_
    refine gx_callV (wr := ([(ow, .inl (G.2.1 2, 1, .inr (.inl g)))] ++ u) ++ [(oD, .inl (G.2.1 4, 1, .inr (.inr (.inr (.inl (vf_upd gD 0 r))))))]) (rest := []) C hW sL_81 (kX6_thrown l G ad cd9 pn9 fn9 dn9 cn9 sn9 tn9 ex9 ey9 eg9 at9 fl9 px9 py9 pz9 gr9 ou9 fx9 fy9 od9 cr9 ty9 to9 dr9) ⟨0, rfl⟩ rfl rfl ⟨(by dsimp only; omega), (by dsimp only; omega)⟩ hl.1 rfl (Nat.le_of_ble_eq_true rfl) dL_law_1659 ⟨(by dsimp only; omega), (by dsimp only; omega)⟩ (fun v9 u9 H locs hp hW => ?_)
    obtain ⟨rfl, rfl⟩ := hp
    have hW : gx_W G A s ((([(ow, .inl (G.2.1 2, 1, .inr (.inl g)))] ++ u) ++ [(oD, .inl (G.2.1 4, 1, .inr (.inr (.inr (.inl (vf_upd gD 0 r))))))]) ++ [(ad 0, .inr (11, [.int cd9, .int (nI pn9), .ref (ad 1), .ref (ad 2), .ref (ad 3), .ref (ad 4), .ref (ad 5), .int (nI fn9), .ref (ad 6), .ref (ad 7), .int (nI dn9), .ref (ad 8), .long ex9, .long ey9, .long eg9, .int (nI cn9), .ref (ad 9), .ref (ad 10), .int (nI sn9), .int at9, .int fl9, .int (nI tn9), .ref (ad 11), .ref (ad 12)])), (ad 1, .inl (G.2.1 2, 16, .inr (.inl px9))), (ad 2, .inl (G.2.1 2, 16, .inr (.inl py9))), (ad 3, .inl (G.2.1 2, 16, .inr (.inl pz9))), (ad 4, .inl (G.2.1 2, 16, .inr (.inl gr9))), (ad 5, .inl (G.2.1 2, 16, .inr (.inl ou9))), (ad 6, .inl (G.2.1 2, 12, .inr (.inl fx9))), (ad 7, .inl (G.2.1 2, 12, .inr (.inl fy9))), (ad 8, .inl (G.2.1 1, 8, .inl od9)), (ad 9, .inl (G.2.1 1, 12, .inl cr9)), (ad 10, .inl (G.2.1 1, 200, .inl ty9)), (ad 11, .inl (G.2.1 1, 48, .inl to9)), (ad 12, .inl (G.2.1 1, 48, .inl dr9))]) H locs := hW
    have hW := gx_W.ofM hW
    have hW : gx_W G A s (((oD, .inl (G.2.1 4, 1, .inr (.inr (.inr (.inl (vf_upd gD 0 r)))))) :: [(ad 0, .inr (11, [.int cd9, .int (nI pn9), .ref (ad 1), .ref (ad 2), .ref (ad 3), .ref (ad 4), .ref (ad 5), .int (nI fn9), .ref (ad 6), .ref (ad 7), .int (nI dn9), .ref (ad 8), .long ex9, .long ey9, .long eg9, .int (nI cn9), .ref (ad 9), .ref (ad 10), .int (nI sn9), .int at9, .int fl9, .int (nI tn9), .ref (ad 11), .ref (ad 12)])), (ad 1, .inl (G.2.1 2, 16, .inr (.inl px9))), (ad 2, .inl (G.2.1 2, 16, .inr (.inl py9))), (ad 3, .inl (G.2.1 2, 16, .inr (.inl pz9))), (ad 4, .inl (G.2.1 2, 16, .inr (.inl gr9))), (ad 5, .inl (G.2.1 2, 16, .inr (.inl ou9))), (ad 6, .inl (G.2.1 2, 12, .inr (.inl fx9))), (ad 7, .inl (G.2.1 2, 12, .inr (.inl fy9))), (ad 8, .inl (G.2.1 1, 8, .inl od9)), (ad 9, .inl (G.2.1 1, 12, .inl cr9)), (ad 10, .inl (G.2.1 1, 200, .inl ty9)), (ad 11, .inl (G.2.1 1, 48, .inl to9)), (ad 12, .inl (G.2.1 1, 48, .inl dr9))]) ++ ([(ow, .inl (G.2.1 2, 1, .inr (.inl g)))] ++ u)) H locs := hW
    refine W.eq (g2 := F0 m 1662 ls [.int cd9]) rfl ?_
    refine W.widen (k := cells + 1 + 0 + 0) (n := slots + 6 + 0 + 0) (by dsimp only; omega) (by dsimp only; omega) ?_
    refine lv_iload gX gB dL_law_1662 (lv_at hl 1 rfl) ?_
    refine lv_icmp_eq (tgt := 1669) gX gB dL_law_1664 (by decide) (fun _ => ?_) (fun h9 => absurd (show cd9 = (0 : Int32) from hcd) h9)
    refine lv_iload gX gB dL_law_1669 (lv_at hl 1 rfl) ?_
    refine lv_if_ne (tgt := 1706) gX gB dL_law_1671 (by decide) (fun h9 => absurd (show ¬ 0 = (0 : Int32) from h9) (by decide)) (fun _ => ?_)
    refine lv_aload gX gB dL_law_1674 (lv_at hl 3 rfl) ?_
    refine lv_iconst (v := 0) gX gB dL_law_1676 (by decide) ?_
    refine gx_dald C hW (a := oD) (g := vf_upd gD 0 r) (j := 0) ⟨0, rfl⟩ rfl (by decide) (by decide) dL_law_1677 ?_
    refine W.eq (g2 := F0 m 1678 ls [.double r]) rfl ?_
    refine lv_dload gX gB dL_law_1678 (lv_at hl 0 rfl) ?_
    refine lv_dcmp gX gB dL_law_1680 ?_
    refine lv_if_eq (tgt := 1706) gX gB dL_law_1681 (by decide) (fun c1681 => ?_) (fun c1681 => ?_)
    · refine lv_goto (tgt := 1766) gX gB dL_law_1706 (by decide) ?_
      refine W.widen (k := cells + 64) (n := slots + 2000) (by omega) (by omega) ?_
      exact kk _ _ _ _ (hnew _ _) hW (lv_sub hl [2, 3, 4, 5, 6, 7] rfl)
    · refine lv_aload gX gB dL_law_1684 (lv_at hl 3 rfl) ?_
      refine lv_iconst (v := 0) gX gB dL_law_1686 (by decide) ?_
      refine gx_dald C hW (a := oD) (g := vf_upd gD 0 r) (j := 0) ⟨0, rfl⟩ rfl (by decide) (by decide) dL_law_1687 ?_
      refine W.eq (g2 := F0 m 1688 ls [.double r]) rfl ?_
      refine lv_aload gX gB dL_law_1688 (lv_at hl 3 rfl) ?_
      refine lv_iconst (v := 0) gX gB dL_law_1690 (by decide) ?_
      refine gx_dald C hW (a := oD) (g := vf_upd gD 0 r) (j := 0) ⟨0, rfl⟩ rfl (by decide) (by decide) dL_law_1691 ?_
      refine W.eq (g2 := F0 m 1692 ls [.double r, .double r]) rfl ?_
      refine lv_dcmp gX gB dL_law_1692 ?_
      refine lv_if_eq (tgt := 1704) gX gB dL_law_1693 (by decide) (fun h9 => absurd (show (Op.cmpValue (FP.dcmp r r) CmpOp.l) = (0 : Int32) from h9) (c1681)) (fun _ => ?_)
      refine lv_dload gX gB dL_law_1696 (lv_at hl 0 rfl) ?_
      refine lv_dload gX gB dL_law_1698 (lv_at hl 0 rfl) ?_
      refine lv_dcmp gX gB dL_law_1700 ?_
      refine lv_if_ne (tgt := 1706) gX gB dL_law_1701 (by decide) (fun _ => ?_) (fun h9 => absurd h9 (show ¬ (Op.cmpValue (FP.dcmp r r) CmpOp.l) = (0 : Int32) from c1681))
      refine lv_goto (tgt := 1766) gX gB dL_law_1706 (by decide) ?_
      refine W.widen (k := cells + 64) (n := slots + 2000) (by omega) (by omega) ?_
      exact kk _ _ _ _ (hnew _ _) hW (lv_sub hl [2, 3, 4, 5, 6, 7] rfl)
  · have hW : gx_W G A s ((([(ad 0, .inr (11, [.int cd, .int (nI pa.length), .ref (ad 1), .ref (ad 2), .ref (ad 3), .ref (ad 4), .ref (ad 5), .int (nI fa.length), .ref (ad 6), .ref (ad 7), .int (nI dn), .ref (ad 8), .long ex, .long ey, .long eg, .int (nI cn), .ref (ad 9), .ref (ad 10), .int (nI n), .int at0, .int fl, .int (nI ds.length), .ref (ad 11), .ref (ad 12)])), (ad 1, .inl (G.2.1 2, 16, .inr (.inl px))), (ad 2, .inl (G.2.1 2, 16, .inr (.inl py))), (ad 3, .inl (G.2.1 2, 16, .inr (.inl pz))), (ad 4, .inl (G.2.1 2, 16, .inr (.inl gr))), (ad 5, .inl (G.2.1 2, 16, .inr (.inl ou))), (ad 6, .inl (G.2.1 2, 12, .inr (.inl fx))), (ad 7, .inl (G.2.1 2, 12, .inr (.inl fy))), (ad 8, .inl (G.2.1 1, 8, .inl od)), (ad 9, .inl (G.2.1 1, 12, .inl cr)), (ad 10, .inl (G.2.1 1, 200, .inl ty)), (ad 11, .inl (G.2.1 1, 48, .inl to_)), (ad 12, .inl (G.2.1 1, 48, .inl dr))] : va_W) ++ ([(ow, .inl (G.2.1 2, 1, .inr (.inl g)))] : va_W)) ++ (([(oD, .inl (G.2.1 4, 1, .inr (.inr (.inr (.inl gD)))))] : va_W) ++ u)) H locs := hW
    have hW := gx_W.ofD hW
    have hW : gx_W G A s (((oD, .inl (G.2.1 4, 1, .inr (.inr (.inr (.inl gD))))) :: ([(ad 0, .inr (11, [.int cd, .int (nI pa.length), .ref (ad 1), .ref (ad 2), .ref (ad 3), .ref (ad 4), .ref (ad 5), .int (nI fa.length), .ref (ad 6), .ref (ad 7), .int (nI dn), .ref (ad 8), .long ex, .long ey, .long eg, .int (nI cn), .ref (ad 9), .ref (ad 10), .int (nI n), .int at0, .int fl, .int (nI ds.length), .ref (ad 11), .ref (ad 12)])), (ad 1, .inl (G.2.1 2, 16, .inr (.inl px))), (ad 2, .inl (G.2.1 2, 16, .inr (.inl py))), (ad 3, .inl (G.2.1 2, 16, .inr (.inl pz))), (ad 4, .inl (G.2.1 2, 16, .inr (.inl gr))), (ad 5, .inl (G.2.1 2, 16, .inr (.inl ou))), (ad 6, .inl (G.2.1 2, 12, .inr (.inl fx))), (ad 7, .inl (G.2.1 2, 12, .inr (.inl fy))), (ad 8, .inl (G.2.1 1, 8, .inl od)), (ad 9, .inl (G.2.1 1, 12, .inl cr)), (ad 10, .inl (G.2.1 1, 200, .inl ty)), (ad 11, .inl (G.2.1 1, 48, .inl to_)), (ad 12, .inl (G.2.1 1, 48, .inl dr))] : va_W)) ++ ([(ow, .inl (G.2.1 2, 1, .inr (.inl g)))] ++ u)) H locs := hW
    refine W.eq (g2 := F0 m 1644 ls [.int 1]) rfl ?_
    refine W.widen (k := cells + 1) (n := slots + 6) (by dsimp only; omega) (by dsimp only; omega) ?_
    refine lv_istore (lv' := [(6, .int 1), (5, .int (nI i)), (4, .ref oD), (3, .ref ow), (2, .ref (ad 0)), (1, .ref x), (0, .ref b0)]) gX gB dL_law_1644 hl (by decide) rfl (fun ls hl => ?_)
    refine lv_aload_n gX gB dL_law_1646 rfl (lv_at hl 4 rfl) ?_
    refine lv_aload_n gX gB dL_law_1647 rfl (lv_at hl 6 rfl) ?_
    refine lv_iload gX gB dL_law_1648 (lv_at hl 1 rfl) ?_
    refine lv_iconst (v := 1) gX gB dL_law_1650 (by decide) ?_
    refine lv_iadd gX gB dL_law_1651 ?_
    refine gx_topi (show ((nI i) + 1) = nI (i + 1) from nI_add i 1) ?_
    refine va_sld C.x C.b hX hbl hbA hW.2.2 (nI_in (by omega) (by omega)) dL_law_1652 ?_
    refine gx_topi (show xs (nI (i + 1)).toNatClampNeg = xs (i + 1) from by rw [nI_clamp (by omega)]) ?_
    have hW := gx_W.toM hW
    have hW : gx_W G A s ((([(ow, .inl (G.2.1 2, 1, .inr (.inl g)))] ++ u) ++ [(oD, .inl (G.2.1 4, 1, .inr (.inr (.inr (.inl gD)))))]) ++ [(ad 0, .inr (11, [.int cd, .int (nI pa.length), .ref (ad 1), .ref (ad 2), .ref (ad 3), .ref (ad 4), .ref (ad 5), .int (nI fa.length), .ref (ad 6), .ref (ad 7), .int (nI dn), .ref (ad 8), .long ex, .long ey, .long eg, .int (nI cn), .ref (ad 9), .ref (ad 10), .int (nI n), .int at0, .int fl, .int (nI ds.length), .ref (ad 11), .ref (ad 12)])), (ad 1, .inl (G.2.1 2, 16, .inr (.inl px))), (ad 2, .inl (G.2.1 2, 16, .inr (.inl py))), (ad 3, .inl (G.2.1 2, 16, .inr (.inl pz))), (ad 4, .inl (G.2.1 2, 16, .inr (.inl gr))), (ad 5, .inl (G.2.1 2, 16, .inr (.inl ou))), (ad 6, .inl (G.2.1 2, 12, .inr (.inl fx))), (ad 7, .inl (G.2.1 2, 12, .inr (.inl fy))), (ad 8, .inl (G.2.1 1, 8, .inl od)), (ad 9, .inl (G.2.1 1, 12, .inl cr)), (ad 10, .inl (G.2.1 1, 200, .inl ty)), (ad 11, .inl (G.2.1 1, 48, .inl to_)), (ad 12, .inl (G.2.1 1, 48, .inl dr))]) H locs := hW
    refine gx_callV (wr := ([(ow, .inl (G.2.1 2, 1, .inr (.inl g)))] ++ u) ++ [(oD, .inl (G.2.1 4, 1, .inr (.inr (.inr (.inl gD)))))]) (rest := []) C hW sL_142 (kX6_creep l G ad cd pa.length fa.length dn cn n ds.length ex ey eg at0 fl px py pz gr ou fx fy od cr ty to_ dr (xs (i + 1))) ⟨0, rfl⟩ rfl rfl ⟨(by dsimp only; omega), (by dsimp only; omega)⟩ hl.1 rfl (Nat.le_of_ble_eq_true rfl) dL_law_1653 ⟨(by dsimp only; omega), (by dsimp only; omega)⟩ (fun v9 u9 H locs hm hW => ?_)
    obtain ⟨bb, rfl, hval, hout⟩ := pr_creep_1 (ow := ow) (oD := oD) (cd := cd) (at0 := at0) (fl := fl) (dr := dr) hrl hpx9 hm
    obtain ⟨cd9, pn9, fn9, dn9, cn9, sn9, tn9, ex9, ey9, eg9, at9, fl9, px9, py9, pz9, gr9, ou9, fx9, fy9, od9, cr9, ty9, to9, dr9, rfl, hcd, hnew⟩ := hout
    have hW : gx_W G A s ((([(ow, .inl (G.2.1 2, 1, .inr (.inl g)))] ++ u) ++ [(oD, .inl (G.2.1 4, 1, .inr (.inr (.inr (.inl gD)))))]) ++ [(ad 0, .inr (11, [.int cd9, .int (nI pn9), .ref (ad 1), .ref (ad 2), .ref (ad 3), .ref (ad 4), .ref (ad 5), .int (nI fn9), .ref (ad 6), .ref (ad 7), .int (nI dn9), .ref (ad 8), .long ex9, .long ey9, .long eg9, .int (nI cn9), .ref (ad 9), .ref (ad 10), .int (nI sn9), .int at9, .int fl9, .int (nI tn9), .ref (ad 11), .ref (ad 12)])), (ad 1, .inl (G.2.1 2, 16, .inr (.inl px9))), (ad 2, .inl (G.2.1 2, 16, .inr (.inl py9))), (ad 3, .inl (G.2.1 2, 16, .inr (.inl pz9))), (ad 4, .inl (G.2.1 2, 16, .inr (.inl gr9))), (ad 5, .inl (G.2.1 2, 16, .inr (.inl ou9))), (ad 6, .inl (G.2.1 2, 12, .inr (.inl fx9))), (ad 7, .inl (G.2.1 2, 12, .inr (.inl fy9))), (ad 8, .inl (G.2.1 1, 8, .inl od9)), (ad 9, .inl (G.2.1 1, 12, .inl cr9)), (ad 10, .inl (G.2.1 1, 200, .inl ty9)), (ad 11, .inl (G.2.1 1, 48, .inl to9)), (ad 12, .inl (G.2.1 1, 48, .inl dr9))]) H locs := hW
    refine W.eq (g2 := F0 m 1656 ls [.double bb]) rfl ?_
    refine W.widen (k := cells + 1 + 0) (n := slots + 6 + 0) (by dsimp only; omega) (by dsimp only; omega) ?_
    refine lv_dstore (lv' := [(7, .double bb), (6, .int 1), (5, .int (nI i)), (4, .ref oD), (3, .ref ow), (2, .ref (ad 0)), (1, .ref x), (0, .ref b0)]) gX gB dL_law_1656 hl (by decide) rfl (fun ls hl => ?_)
    refine lv_aload_n gX gB dL_law_1658 rfl (lv_at hl 5 rfl) ?_
    refine gx_callV (wr := ([(ow, .inl (G.2.1 2, 1, .inr (.inl g)))] ++ u) ++ [(oD, .inl (G.2.1 4, 1, .inr (.inr (.inr (.inl gD)))))]) (rest := []) C hW sL_81 (kX6_thrown l G ad cd9 pn9 fn9 dn9 cn9 sn9 tn9 ex9 ey9 eg9 at9 fl9 px9 py9 pz9 gr9 ou9 fx9 fy9 od9 cr9 ty9 to9 dr9) ⟨0, rfl⟩ rfl rfl ⟨(by dsimp only; omega), (by dsimp only; omega)⟩ hl.1 rfl (Nat.le_of_ble_eq_true rfl) dL_law_1659 ⟨(by dsimp only; omega), (by dsimp only; omega)⟩ (fun v9 u9 H locs hp hW => ?_)
    obtain ⟨rfl, rfl⟩ := hp
    have hW : gx_W G A s ((([(ow, .inl (G.2.1 2, 1, .inr (.inl g)))] ++ u) ++ [(oD, .inl (G.2.1 4, 1, .inr (.inr (.inr (.inl gD)))))]) ++ [(ad 0, .inr (11, [.int cd9, .int (nI pn9), .ref (ad 1), .ref (ad 2), .ref (ad 3), .ref (ad 4), .ref (ad 5), .int (nI fn9), .ref (ad 6), .ref (ad 7), .int (nI dn9), .ref (ad 8), .long ex9, .long ey9, .long eg9, .int (nI cn9), .ref (ad 9), .ref (ad 10), .int (nI sn9), .int at9, .int fl9, .int (nI tn9), .ref (ad 11), .ref (ad 12)])), (ad 1, .inl (G.2.1 2, 16, .inr (.inl px9))), (ad 2, .inl (G.2.1 2, 16, .inr (.inl py9))), (ad 3, .inl (G.2.1 2, 16, .inr (.inl pz9))), (ad 4, .inl (G.2.1 2, 16, .inr (.inl gr9))), (ad 5, .inl (G.2.1 2, 16, .inr (.inl ou9))), (ad 6, .inl (G.2.1 2, 12, .inr (.inl fx9))), (ad 7, .inl (G.2.1 2, 12, .inr (.inl fy9))), (ad 8, .inl (G.2.1 1, 8, .inl od9)), (ad 9, .inl (G.2.1 1, 12, .inl cr9)), (ad 10, .inl (G.2.1 1, 200, .inl ty9)), (ad 11, .inl (G.2.1 1, 48, .inl to9)), (ad 12, .inl (G.2.1 1, 48, .inl dr9))]) H locs := hW
    have hW := gx_W.ofM hW
    have hW : gx_W G A s (((oD, .inl (G.2.1 4, 1, .inr (.inr (.inr (.inl gD))))) :: [(ad 0, .inr (11, [.int cd9, .int (nI pn9), .ref (ad 1), .ref (ad 2), .ref (ad 3), .ref (ad 4), .ref (ad 5), .int (nI fn9), .ref (ad 6), .ref (ad 7), .int (nI dn9), .ref (ad 8), .long ex9, .long ey9, .long eg9, .int (nI cn9), .ref (ad 9), .ref (ad 10), .int (nI sn9), .int at9, .int fl9, .int (nI tn9), .ref (ad 11), .ref (ad 12)])), (ad 1, .inl (G.2.1 2, 16, .inr (.inl px9))), (ad 2, .inl (G.2.1 2, 16, .inr (.inl py9))), (ad 3, .inl (G.2.1 2, 16, .inr (.inl pz9))), (ad 4, .inl (G.2.1 2, 16, .inr (.inl gr9))), (ad 5, .inl (G.2.1 2, 16, .inr (.inl ou9))), (ad 6, .inl (G.2.1 2, 12, .inr (.inl fx9))), (ad 7, .inl (G.2.1 2, 12, .inr (.inl fy9))), (ad 8, .inl (G.2.1 1, 8, .inl od9)), (ad 9, .inl (G.2.1 1, 12, .inl cr9)), (ad 10, .inl (G.2.1 1, 200, .inl ty9)), (ad 11, .inl (G.2.1 1, 48, .inl to9)), (ad 12, .inl (G.2.1 1, 48, .inl dr9))]) ++ ([(ow, .inl (G.2.1 2, 1, .inr (.inl g)))] ++ u)) H locs := hW
    refine W.eq (g2 := F0 m 1662 ls [.int cd9]) rfl ?_
    refine W.widen (k := cells + 1 + 0 + 0) (n := slots + 6 + 0 + 0) (by dsimp only; omega) (by dsimp only; omega) ?_
    refine lv_iload gX gB dL_law_1662 (lv_at hl 1 rfl) ?_
    refine lv_icmp_eq (tgt := 1669) gX gB dL_law_1664 (by decide) (fun _ => ?_) (fun h9 => absurd (show cd9 = (1 : Int32) from hcd) h9)
    refine lv_iload gX gB dL_law_1669 (lv_at hl 1 rfl) ?_
    refine lv_if_ne (tgt := 1706) gX gB dL_law_1671 (by decide) (fun _ => ?_) (fun h9 => absurd h9 (show ¬ 1 = (0 : Int32) from by decide))
    refine lv_goto (tgt := 1766) gX gB dL_law_1706 (by decide) ?_
    refine W.widen (k := cells + 64) (n := slots + 2000) (by omega) (by omega) ?_
    exact kk _ _ _ _ (hnew _ _) hW (lv_sub hl [2, 3, 4, 5, 6, 7] rfl)
