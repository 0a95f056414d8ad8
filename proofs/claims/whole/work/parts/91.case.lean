/-! THE LAW: part. -/
/-- both sides after a call: the reference's world, and the relation again -/
def lw_out (G : gx_T) (x ow oD : Nat) (ad : Nat → Nat) (k : Int32) (u M : va_W) : Prop := ∃ (cd9 : Int32) (pn9 : Nat) (fn9 : Nat) (dn9 : Nat) (cn9 : Nat) (sn9 : Nat) (tn9 : Nat) (ex9 : Int64) (ey9 : Int64) (eg9 : Int64) (at9 : Int32) (fl9 : Int32) (px9 : Nat → Int64) (py9 : Nat → Int64) (pz9 : Nat → Int64) (gr9 : Nat → Int64) (ou9 : Nat → Int64) (fx9 : Nat → Int64) (fy9 : Nat → Int64) (od9 : Nat → Int32) (cr9 : Nat → Int32) (ty9 : Nat → Int32) (to9 : Nat → Int32) (dr9 : Nat → Int32), M = [(ad 0, .inr (11, [.int cd9, .int (nI pn9), .ref (ad 1), .ref (ad 2), .ref (ad 3), .ref (ad 4), .ref (ad 5), .int (nI fn9), .ref (ad 6), .ref (ad 7), .int (nI dn9), .ref (ad 8), .long ex9, .long ey9, .long eg9, .int (nI cn9), .ref (ad 9), .ref (ad 10), .int (nI sn9), .int at9, .int fl9, .int (nI tn9), .ref (ad 11), .ref (ad 12)])), (ad 1, .inl (G.2.1 2, 16, .inr (.inl px9))), (ad 2, .inl (G.2.1 2, 16, .inr (.inl py9))), (ad 3, .inl (G.2.1 2, 16, .inr (.inl pz9))), (ad 4, .inl (G.2.1 2, 16, .inr (.inl gr9))), (ad 5, .inl (G.2.1 2, 16, .inr (.inl ou9))), (ad 6, .inl (G.2.1 2, 12, .inr (.inl fx9))), (ad 7, .inl (G.2.1 2, 12, .inr (.inl fy9))), (ad 8, .inl (G.2.1 1, 8, .inl od9)), (ad 9, .inl (G.2.1 1, 12, .inl cr9)), (ad 10, .inl (G.2.1 1, 200, .inl ty9)), (ad 11, .inl (G.2.1 1, 48, .inl to9)), (ad 12, .inl (G.2.1 1, 48, .inl dr9))] ∧ cd9 = k ∧ ∀ (g : Nat → Int64) (gD : Nat → UInt64), lw_inv G x ow oD ad ([(oD, .inl (G.2.1 4, 1, .inr (.inr (.inr (.inl gD)))))] ++ M ++ ([(ow, .inl (G.2.1 2, 1, .inr (.inl g)))] ++ u))
theorem sLH_75 : gx_sSH RL 75 yL_part cL_part 11 (some .int) [(0, 15, 18, 13), (0, 15, 22, 15)] 6 := ⟨⟨(tq_3 182 (by decide +kernel) rfl), (tq_3 183 (by decide +kernel) rfl), (tq_1 0 (by decide +kernel) rfl), (tq_3 184 (by decide +kernel) rfl)⟩, ⟨by decide +kernel, by decide +kernel, by decide +kernel⟩⟩
theorem sLH_84 : gx_sSH RL 84 yL_foot cL_foot 7 (some .int) [(0, 18, 21, 15)] 4 := ⟨⟨(tq_3 224 (by decide +kernel) rfl), (tq_3 225 (by decide +kernel) rfl), (tq_1 0 (by decide +kernel) rfl), (tq_3 226 (by decide +kernel) rfl)⟩, ⟨by decide +kernel, by decide +kernel, by decide +kernel⟩⟩
theorem sLH_88 : gx_sSH RL 88 yL_drawer cL_drawer 6 (some .int) [(0, 18, 21, 25), (0, 18, 25, 15)] 4 := ⟨⟨(tq_4 76 (by decide +kernel) rfl), (tq_4 77 (by decide +kernel) rfl), (tq_1 0 (by decide +kernel) rfl), (tq_4 78 (by decide +kernel) rfl)⟩, ⟨by decide +kernel, by decide +kernel, by decide +kernel⟩⟩
theorem sLH_92 : gx_sSH RL 92 yL_person cL_person 9 (some .int) [(0, 20, 23, 15)] 5 := ⟨⟨(tq_4 98 (by decide +kernel) rfl), (tq_4 99 (by decide +kernel) rfl), (tq_1 0 (by decide +kernel) rfl), (tq_4 100 (by decide +kernel) rfl)⟩, ⟨by decide +kernel, by decide +kernel, by decide +kernel⟩⟩
theorem sLH_96 : gx_sSH RL 96 yL_centre cL_centre 5 (some .int) [(0, 9, 12, 25), (0, 9, 16, 13)] 4 := ⟨⟨(tq_4 105 (by decide +kernel) rfl), (tq_4 106 (by decide +kernel) rfl), (tq_1 0 (by decide +kernel) rfl), (tq_4 107 (by decide +kernel) rfl)⟩, ⟨by decide +kernel, by decide +kernel, by decide +kernel⟩⟩
theorem sLH_100 : gx_sSH RL 100 yL_side cL_side 4 (some .int) [(0, 9, 12, 13), (0, 9, 15, 25)] 3 := ⟨⟨(tq_4 125 (by decide +kernel) rfl), (tq_4 126 (by decide +kernel) rfl), (tq_1 0 (by decide +kernel) rfl), (tq_4 127 (by decide +kernel) rfl)⟩, ⟨by decide +kernel, by decide +kernel, by decide +kernel⟩⟩
theorem sLH_104 : gx_sSH RL 104 yL_tips cL_tips 4 (some .int) [(0, 9, 12, 13), (0, 9, 15, 15)] 3 := ⟨⟨(tq_4 142 (by decide +kernel) rfl), (tq_4 143 (by decide +kernel) rfl), (tq_1 0 (by decide +kernel) rfl), (tq_4 144 (by decide +kernel) rfl)⟩, ⟨by decide +kernel, by decide +kernel, by decide +kernel⟩⟩
theorem sLH_107 : gx_sSH RL 107 yL_moment cL_moment 5 (some .int) [(0, 9, 12, 13), (0, 9, 16, 25)] 4 := ⟨⟨(tq_4 166 (by decide +kernel) rfl), (tq_4 167 (by decide +kernel) rfl), (tq_1 0 (by decide +kernel) rfl), (tq_4 168 (by decide +kernel) rfl)⟩, ⟨by decide +kernel, by decide +kernel, by decide +kernel⟩⟩
theorem sLH_110 : gx_sSH RL 110 yL_most cL_most 3 (some .int) [(0, 8, 11, 13)] 2 := ⟨⟨(tq_4 174 (by decide +kernel) rfl), (tq_4 175 (by decide +kernel) rfl), (tq_1 0 (by decide +kernel) rfl), (tq_4 176 (by decide +kernel) rfl)⟩, ⟨by decide +kernel, by decide +kernel, by decide +kernel⟩⟩
theorem sLH_123 : gx_sSH RL 123 yL_test cL_test 5 (some .int) [(0, 10, 13, 25), (0, 10, 17, 15), (0, 10, 21, 13)] 4 := ⟨⟨(tq_4 181 (by decide +kernel) rfl), (tq_4 182 (by decide +kernel) rfl), (tq_1 0 (by decide +kernel) rfl), (tq_4 183 (by decide +kernel) rfl)⟩, ⟨by decide +kernel, by decide +kernel, by decide +kernel⟩⟩
theorem sLH_126 : gx_sSH RL 126 yL_anchor cL_anchor 3 (some .int) [(0, 15, 18, 13)] 2 := ⟨⟨(tq_4 195 (by decide +kernel) rfl), (tq_4 196 (by decide +kernel) rfl), (tq_1 0 (by decide +kernel) rfl), (tq_4 197 (by decide +kernel) rfl)⟩, ⟨by decide +kernel, by decide +kernel, by decide +kernel⟩⟩
theorem sL_80 : gx_sV RL 80 yX6_part cX6_part 10 (some .int) 4 := ⟨⟨(tq_5 88 (by decide +kernel) rfl), (tq_5 89 (by decide +kernel) rfl), (tq_5 90 (by decide +kernel) rfl), (tq_1 10 (by decide +kernel) rfl), (tq_5 91 (by decide +kernel) rfl)⟩, ⟨by decide +kernel, by decide +kernel, by decide +kernel⟩⟩
theorem sL_81 : gx_sV RL 81 yX6_thrown cX6_thrown 1 (some .int) 0 := ⟨⟨(tq_5 84 (by decide +kernel) rfl), (tq_5 85 (by decide +kernel) rfl), (tq_5 86 (by decide +kernel) rfl), (tq_1 10 (by decide +kernel) rfl), (tq_5 87 (by decide +kernel) rfl)⟩, ⟨by decide +kernel, by decide +kernel, by decide +kernel⟩⟩
theorem sL_87 : gx_sV RL 87 yX6_foot cX6_foot 5 (some .boolean) 2 := ⟨⟨(tq_5 101 (by decide +kernel) rfl), (tq_5 102 (by decide +kernel) rfl), (tq_5 103 (by decide +kernel) rfl), (tq_1 10 (by decide +kernel) rfl), (tq_5 104 (by decide +kernel) rfl)⟩, ⟨by decide +kernel, by decide +kernel, by decide +kernel⟩⟩
theorem sL_91 : gx_sV RL 91 yX6_drawer cX6_drawer 4 (some .boolean) 2 := ⟨⟨(tq_5 121 (by decide +kernel) rfl), (tq_5 122 (by decide +kernel) rfl), (tq_5 123 (by decide +kernel) rfl), (tq_1 10 (by decide +kernel) rfl), (tq_5 124 (by decide +kernel) rfl)⟩, ⟨by decide +kernel, by decide +kernel, by decide +kernel⟩⟩
theorem sL_95 : gx_sV RL 95 yX6_person cX6_person 7 (some .boolean) 3 := ⟨⟨(tq_5 125 (by decide +kernel) rfl), (tq_5 126 (by decide +kernel) rfl), (tq_5 127 (by decide +kernel) rfl), (tq_1 10 (by decide +kernel) rfl), (tq_5 128 (by decide +kernel) rfl)⟩, ⟨by decide +kernel, by decide +kernel, by decide +kernel⟩⟩
theorem sL_99 : gx_sV RL 99 yX6_centre cX6_centre 9 (some .long) 2 := ⟨⟨(tq_5 129 (by decide +kernel) rfl), (tq_5 130 (by decide +kernel) rfl), (tq_5 131 (by decide +kernel) rfl), (tq_1 10 (by decide +kernel) rfl), (tq_5 132 (by decide +kernel) rfl)⟩, ⟨by decide +kernel, by decide +kernel, by decide +kernel⟩⟩
theorem sL_103 : gx_sV RL 103 yX6_side cX6_side 2 (some .int) 1 := ⟨⟨(tq_5 136 (by decide +kernel) rfl), (tq_5 137 (by decide +kernel) rfl), (tq_5 138 (by decide +kernel) rfl), (tq_1 10 (by decide +kernel) rfl), (tq_5 139 (by decide +kernel) rfl)⟩, ⟨by decide +kernel, by decide +kernel, by decide +kernel⟩⟩
theorem sL_106 : gx_sV RL 106 yX6_tips cX6_tips 2 (some .int) 1 := ⟨⟨(tq_5 144 (by decide +kernel) rfl), (tq_5 145 (by decide +kernel) rfl), (tq_5 146 (by decide +kernel) rfl), (tq_1 10 (by decide +kernel) rfl), (tq_5 147 (by decide +kernel) rfl)⟩, ⟨by decide +kernel, by decide +kernel, by decide +kernel⟩⟩
theorem sL_109 : gx_sV RL 109 yX6_moment cX6_moment 3 (some .long) 2 := ⟨⟨(tq_5 160 (by decide +kernel) rfl), (tq_5 161 (by decide +kernel) rfl), (tq_5 162 (by decide +kernel) rfl), (tq_1 10 (by decide +kernel) rfl), (tq_5 163 (by decide +kernel) rfl)⟩, ⟨by decide +kernel, by decide +kernel, by decide +kernel⟩⟩
theorem sL_113 : gx_sV RL 113 yX6_most cX6_most 2 (some .int) 0 := ⟨⟨(tq_5 164 (by decide +kernel) rfl), (tq_5 165 (by decide +kernel) rfl), (tq_5 166 (by decide +kernel) rfl), (tq_1 10 (by decide +kernel) rfl), (tq_5 167 (by decide +kernel) rfl)⟩, ⟨by decide +kernel, by decide +kernel, by decide +kernel⟩⟩
theorem sL_114 : gx_sV RL 114 yX5_unit cX5_unit 2 (some .boolean) 1 := ⟨⟨(tq_1 154 (by decide +kernel) rfl), (tq_1 155 (by decide +kernel) rfl), (tq_1 156 (by decide +kernel) rfl), (tq_1 1 (by decide +kernel) rfl), (tq_1 157 (by decide +kernel) rfl)⟩, ⟨by decide +kernel, by decide +kernel, by decide +kernel⟩⟩
theorem sL_118 : gx_sV RL 118 yX6_unit cX6_unit 3 (some .boolean) 1 := ⟨⟨(tq_5 168 (by decide +kernel) rfl), (tq_5 169 (by decide +kernel) rfl), (tq_5 170 (by decide +kernel) rfl), (tq_1 10 (by decide +kernel) rfl), (tq_5 171 (by decide +kernel) rfl)⟩, ⟨by decide +kernel, by decide +kernel, by decide +kernel⟩⟩
theorem sL_119 : gx_sV RL 119 yX5_rules cX5_rules 3 (some .int) 0 := ⟨⟨(tq_2 20 (by decide +kernel) rfl), (tq_2 21 (by decide +kernel) rfl), (tq_2 22 (by decide +kernel) rfl), (tq_1 1 (by decide +kernel) rfl), (tq_2 23 (by decide +kernel) rfl)⟩, ⟨by decide +kernel, by decide +kernel, by decide +kernel⟩⟩
theorem sL_122 : gx_sV RL 122 yX6_rules cX6_rules 3 (some .int) 0 := ⟨⟨(tq_5 172 (by decide +kernel) rfl), (tq_5 173 (by decide +kernel) rfl), (tq_5 174 (by decide +kernel) rfl), (tq_1 10 (by decide +kernel) rfl), (tq_5 175 (by decide +kernel) rfl)⟩, ⟨by decide +kernel, by decide +kernel, by decide +kernel⟩⟩
theorem sL_125 : gx_sV RL 125 yX6_test cX6_test 3 (some .int) 2 := ⟨⟨(tq_5 192 (by decide +kernel) rfl), (tq_5 193 (by decide +kernel) rfl), (tq_5 194 (by decide +kernel) rfl), (tq_1 10 (by decide +kernel) rfl), (tq_5 195 (by decide +kernel) rfl)⟩, ⟨by decide +kernel, by decide +kernel, by decide +kernel⟩⟩
theorem sL_128 : gx_sV RL 128 yX6_anchor cX6_anchor 3 (some .boolean) 0 := ⟨⟨(tq_5 204 (by decide +kernel) rfl), (tq_5 205 (by decide +kernel) rfl), (tq_5 206 (by decide +kernel) rfl), (tq_1 10 (by decide +kernel) rfl), (tq_5 207 (by decide +kernel) rfl)⟩, ⟨by decide +kernel, by decide +kernel, by decide +kernel⟩⟩
theorem sL_132 : gx_sV RL 132 yX6_wobble cX6_wobble 14 (some .double) 4 := ⟨⟨(tq_5 208 (by decide +kernel) rfl), (tq_5 209 (by decide +kernel) rfl), (tq_5 210 (by decide +kernel) rfl), (tq_1 10 (by decide +kernel) rfl), (tq_5 211 (by decide +kernel) rfl)⟩, ⟨by decide +kernel, by decide +kernel, by decide +kernel⟩⟩
theorem sL_138 : gx_sV RL 138 yX6_bend cX6_bend 11 (some .double) 4 := ⟨⟨(tq_5 218 (by decide +kernel) rfl), (tq_5 219 (by decide +kernel) rfl), (tq_5 220 (by decide +kernel) rfl), (tq_1 10 (by decide +kernel) rfl), (tq_5 221 (by decide +kernel) rfl)⟩, ⟨by decide +kernel, by decide +kernel, by decide +kernel⟩⟩
theorem sL_142 : gx_sV RL 142 yX6_creep cX6_creep 2 (some .double) 1 := ⟨⟨(tq_5 229 (by decide +kernel) rfl), (tq_5 230 (by decide +kernel) rfl), (tq_5 231 (by decide +kernel) rfl), (tq_1 10 (by decide +kernel) rfl), (tq_5 232 (by decide +kernel) rfl)⟩, ⟨by decide +kernel, by decide +kernel, by decide +kernel⟩⟩
theorem sL_143 : gx_sV RL 143 yX5_gap cX5_gap 3 (some .int) 1 := ⟨⟨(tq_3 174 (by decide +kernel) rfl), (tq_3 175 (by decide +kernel) rfl), (tq_3 176 (by decide +kernel) rfl), (tq_1 1 (by decide +kernel) rfl), (tq_3 177 (by decide +kernel) rfl)⟩, ⟨by decide +kernel, by decide +kernel, by decide +kernel⟩⟩
theorem sL_147 : gx_sV RL 147 yX6_gap cX6_gap 3 (some .int) 1 := ⟨⟨(tq_5 234 (by decide +kernel) rfl), (tq_5 235 (by decide +kernel) rfl), (tq_5 236 (by decide +kernel) rfl), (tq_1 10 (by decide +kernel) rfl), (tq_5 237 (by decide +kernel) rfl)⟩, ⟨by decide +kernel, by decide +kernel, by decide +kernel⟩⟩
theorem pt_inv {np : Nat} {x y z g : Int64} (h : pt_code np x y z g = 0) (hn : np ≤ 16) : np < 16 ∧ (pl_ok x ∧ pl_ok y ∧ pl_ok z ∧ gm_ok g) := by
  unfold pt_code at h
  by_cases h1 : ¬ nI np < 16
  · rw [if_pos h1] at h
    exact absurd h (by decide)
  · rw [if_neg h1] at h
    by_cases h2 : pl_ok x ∧ pl_ok y ∧ pl_ok z ∧ gm_ok g
    · exact ⟨(nI_ltI (b := 16) (by omega) (by decide)).mp (Classical.not_not.mp h1), h2⟩
    · rw [if_neg h2] at h
      exact absurd h (by decide)
theorem px1_c {A E : String} {c : Int32} (h : px1 A c E) : c = 1 := h.2
theorem px2_c1 {A B : String} {c : Int32} (h : px2 A B c A) (hne : A ≠ B) : c = 1 := by
  rcases h with h | h
  · exact h.2
  · exact absurd h.1 hne
theorem px2_c2 {A B : String} {c : Int32} (h : px2 A B c B) (hne : B ≠ A) : c = 2 := by
  rcases h with h | h
  · exact absurd h.1 hne
  · exact h.2
set_option maxRecDepth 100000 in
theorem pr_part_0 {G : gx_T} {L : List Nat} {f : Nat → va_E} {x ow oD : Nat} {ad : Nat → Nat} {P F S X N T E : Nat} {dn : Nat} {bP : Option Nat} {pa : List Nat} {ps : Nat → ld_T} {bF : Option Nat} {fa : List Nat} {fd : Nat → ft_T} {bS : Option Nat} {sa : List Nat} {sd : Nat → sd_T} {b cap n : Nat} {t : Nat → Nat} {bT : Option Nat} {ta : List Nat} {ds : List rt_T} {ex ey eg : Int64} {cn : Nat} {cf : Nat → Nat} {px py pz gr ou fx fy : Nat → Int64} {od cr ty to_ : Nat → Int32} {cd at0 fl : Int32} {dr : Nat → Int32} {p0 p1 p2 p3 : Int64} (hrl : rl_at G L f x P F S X N T E dn bP pa ps bF fa fd bS sa sd b cap n t bT ta ds ex ey eg cn cf px py pz gr ou fx fy od cr ty to_) {u M : va_W} {v : Option Value}  {r : Int32} (hpo : (fun (v : Option Value) (u : va_W) => v = some (.int (nI pa.length)) ∧ pt_code pa.length p0 p1 p2 p3 = 0 ∧ ∃ (L1 : List Nat) (f1 : Nat → va_E) (b1 q : Nat), u = va_pl L1 f1 ∧ cs_grown G L f P bP pa q L1 f1 b1 ∧ ld_is L1 f1 q (p0, p1, p2, p3, -1, 0)) (some (.int r)) u) (hm : (fun (v : Option Value) (u : va_W) => (pt_code pa.length p0 p1 p2 p3 = 0 ∧ v = some (.int (nI pa.length)) ∧ u = [(ad 0, .inr (11, [.int 0, .int (nI (pa.length + 1)), .ref (ad 1), .ref (ad 2), .ref (ad 3), .ref (ad 4), .ref (ad 5), .int (nI fa.length), .ref (ad 6), .ref (ad 7), .int (nI dn), .ref (ad 8), .long ex, .long ey, .long eg, .int (nI cn), .ref (ad 9), .ref (ad 10), .int (nI n), .int at0, .int fl, .int (nI ds.length), .ref (ad 11), .ref (ad 12)])), (ad 1, .inl (G.2.1 2, 16, .inr (.inl (vp_updL px pa.length p0)))), (ad 2, .inl (G.2.1 2, 16, .inr (.inl (vp_updL py pa.length p1)))), (ad 3, .inl (G.2.1 2, 16, .inr (.inl (vp_updL pz pa.length p2)))), (ad 4, .inl (G.2.1 2, 16, .inr (.inl (vp_updL gr pa.length p3)))), (ad 5, .inl (G.2.1 2, 16, .inr (.inl ou))), (ad 6, .inl (G.2.1 2, 12, .inr (.inl fx))), (ad 7, .inl (G.2.1 2, 12, .inr (.inl fy))), (ad 8, .inl (G.2.1 1, 8, .inl od)), (ad 9, .inl (G.2.1 1, 12, .inl cr)), (ad 10, .inl (G.2.1 1, 200, .inl ty)), (ad 11, .inl (G.2.1 1, 48, .inl to_)), (ad 12, .inl (G.2.1 1, 48, .inl dr))]) ∨ (¬ pt_code pa.length p0 p1 p2 p3 = 0 ∧ v = some (.int 0) ∧ u = [(ad 0, .inr (11, [.int (pt_code pa.length p0 p1 p2 p3), .int (nI pa.length), .ref (ad 1), .ref (ad 2), .ref (ad 3), .ref (ad 4), .ref (ad 5), .int (nI fa.length), .ref (ad 6), .ref (ad 7), .int (nI dn), .ref (ad 8), .long ex, .long ey, .long eg, .int (nI cn), .ref (ad 9), .ref (ad 10), .int (nI n), .int at0, .int fl, .int (nI ds.length), .ref (ad 11), .ref (ad 12)])), (ad 1, .inl (G.2.1 2, 16, .inr (.inl px))), (ad 2, .inl (G.2.1 2, 16, .inr (.inl py))), (ad 3, .inl (G.2.1 2, 16, .inr (.inl pz))), (ad 4, .inl (G.2.1 2, 16, .inr (.inl gr))), (ad 5, .inl (G.2.1 2, 16, .inr (.inl ou))), (ad 6, .inl (G.2.1 2, 12, .inr (.inl fx))), (ad 7, .inl (G.2.1 2, 12, .inr (.inl fy))), (ad 8, .inl (G.2.1 1, 8, .inl od)), (ad 9, .inl (G.2.1 1, 12, .inl cr)), (ad 10, .inl (G.2.1 1, 200, .inl ty)), (ad 11, .inl (G.2.1 1, 48, .inl to_)), (ad 12, .inl (G.2.1 1, 48, .inl dr))])) v M) : ∃ bb : Int32, v = some (.int bb) ∧ r.toInt64 = bb.toInt64 ∧ lw_out G x ow oD ad 0 u M := by
  obtain ⟨e1, hc, L1, f1, b1, q, rfl, hgr, hq⟩ := hpo
  rcases hm with ⟨-, rfl, rfl⟩ | ⟨h1, -, -⟩
  · obtain ⟨hlt, hb⟩ := pt_inv hc hrl.2.2.2.2.2.2.2.2.2.2.2.2.2.2.2.2.2.2.2.2.2.2.2.2.2.2.2.2.1
    injection e1 with e1
    injection e1 with e1
    exact ⟨_, rfl, by rw [e1], ⟨(0), (pa ++ [q]).length, fa.length, dn, cn, n, ds.length, ex, ey, eg, at0, fl, (vp_updL px pa.length p0), (vp_updL py pa.length p1), (vp_updL pz pa.length p2), (vp_updL gr pa.length p3), ou, fx, fy, od, cr, ty, to_, dr, by rw [List.length_append]; rfl, rfl, fun g gD => ⟨L1, f1, P, F, S, X, N, T, E, dn, (some b1), (pa ++ [q]), (ld_snoc ps pa.length (p0, p1, p2, p3, -1, 0)), bF, fa, fd, bS, sa, sd, b, cap, n, t, bT, ta, ds, ex, ey, eg, cn, cf, (vp_updL px pa.length p0), (vp_updL py pa.length p1), (vp_updL pz pa.length p2), (vp_updL gr pa.length p3), ou, fx, fy, od, cr, ty, to_, _, at0, fl, dr, g, gD, by rw [List.length_append]; rfl, rl_part hrl hlt hb hgr hq⟩⟩⟩
  · exact absurd hc h1
set_option maxRecDepth 100000 in
theorem pr_part_1 {G : gx_T} {L : List Nat} {f : Nat → va_E} {x ow oD : Nat} {ad : Nat → Nat} {P F S X N T E : Nat} {dn : Nat} {bP : Option Nat} {pa : List Nat} {ps : Nat → ld_T} {bF : Option Nat} {fa : List Nat} {fd : Nat → ft_T} {bS : Option Nat} {sa : List Nat} {sd : Nat → sd_T} {b cap n : Nat} {t : Nat → Nat} {bT : Option Nat} {ta : List Nat} {ds : List rt_T} {ex ey eg : Int64} {cn : Nat} {cf : Nat → Nat} {px py pz gr ou fx fy : Nat → Int64} {od cr ty to_ : Nat → Int32} {cd at0 fl : Int32} {dr : Nat → Int32} {p0 p1 p2 p3 : Int64} (hrl : rl_at G L f x P F S X N T E dn bP pa ps bF fa fd bS sa sd b cap n t bT ta ds ex ey eg cn cf px py pz gr ou fx fy od cr ty to_) {u M : va_W} {v : Option Value}  (hpo : (fun (Ex : String) (u : va_W) => u = va_pl L f ∧ px2 gx_E1 gx_E2 (pt_code pa.length p0 p1 p2 p3) Ex) gx_E1 u) (hm : (fun (v : Option Value) (u : va_W) => (pt_code pa.length p0 p1 p2 p3 = 0 ∧ v = some (.int (nI pa.length)) ∧ u = [(ad 0, .inr (11, [.int 0, .int (nI (pa.length + 1)), .ref (ad 1), .ref (ad 2), .ref (ad 3), .ref (ad 4), .ref (ad 5), .int (nI fa.length), .ref (ad 6), .ref (ad 7), .int (nI dn), .ref (ad 8), .long ex, .long ey, .long eg, .int (nI cn), .ref (ad 9), .ref (ad 10), .int (nI n), .int at0, .int fl, .int (nI ds.length), .ref (ad 11), .ref (ad 12)])), (ad 1, .inl (G.2.1 2, 16, .inr (.inl (vp_updL px pa.length p0)))), (ad 2, .inl (G.2.1 2, 16, .inr (.inl (vp_updL py pa.length p1)))), (ad 3, .inl (G.2.1 2, 16, .inr (.inl (vp_updL pz pa.length p2)))), (ad 4, .inl (G.2.1 2, 16, .inr (.inl (vp_updL gr pa.length p3)))), (ad 5, .inl (G.2.1 2, 16, .inr (.inl ou))), (ad 6, .inl (G.2.1 2, 12, .inr (.inl fx))), (ad 7, .inl (G.2.1 2, 12, .inr (.inl fy))), (ad 8, .inl (G.2.1 1, 8, .inl od)), (ad 9, .inl (G.2.1 1, 12, .inl cr)), (ad 10, .inl (G.2.1 1, 200, .inl ty)), (ad 11, .inl (G.2.1 1, 48, .inl to_)), (ad 12, .inl (G.2.1 1, 48, .inl dr))]) ∨ (¬ pt_code pa.length p0 p1 p2 p3 = 0 ∧ v = some (.int 0) ∧ u = [(ad 0, .inr (11, [.int (pt_code pa.length p0 p1 p2 p3), .int (nI pa.length), .ref (ad 1), .ref (ad 2), .ref (ad 3), .ref (ad 4), .ref (ad 5), .int (nI fa.length), .ref (ad 6), .ref (ad 7), .int (nI dn), .ref (ad 8), .long ex, .long ey, .long eg, .int (nI cn), .ref (ad 9), .ref (ad 10), .int (nI n), .int at0, .int fl, .int (nI ds.length), .ref (ad 11), .ref (ad 12)])), (ad 1, .inl (G.2.1 2, 16, .inr (.inl px))), (ad 2, .inl (G.2.1 2, 16, .inr (.inl py))), (ad 3, .inl (G.2.1 2, 16, .inr (.inl pz))), (ad 4, .inl (G.2.1 2, 16, .inr (.inl gr))), (ad 5, .inl (G.2.1 2, 16, .inr (.inl ou))), (ad 6, .inl (G.2.1 2, 12, .inr (.inl fx))), (ad 7, .inl (G.2.1 2, 12, .inr (.inl fy))), (ad 8, .inl (G.2.1 1, 8, .inl od)), (ad 9, .inl (G.2.1 1, 12, .inl cr)), (ad 10, .inl (G.2.1 1, 200, .inl ty)), (ad 11, .inl (G.2.1 1, 48, .inl to_)), (ad 12, .inl (G.2.1 1, 48, .inl dr))])) v M) : ∃ bb : Int32, v = some (.int bb) ∧ True ∧ lw_out G x ow oD ad 1 u M := by
  obtain ⟨rfl, hp⟩ := hpo
  have hc := px2_c1 hp (by decide)
  rcases hm with ⟨h1, -, -⟩ | ⟨-, rfl, rfl⟩
  · rw [hc] at h1
    exact absurd h1 (by decide)
  · exact ⟨_, rfl, trivial, ⟨((pt_code pa.length p0 p1 p2 p3)), pa.length, fa.length, dn, cn, n, ds.length, ex, ey, eg, at0, fl, px, py, pz, gr, ou, fx, fy, od, cr, ty, to_, dr, rfl, hc, fun g gD => ⟨L, f, P, F, S, X, N, T, E, dn, bP, pa, ps, bF, fa, fd, bS, sa, sd, b, cap, n, t, bT, ta, ds, ex, ey, eg, cn, cf, px, py, pz, gr, ou, fx, fy, od, cr, ty, to_, _, at0, fl, dr, g, gD, rfl, hrl⟩⟩⟩
set_option maxRecDepth 100000 in
theorem pr_part_2 {G : gx_T} {L : List Nat} {f : Nat → va_E} {x ow oD : Nat} {ad : Nat → Nat} {P F S X N T E : Nat} {dn : Nat} {bP : Option Nat} {pa : List Nat} {ps : Nat → ld_T} {bF : Option Nat} {fa : List Nat} {fd : Nat → ft_T} {bS : Option Nat} {sa : List Nat} {sd : Nat → sd_T} {b cap n : Nat} {t : Nat → Nat} {bT : Option Nat} {ta : List Nat} {ds : List rt_T} {ex ey eg : Int64} {cn : Nat} {cf : Nat → Nat} {px py pz gr ou fx fy : Nat → Int64} {od cr ty to_ : Nat → Int32} {cd at0 fl : Int32} {dr : Nat → Int32} {p0 p1 p2 p3 : Int64} (hrl : rl_at G L f x P F S X N T E dn bP pa ps bF fa fd bS sa sd b cap n t bT ta ds ex ey eg cn cf px py pz gr ou fx fy od cr ty to_) {u M : va_W} {v : Option Value}  (hpo : (fun (Ex : String) (u : va_W) => u = va_pl L f ∧ px2 gx_E1 gx_E2 (pt_code pa.length p0 p1 p2 p3) Ex) gx_E2 u) (hm : (fun (v : Option Value) (u : va_W) => (pt_code pa.length p0 p1 p2 p3 = 0 ∧ v = some (.int (nI pa.length)) ∧ u = [(ad 0, .inr (11, [.int 0, .int (nI (pa.length + 1)), .ref (ad 1), .ref (ad 2), .ref (ad 3), .ref (ad 4), .ref (ad 5), .int (nI fa.length), .ref (ad 6), .ref (ad 7), .int (nI dn), .ref (ad 8), .long ex, .long ey, .long eg, .int (nI cn), .ref (ad 9), .ref (ad 10), .int (nI n), .int at0, .int fl, .int (nI ds.length), .ref (ad 11), .ref (ad 12)])), (ad 1, .inl (G.2.1 2, 16, .inr (.inl (vp_updL px pa.length p0)))), (ad 2, .inl (G.2.1 2, 16, .inr (.inl (vp_updL py pa.length p1)))), (ad 3, .inl (G.2.1 2, 16, .inr (.inl (vp_updL pz pa.length p2)))), (ad 4, .inl (G.2.1 2, 16, .inr (.inl (vp_updL gr pa.length p3)))), (ad 5, .inl (G.2.1 2, 16, .inr (.inl ou))), (ad 6, .inl (G.2.1 2, 12, .inr (.inl fx))), (ad 7, .inl (G.2.1 2, 12, .inr (.inl fy))), (ad 8, .inl (G.2.1 1, 8, .inl od)), (ad 9, .inl (G.2.1 1, 12, .inl cr)), (ad 10, .inl (G.2.1 1, 200, .inl ty)), (ad 11, .inl (G.2.1 1, 48, .inl to_)), (ad 12, .inl (G.2.1 1, 48, .inl dr))]) ∨ (¬ pt_code pa.length p0 p1 p2 p3 = 0 ∧ v = some (.int 0) ∧ u = [(ad 0, .inr (11, [.int (pt_code pa.length p0 p1 p2 p3), .int (nI pa.length), .ref (ad 1), .ref (ad 2), .ref (ad 3), .ref (ad 4), .ref (ad 5), .int (nI fa.length), .ref (ad 6), .ref (ad 7), .int (nI dn), .ref (ad 8), .long ex, .long ey, .long eg, .int (nI cn), .ref (ad 9), .ref (ad 10), .int (nI n), .int at0, .int fl, .int (nI ds.length), .ref (ad 11), .ref (ad 12)])), (ad 1, .inl (G.2.1 2, 16, .inr (.inl px))), (ad 2, .inl (G.2.1 2, 16, .inr (.inl py))), (ad 3, .inl (G.2.1 2, 16, .inr (.inl pz))), (ad 4, .inl (G.2.1 2, 16, .inr (.inl gr))), (ad 5, .inl (G.2.1 2, 16, .inr (.inl ou))), (ad 6, .inl (G.2.1 2, 12, .inr (.inl fx))), (ad 7, .inl (G.2.1 2, 12, .inr (.inl fy))), (ad 8, .inl (G.2.1 1, 8, .inl od)), (ad 9, .inl (G.2.1 1, 12, .inl cr)), (ad 10, .inl (G.2.1 1, 200, .inl ty)), (ad 11, .inl (G.2.1 1, 48, .inl to_)), (ad 12, .inl (G.2.1 1, 48, .inl dr))])) v M) : ∃ bb : Int32, v = some (.int bb) ∧ True ∧ lw_out G x ow oD ad 2 u M := by
  obtain ⟨rfl, hp⟩ := hpo
  have hc := px2_c2 hp (by decide)
  rcases hm with ⟨h1, -, -⟩ | ⟨-, rfl, rfl⟩
  · rw [hc] at h1
    exact absurd h1 (by decide)
  · exact ⟨_, rfl, trivial, ⟨((pt_code pa.length p0 p1 p2 p3)), pa.length, fa.length, dn, cn, n, ds.length, ex, ey, eg, at0, fl, px, py, pz, gr, ou, fx, fy, od, cr, ty, to_, dr, rfl, hc, fun g gD => ⟨L, f, P, F, S, X, N, T, E, dn, bP, pa, ps, bF, fa, fd, bS, sa, sd, b, cap, n, t, bT, ta, ds, ex, ey, eg, cn, cf, px, py, pz, gr, ou, fx, fy, od, cr, ty, to_, _, at0, fl, dr, g, gD, rfl, hrl⟩⟩⟩
set_option maxHeartbeats 8000000 in
set_option maxRecDepth 100000 in
theorem lc_part {l : Launch} (hfl : l.flags = flags0) {p : Program} {e : Env} {R : Room} {s : State} {m : MethodId} {below : List Frame} {meth : Method} {c : Code} {A : Nat → Prop} {G : gx_T} {b0 Ls : Nat} {xs : Nat → Int32} {x ow oD : Nat} {ad : Nat → Nat} {H : Heap} {locs : List Loc} {cells slots : Nat} {Q : State → Prop} {ls : Array Slot} {i : Nat} {ws : va_W} (C : gx_C G p s m #[Value.ref b0] meth c cL_law 9 RL A) (hX : va_X b0 Ls xs s s.heap) (hbl : b0 < s.heap.size) (hbA : ¬ A b0) (hi : i + 9 ≤ Ls) (hLs : Ls ≤ 4608) (hR : 100 ≤ R.frames ∧ 4000 ≤ R.locals ∧ cells + 64 ≤ R.cells ∧ slots + 2000 ≤ R.slots) (hinv : lw_inv G x ow oD ad ws) (hW : gx_W G A s ws H locs) (hl : lv_has ls 9 [(5, .int (nI i)), (4, .ref oD), (3, .ref ow), (2, .ref (ad 0)), (1, .ref x), (0, .ref b0)]) (kk : ∀ (ws2 : va_W) (H2 : Heap) (locs2 : List Loc) (ls2 : Array Slot), lw_inv G x ow oD ad ws2 → gx_W G A s ws2 H2 locs2 → lv_has ls2 9 [(5, .int (nI i)), (4, .ref oD), (3, .ref ow), (2, .ref (ad 0)), (1, .ref x), (0, .ref b0)] → W p l e R s m #[Value.ref b0] below meth c H2 locs2 (cells + 64) (slots + 2000) Q (F0 m 1766 ls2 [])) : W p l e R s m #[Value.ref b0] below meth c H locs cells slots Q (F0 m 128 ls []) := by
  have gX := C.x
  have gB := C.b
  obtain ⟨L, f, P, F, S, X, N, T, E, dn, bP, pa, ps, bF, fa, fd, bS, sa, sd, b, cap, n, t, bT, ta, ds, ex, ey, eg, cn, cf, px, py, pz, gr, ou, fx, fy, od, cr, ty, to_, cd, at0, fl, dr, g, gD, rfl, hrl⟩ := hinv
  obtain ⟨hx, fx0, lP, lF, lS, lT, tb, hN, hE, pP, pF, pS, pT, nPF, nPS, nPT, nFS, nFT, nST, rPF, rPS, rPT, rFS, rFT, rST, nd, Nn, En, p16, f12, t12, tl, n2, d8, c12, sl, rP, rO, rQ, rF, rE, rX, rT, rD, rC, rS⟩ := id hrl
  refine lv_aload_n gX gB dL_law_128 rfl (lv_at hl 4 rfl) ?_
  refine lv_aload_n gX gB dL_law_129 rfl (lv_at hl 5 rfl) ?_
  refine lv_iload gX gB dL_law_130 (lv_at hl 0 rfl) ?_
  refine lv_iconst (v := 1) gX gB dL_law_132 (by decide) ?_
  refine lv_iadd gX gB dL_law_133 ?_
  refine gx_topi (show ((nI i) + 1) = nI (i + 1) from nI_add i 1) ?_
  refine va_sld C.x C.b hX hbl hbA hW.2.2 (nI_in (by omega) (by omega)) dL_law_134 ?_
  refine gx_topi (show xs (nI (i + 1)).toNatClampNeg = xs (i + 1) from by rw [nI_clamp (by omega)]) ?_
  refine lv_i2l gX gB dL_law_135 rfl ?_
  refine lv_bipush (v := 32) gX gB dL_law_136 (by decide) ?_
  refine lv_lshl gX gB dL_law_138 rfl ?_
  refine lv_aload_n gX gB dL_law_139 rfl (lv_at hl 5 rfl) ?_
  refine lv_iload gX gB dL_law_140 (lv_at hl 0 rfl) ?_
  refine lv_iconst (v := 2) gX gB dL_law_142 (by decide) ?_
  refine lv_iadd gX gB dL_law_143 ?_
  refine gx_topi (show ((nI i) + 2) = nI (i + 2) from nI_add i 2) ?_
  refine va_sld C.x C.b hX hbl hbA hW.2.2 (nI_in (by omega) (by omega)) dL_law_144 ?_
  refine gx_topi (show xs (nI (i + 2)).toNatClampNeg = xs (i + 2) from by rw [nI_clamp (by omega)]) ?_
  refine lv_i2l gX gB dL_law_145 rfl ?_
  refine gx_ldc2 (v := 4294967295) C (tq_6 2 (by decide +kernel) rfl) dL_law_146 ?_
  refine lv_land gX gB dL_law_149 ?_
  refine lv_lor gX gB dL_law_150 ?_
  refine gx_topl (show ((((xs (i + 1)).toInt64) <<< ((32 : Int32).toInt64 &&& 63)) ||| (((xs (i + 2)).toInt64) &&& 4294967295)) = sc_l xs (i + 1) from rfl) ?_
  refine lv_aload_n gX gB dL_law_151 rfl (lv_at hl 5 rfl) ?_
  refine lv_iload gX gB dL_law_152 (lv_at hl 0 rfl) ?_
  refine lv_iconst (v := 3) gX gB dL_law_154 (by decide) ?_
  refine lv_iadd gX gB dL_law_155 ?_
  refine gx_topi (show ((nI i) + 3) = nI (i + 3) from nI_add i 3) ?_
  refine va_sld C.x C.b hX hbl hbA hW.2.2 (nI_in (by omega) (by omega)) dL_law_156 ?_
  refine gx_topi (show xs (nI (i + 3)).toNatClampNeg = xs (i + 3) from by rw [nI_clamp (by omega)]) ?_
  refine lv_i2l gX gB dL_law_157 rfl ?_
  refine lv_bipush (v := 32) gX gB dL_law_158 (by decide) ?_
  refine lv_lshl gX gB dL_law_160 rfl ?_
  refine lv_aload_n gX gB dL_law_161 rfl (lv_at hl 5 rfl) ?_
  refine lv_iload gX gB dL_law_162 (lv_at hl 0 rfl) ?_
  refine lv_iconst (v := 4) gX gB dL_law_164 (by decide) ?_
  refine lv_iadd gX gB dL_law_165 ?_
  refine gx_topi (show ((nI i) + 4) = nI (i + 4) from nI_add i 4) ?_
  refine va_sld C.x C.b hX hbl hbA hW.2.2 (nI_in (by omega) (by omega)) dL_law_166 ?_
  refine gx_topi (show xs (nI (i + 4)).toNatClampNeg = xs (i + 4) from by rw [nI_clamp (by omega)]) ?_
  refine lv_i2l gX gB dL_law_167 rfl ?_
  refine gx_ldc2 (v := 4294967295) C (tq_6 2 (by decide +kernel) rfl) dL_law_168 ?_
  refine lv_land gX gB dL_law_171 ?_
  refine lv_lor gX gB dL_law_172 ?_
  refine gx_topl (show ((((xs (i + 3)).toInt64) <<< ((32 : Int32).toInt64 &&& 63)) ||| (((xs (i + 4)).toInt64) &&& 4294967295)) = sc_l xs (i + 3) from rfl) ?_
  refine lv_aload_n gX gB dL_law_173 rfl (lv_at hl 5 rfl) ?_
  refine lv_iload gX gB dL_law_174 (lv_at hl 0 rfl) ?_
  refine lv_iconst (v := 5) gX gB dL_law_176 (by decide) ?_
  refine lv_iadd gX gB dL_law_177 ?_
  refine gx_topi (show ((nI i) + 5) = nI (i + 5) from nI_add i 5) ?_
  refine va_sld C.x C.b hX hbl hbA hW.2.2 (nI_in (by omega) (by omega)) dL_law_178 ?_
  refine gx_topi (show xs (nI (i + 5)).toNatClampNeg = xs (i + 5) from by rw [nI_clamp (by omega)]) ?_
  refine lv_i2l gX gB dL_law_179 rfl ?_
  refine lv_bipush (v := 32) gX gB dL_law_180 (by decide) ?_
  refine lv_lshl gX gB dL_law_182 rfl ?_
  refine lv_aload_n gX gB dL_law_183 rfl (lv_at hl 5 rfl) ?_
  refine lv_iload gX gB dL_law_184 (lv_at hl 0 rfl) ?_
  refine lv_bipush (v := 6) gX gB dL_law_186 (by decide) ?_
  refine lv_iadd gX gB dL_law_188 ?_
  refine gx_topi (show ((nI i) + 6) = nI (i + 6) from nI_add i 6) ?_
  refine va_sld C.x C.b hX hbl hbA hW.2.2 (nI_in (by omega) (by omega)) dL_law_189 ?_
  refine gx_topi (show xs (nI (i + 6)).toNatClampNeg = xs (i + 6) from by rw [nI_clamp (by omega)]) ?_
  refine lv_i2l gX gB dL_law_190 rfl ?_
  refine gx_ldc2 (v := 4294967295) C (tq_6 2 (by decide +kernel) rfl) dL_law_191 ?_
  refine lv_land gX gB dL_law_194 ?_
  refine lv_lor gX gB dL_law_195 ?_
  refine gx_topl (show ((((xs (i + 5)).toInt64) <<< ((32 : Int32).toInt64 &&& 63)) ||| (((xs (i + 6)).toInt64) &&& 4294967295)) = sc_l xs (i + 5) from rfl) ?_
  refine lv_aload_n gX gB dL_law_196 rfl (lv_at hl 5 rfl) ?_
  refine lv_iload gX gB dL_law_197 (lv_at hl 0 rfl) ?_
  refine lv_bipush (v := 7) gX gB dL_law_199 (by decide) ?_
  refine lv_iadd gX gB dL_law_201 ?_
  refine gx_topi (show ((nI i) + 7) = nI (i + 7) from nI_add i 7) ?_
  refine va_sld C.x C.b hX hbl hbA hW.2.2 (nI_in (by omega) (by omega)) dL_law_202 ?_
  refine gx_topi (show xs (nI (i + 7)).toNatClampNeg = xs (i + 7) from by rw [nI_clamp (by omega)]) ?_
  refine lv_i2l gX gB dL_law_203 rfl ?_
  refine lv_bipush (v := 32) gX gB dL_law_204 (by decide) ?_
  refine lv_lshl gX gB dL_law_206 rfl ?_
  refine lv_aload_n gX gB dL_law_207 rfl (lv_at hl 5 rfl) ?_
  refine lv_iload gX gB dL_law_208 (lv_at hl 0 rfl) ?_
  refine lv_bipush (v := 8) gX gB dL_law_210 (by decide) ?_
  refine lv_iadd gX gB dL_law_212 ?_
  refine gx_topi (show ((nI i) + 8) = nI (i + 8) from nI_add i 8) ?_
  refine va_sld C.x C.b hX hbl hbA hW.2.2 (nI_in (by omega) (by omega)) dL_law_213 ?_
  refine gx_topi (show xs (nI (i + 8)).toNatClampNeg = xs (i + 8) from by rw [nI_clamp (by omega)]) ?_
  refine lv_i2l gX gB dL_law_214 rfl ?_
  refine gx_ldc2 (v := 4294967295) C (tq_6 2 (by decide +kernel) rfl) dL_law_215 ?_
  refine lv_land gX gB dL_law_218 ?_
  refine lv_lor gX gB dL_law_219 ?_
  refine gx_topl (show ((((xs (i + 7)).toInt64) <<< ((32 : Int32).toInt64 &&& 63)) ||| (((xs (i + 8)).toInt64) &&& 4294967295)) = sc_l xs (i + 7) from rfl) ?_
  refine lv_aload_n gX gB dL_law_220 rfl (lv_at hl 2 rfl) ?_
  refine gx_callSH (wr := [(oD, .inl (G.2.1 4, 1, .inr (.inr (.inr (.inl gD))))), (ad 0, .inr (11, [.int cd, .int (nI pa.length), .ref (ad 1), .ref (ad 2), .ref (ad 3), .ref (ad 4), .ref (ad 5), .int (nI fa.length), .ref (ad 6), .ref (ad 7), .int (nI dn), .ref (ad 8), .long ex, .long ey, .long eg, .int (nI cn), .ref (ad 9), .ref (ad 10), .int (nI n), .int at0, .int fl, .int (nI ds.length), .ref (ad 11), .ref (ad 12)])), (ad 1, .inl (G.2.1 2, 16, .inr (.inl px))), (ad 2, .inl (G.2.1 2, 16, .inr (.inl py))), (ad 3, .inl (G.2.1 2, 16, .inr (.inl pz))), (ad 4, .inl (G.2.1 2, 16, .inr (.inl gr))), (ad 5, .inl (G.2.1 2, 16, .inr (.inl ou))), (ad 6, .inl (G.2.1 2, 12, .inr (.inl fx))), (ad 7, .inl (G.2.1 2, 12, .inr (.inl fy))), (ad 8, .inl (G.2.1 1, 8, .inl od)), (ad 9, .inl (G.2.1 1, 12, .inl cr)), (ad 10, .inl (G.2.1 1, 200, .inl ty)), (ad 11, .inl (G.2.1 1, 48, .inl to_)), (ad 12, .inl (G.2.1 1, 48, .inl dr))]) (rest := []) C hW sLH_75 (kL_part l G L f x _ hx fx0 ow g (sc_l xs (i + 1)) (sc_l xs (i + 3)) (sc_l xs (i + 5)) (sc_l xs (i + 7)) _ _ (kX5_part l hfl G L f x P F S X N T E (nI dn) hx fx0 bP pa ps lP pP p16 (sc_l xs (i + 1)) (sc_l xs (i + 3)) (sc_l xs (i + 5)) (sc_l xs (i + 7))) (fun v u h => ⟨_, h.1⟩) (fun E u h => h.2.imp (fun z => z.1) (fun z => z.1))) rfl ⟨(by dsimp only; omega), (by dsimp only; omega)⟩ hl.1 rfl (Nat.le_of_ble_eq_true rfl) dL_law_221 ⟨(by dsimp only; omega), (by dsimp only; omega)⟩ (fun v9 u9 H locs hp hW => ?_)
  rcases hp with ⟨r, u, hpo, rfl, rfl⟩ | ⟨u, hpx9, rfl, rfl⟩ | ⟨u, hpx9, rfl, rfl⟩
  · have hW : gx_W G A s ([(oD, .inl (G.2.1 4, 1, .inr (.inr (.inr (.inl gD))))), (ad 0, .inr (11, [.int cd, .int (nI pa.length), .ref (ad 1), .ref (ad 2), .ref (ad 3), .ref (ad 4), .ref (ad 5), .int (nI fa.length), .ref (ad 6), .ref (ad 7), .int (nI dn), .ref (ad 8), .long ex, .long ey, .long eg, .int (nI cn), .ref (ad 9), .ref (ad 10), .int (nI n), .int at0, .int fl, .int (nI ds.length), .ref (ad 11), .ref (ad 12)])), (ad 1, .inl (G.2.1 2, 16, .inr (.inl px))), (ad 2, .inl (G.2.1 2, 16, .inr (.inl py))), (ad 3, .inl (G.2.1 2, 16, .inr (.inl pz))), (ad 4, .inl (G.2.1 2, 16, .inr (.inl gr))), (ad 5, .inl (G.2.1 2, 16, .inr (.inl ou))), (ad 6, .inl (G.2.1 2, 12, .inr (.inl fx))), (ad 7, .inl (G.2.1 2, 12, .inr (.inl fy))), (ad 8, .inl (G.2.1 1, 8, .inl od)), (ad 9, .inl (G.2.1 1, 12, .inl cr)), (ad 10, .inl (G.2.1 1, 200, .inl ty)), (ad 11, .inl (G.2.1 1, 48, .inl to_)), (ad 12, .inl (G.2.1 1, 48, .inl dr))] ++ ([(ow, .inl (G.2.1 2, 1, .inr (.inl (vp_updL g 0 r.toInt64))))] ++ u)) H locs := hW
    refine W.eq (g2 := F0 m 224 ls [.int 0]) rfl ?_
    refine W.widen (k := cells + 7) (n := slots + 60) (by dsimp only; omega) (by dsimp only; omega) ?_
    refine lv_istore (lv' := [(6, .int 0), (5, .int (nI i)), (4, .ref oD), (3, .ref ow), (2, .ref (ad 0)), (1, .ref x), (0, .ref b0)]) gX gB dL_law_224 hl (by decide) rfl (fun ls hl => ?_)
    refine lv_aload_n gX gB dL_law_226 rfl (lv_at hl 4 rfl) ?_
    refine lv_aload_n gX gB dL_law_227 rfl (lv_at hl 6 rfl) ?_
    refine lv_iload gX gB dL_law_228 (lv_at hl 1 rfl) ?_
    refine lv_iconst (v := 1) gX gB dL_law_230 (by decide) ?_
    refine lv_iadd gX gB dL_law_231 ?_
    refine gx_topi (show ((nI i) + 1) = nI (i + 1) from nI_add i 1) ?_
    refine va_sld C.x C.b hX hbl hbA hW.2.2 (nI_in (by omega) (by omega)) dL_law_232 ?_
    refine gx_topi (show xs (nI (i + 1)).toNatClampNeg = xs (i + 1) from by rw [nI_clamp (by omega)]) ?_
    refine lv_i2l gX gB dL_law_233 rfl ?_
    refine lv_bipush (v := 32) gX gB dL_law_234 (by decide) ?_
    refine lv_lshl gX gB dL_law_236 rfl ?_
    refine lv_aload_n gX gB dL_law_237 rfl (lv_at hl 6 rfl) ?_
    refine lv_iload gX gB dL_law_238 (lv_at hl 1 rfl) ?_
    refine lv_iconst (v := 2) gX gB dL_law_240 (by decide) ?_
    refine lv_iadd gX gB dL_law_241 ?_
    refine gx_topi (show ((nI i) + 2) = nI (i + 2) from nI_add i 2) ?_
    refine va_sld C.x C.b hX hbl hbA hW.2.2 (nI_in (by omega) (by omega)) dL_law_242 ?_
    refine gx_topi (show xs (nI (i + 2)).toNatClampNeg = xs (i + 2) from by rw [nI_clamp (by omega)]) ?_
    refine lv_i2l gX gB dL_law_243 rfl ?_
    refine gx_ldc2 (v := 4294967295) C (tq_6 2 (by decide +kernel) rfl) dL_law_244 ?_
    refine lv_land gX gB dL_law_247 ?_
    refine lv_lor gX gB dL_law_248 ?_
    refine gx_topl (show ((((xs (i + 1)).toInt64) <<< ((32 : Int32).toInt64 &&& 63)) ||| (((xs (i + 2)).toInt64) &&& 4294967295)) = sc_l xs (i + 1) from rfl) ?_
    refine lv_aload_n gX gB dL_law_249 rfl (lv_at hl 6 rfl) ?_
    refine lv_iload gX gB dL_law_250 (lv_at hl 1 rfl) ?_
    refine lv_iconst (v := 3) gX gB dL_law_252 (by decide) ?_
    refine lv_iadd gX gB dL_law_253 ?_
    refine gx_topi (show ((nI i) + 3) = nI (i + 3) from nI_add i 3) ?_
    refine va_sld C.x C.b hX hbl hbA hW.2.2 (nI_in (by omega) (by omega)) dL_law_254 ?_
    refine gx_topi (show xs (nI (i + 3)).toNatClampNeg = xs (i + 3) from by rw [nI_clamp (by omega)]) ?_
    refine lv_i2l gX gB dL_law_255 rfl ?_
    refine lv_bipush (v := 32) gX gB dL_law_256 (by decide) ?_
    refine lv_lshl gX gB dL_law_258 rfl ?_
    refine lv_aload_n gX gB dL_law_259 rfl (lv_at hl 6 rfl) ?_
    refine lv_iload gX gB dL_law_260 (lv_at hl 1 rfl) ?_
    refine lv_iconst (v := 4) gX gB dL_law_262 (by decide) ?_
    refine lv_iadd gX gB dL_law_263 ?_
    refine gx_topi (show ((nI i) + 4) = nI (i + 4) from nI_add i 4) ?_
    refine va_sld C.x C.b hX hbl hbA hW.2.2 (nI_in (by omega) (by omega)) dL_law_264 ?_
    refine gx_topi (show xs (nI (i + 4)).toNatClampNeg = xs (i + 4) from by rw [nI_clamp (by omega)]) ?_
    refine lv_i2l gX gB dL_law_265 rfl ?_
    refine gx_ldc2 (v := 4294967295) C (tq_6 2 (by decide +kernel) rfl) dL_law_266 ?_
    refine lv_land gX gB dL_law_269 ?_
    refine lv_lor gX gB dL_law_270 ?_
    refine gx_topl (show ((((xs (i + 3)).toInt64) <<< ((32 : Int32).toInt64 &&& 63)) ||| (((xs (i + 4)).toInt64) &&& 4294967295)) = sc_l xs (i + 3) from rfl) ?_
    refine lv_aload_n gX gB dL_law_271 rfl (lv_at hl 6 rfl) ?_
    refine lv_iload gX gB dL_law_272 (lv_at hl 1 rfl) ?_
    refine lv_iconst (v := 5) gX gB dL_law_274 (by decide) ?_
    refine lv_iadd gX gB dL_law_275 ?_
    refine gx_topi (show ((nI i) + 5) = nI (i + 5) from nI_add i 5) ?_
    refine va_sld C.x C.b hX hbl hbA hW.2.2 (nI_in (by omega) (by omega)) dL_law_276 ?_
    refine gx_topi (show xs (nI (i + 5)).toNatClampNeg = xs (i + 5) from by rw [nI_clamp (by omega)]) ?_
    refine lv_i2l gX gB dL_law_277 rfl ?_
    refine lv_bipush (v := 32) gX gB dL_law_278 (by decide) ?_
    refine lv_lshl gX gB dL_law_280 rfl ?_
    refine lv_aload_n gX gB dL_law_281 rfl (lv_at hl 6 rfl) ?_
    refine lv_iload gX gB dL_law_282 (lv_at hl 1 rfl) ?_
    refine lv_bipush (v := 6) gX gB dL_law_284 (by decide) ?_
    refine lv_iadd gX gB dL_law_286 ?_
    refine gx_topi (show ((nI i) + 6) = nI (i + 6) from nI_add i 6) ?_
    refine va_sld C.x C.b hX hbl hbA hW.2.2 (nI_in (by omega) (by omega)) dL_law_287 ?_
    refine gx_topi (show xs (nI (i + 6)).toNatClampNeg = xs (i + 6) from by rw [nI_clamp (by omega)]) ?_
    refine lv_i2l gX gB dL_law_288 rfl ?_
    refine gx_ldc2 (v := 4294967295) C (tq_6 2 (by decide +kernel) rfl) dL_law_289 ?_
    refine lv_land gX gB dL_law_292 ?_
    refine lv_lor gX gB dL_law_293 ?_
    refine gx_topl (show ((((xs (i + 5)).toInt64) <<< ((32 : Int32).toInt64 &&& 63)) ||| (((xs (i + 6)).toInt64) &&& 4294967295)) = sc_l xs (i + 5) from rfl) ?_
    refine lv_aload_n gX gB dL_law_294 rfl (lv_at hl 6 rfl) ?_
    refine lv_iload gX gB dL_law_295 (lv_at hl 1 rfl) ?_
    refine lv_bipush (v := 7) gX gB dL_law_297 (by decide) ?_
    refine lv_iadd gX gB dL_law_299 ?_
    refine gx_topi (show ((nI i) + 7) = nI (i + 7) from nI_add i 7) ?_
    refine va_sld C.x C.b hX hbl hbA hW.2.2 (nI_in (by omega) (by omega)) dL_law_300 ?_
    refine gx_topi (show xs (nI (i + 7)).toNatClampNeg = xs (i + 7) from by rw [nI_clamp (by omega)]) ?_
    refine lv_i2l gX gB dL_law_301 rfl ?_
    refine lv_bipush (v := 32) gX gB dL_law_302 (by decide) ?_
    refine lv_lshl gX gB dL_law_304 rfl ?_
    refine lv_aload_n gX gB dL_law_305 rfl (lv_at hl 6 rfl) ?_
    refine lv_iload gX gB dL_law_306 (lv_at hl 1 rfl) ?_
    refine lv_bipush (v := 8) gX gB dL_law_308 (by decide) ?_
    refine lv_iadd gX gB dL_law_310 ?_
    refine gx_topi (show ((nI i) + 8) = nI (i + 8) from nI_add i 8) ?_
    refine va_sld C.x C.b hX hbl hbA hW.2.2 (nI_in (by omega) (by omega)) dL_law_311 ?_
    refine gx_topi (show xs (nI (i + 8)).toNatClampNeg = xs (i + 8) from by rw [nI_clamp (by omega)]) ?_
    refine lv_i2l gX gB dL_law_312 rfl ?_
    refine gx_ldc2 (v := 4294967295) C (tq_6 2 (by decide +kernel) rfl) dL_law_313 ?_
    refine lv_land gX gB dL_law_316 ?_
    refine lv_lor gX gB dL_law_317 ?_
    refine gx_topl (show ((((xs (i + 7)).toInt64) <<< ((32 : Int32).toInt64 &&& 63)) ||| (((xs (i + 8)).toInt64) &&& 4294967295)) = sc_l xs (i + 7) from rfl) ?_
    have hW := gx_W.toM hW
    have hW : gx_W G A s ((([(ow, .inl (G.2.1 2, 1, .inr (.inl (vp_updL g 0 r.toInt64))))] ++ u) ++ [(oD, .inl (G.2.1 4, 1, .inr (.inr (.inr (.inl gD)))))]) ++ [(ad 0, .inr (11, [.int cd, .int (nI pa.length), .ref (ad 1), .ref (ad 2), .ref (ad 3), .ref (ad 4), .ref (ad 5), .int (nI fa.length), .ref (ad 6), .ref (ad 7), .int (nI dn), .ref (ad 8), .long ex, .long ey, .long eg, .int (nI cn), .ref (ad 9), .ref (ad 10), .int (nI n), .int at0, .int fl, .int (nI ds.length), .ref (ad 11), .ref (ad 12)])), (ad 1, .inl (G.2.1 2, 16, .inr (.inl px))), (ad 2, .inl (G.2.1 2, 16, .inr (.inl py))), (ad 3, .inl (G.2.1 2, 16, .inr (.inl pz))), (ad 4, .inl (G.2.1 2, 16, .inr (.inl gr))), (ad 5, .inl (G.2.1 2, 16, .inr (.inl ou))), (ad 6, .inl (G.2.1 2, 12, .inr (.inl fx))), (ad 7, .inl (G.2.1 2, 12, .inr (.inl fy))), (ad 8, .inl (G.2.1 1, 8, .inl od)), (ad 9, .inl (G.2.1 1, 12, .inl cr)), (ad 10, .inl (G.2.1 1, 200, .inl ty)), (ad 11, .inl (G.2.1 1, 48, .inl to_)), (ad 12, .inl (G.2.1 1, 48, .inl dr))]) H locs := hW
    refine gx_callV (wr := ([(ow, .inl (G.2.1 2, 1, .inr (.inl (vp_updL g 0 r.toInt64))))] ++ u) ++ [(oD, .inl (G.2.1 4, 1, .inr (.inr (.inr (.inl gD)))))]) (rest := []) C hW sL_80 (kX6_part l G ad cd pa.length fa.length dn cn n ds.length ex ey eg at0 fl px py pz gr ou fx fy od cr ty to_ dr p16 (sc_l xs (i + 1)) (sc_l xs (i + 3)) (sc_l xs (i + 5)) (sc_l xs (i + 7))) ⟨0, rfl⟩ rfl rfl ⟨(by dsimp only; omega), (by dsimp only; omega)⟩ hl.1 rfl (Nat.le_of_ble_eq_true rfl) dL_law_318 ⟨(by dsimp only; omega), (by dsimp only; omega)⟩ (fun v9 u9 H locs hm hW => ?_)
    obtain ⟨bb, rfl, hval, hout⟩ := pr_part_0 (ow := ow) (oD := oD) (cd := cd) (at0 := at0) (fl := fl) (dr := dr) hrl hpo hm
    obtain ⟨cd9, pn9, fn9, dn9, cn9, sn9, tn9, ex9, ey9, eg9, at9, fl9, px9, py9, pz9, gr9, ou9, fx9, fy9, od9, cr9, ty9, to9, dr9, rfl, hcd, hnew⟩ := hout
    have hW : gx_W G A s ((([(ow, .inl (G.2.1 2, 1, .inr (.inl (vp_updL g 0 r.toInt64))))] ++ u) ++ [(oD, .inl (G.2.1 4, 1, .inr (.inr (.inr (.inl gD)))))]) ++ [(ad 0, .inr (11, [.int cd9, .int (nI pn9), .ref (ad 1), .ref (ad 2), .ref (ad 3), .ref (ad 4), .ref (ad 5), .int (nI fn9), .ref (ad 6), .ref (ad 7), .int (nI dn9), .ref (ad 8), .long ex9, .long ey9, .long eg9, .int (nI cn9), .ref (ad 9), .ref (ad 10), .int (nI sn9), .int at9, .int fl9, .int (nI tn9), .ref (ad 11), .ref (ad 12)])), (ad 1, .inl (G.2.1 2, 16, .inr (.inl px9))), (ad 2, .inl (G.2.1 2, 16, .inr (.inl py9))), (ad 3, .inl (G.2.1 2, 16, .inr (.inl pz9))), (ad 4, .inl (G.2.1 2, 16, .inr (.inl gr9))), (ad 5, .inl (G.2.1 2, 16, .inr (.inl ou9))), (ad 6, .inl (G.2.1 2, 12, .inr (.inl fx9))), (ad 7, .inl (G.2.1 2, 12, .inr (.inl fy9))), (ad 8, .inl (G.2.1 1, 8, .inl od9)), (ad 9, .inl (G.2.1 1, 12, .inl cr9)), (ad 10, .inl (G.2.1 1, 200, .inl ty9)), (ad 11, .inl (G.2.1 1, 48, .inl to9)), (ad 12, .inl (G.2.1 1, 48, .inl dr9))]) H locs := hW
    refine W.eq (g2 := F0 m 321 ls [.int bb]) rfl ?_
    refine W.widen (k := cells + 7 + 0) (n := slots + 60 + 0) (by dsimp only; omega) (by dsimp only; omega) ?_
    refine lv_istore (lv' := [(7, .int bb), (6, .int 0), (5, .int (nI i)), (4, .ref oD), (3, .ref ow), (2, .ref (ad 0)), (1, .ref x), (0, .ref b0)]) gX gB dL_law_321 hl (by decide) rfl (fun ls hl => ?_)
    refine lv_aload_n gX gB dL_law_323 rfl (lv_at hl 5 rfl) ?_
    refine gx_callV (wr := ([(ow, .inl (G.2.1 2, 1, .inr (.inl (vp_updL g 0 r.toInt64))))] ++ u) ++ [(oD, .inl (G.2.1 4, 1, .inr (.inr (.inr (.inl gD)))))]) (rest := []) C hW sL_81 (kX6_thrown l G ad cd9 pn9 fn9 dn9 cn9 sn9 tn9 ex9 ey9 eg9 at9 fl9 px9 py9 pz9 gr9 ou9 fx9 fy9 od9 cr9 ty9 to9 dr9) ⟨0, rfl⟩ rfl rfl ⟨(by dsimp only; omega), (by dsimp only; omega)⟩ hl.1 rfl (Nat.le_of_ble_eq_true rfl) dL_law_324 ⟨(by dsimp only; omega), (by dsimp only; omega)⟩ (fun v9 u9 H locs hp hW => ?_)
    obtain ⟨rfl, rfl⟩ := hp
    have hW : gx_W G A s ((([(ow, .inl (G.2.1 2, 1, .inr (.inl (vp_updL g 0 r.toInt64))))] ++ u) ++ [(oD, .inl (G.2.1 4, 1, .inr (.inr (.inr (.inl gD)))))]) ++ [(ad 0, .inr (11, [.int cd9, .int (nI pn9), .ref (ad 1), .ref (ad 2), .ref (ad 3), .ref (ad 4), .ref (ad 5), .int (nI fn9), .ref (ad 6), .ref (ad 7), .int (nI dn9), .ref (ad 8), .long ex9, .long ey9, .long eg9, .int (nI cn9), .ref (ad 9), .ref (ad 10), .int (nI sn9), .int at9, .int fl9, .int (nI tn9), .ref (ad 11), .ref (ad 12)])), (ad 1, .inl (G.2.1 2, 16, .inr (.inl px9))), (ad 2, .inl (G.2.1 2, 16, .inr (.inl py9))), (ad 3, .inl (G.2.1 2, 16, .inr (.inl pz9))), (ad 4, .inl (G.2.1 2, 16, .inr (.inl gr9))), (ad 5, .inl (G.2.1 2, 16, .inr (.inl ou9))), (ad 6, .inl (G.2.1 2, 12, .inr (.inl fx9))), (ad 7, .inl (G.2.1 2, 12, .inr (.inl fy9))), (ad 8, .inl (G.2.1 1, 8, .inl od9)), (ad 9, .inl (G.2.1 1, 12, .inl cr9)), (ad 10, .inl (G.2.1 1, 200, .inl ty9)), (ad 11, .inl (G.2.1 1, 48, .inl to9)), (ad 12, .inl (G.2.1 1, 48, .inl dr9))]) H locs := hW
    refine W.eq (g2 := F0 m 327 ls [.int cd9]) rfl ?_
    refine W.widen (k := cells + 7 + 0 + 0) (n := slots + 60 + 0 + 0) (by dsimp only; omega) (by dsimp only; omega) ?_
    refine lv_iload gX gB dL_law_327 (lv_at hl 1 rfl) ?_
    refine lv_icmp_eq (tgt := 334) gX gB dL_law_329 (by decide) (fun _ => ?_) (fun h9 => absurd (show cd9 = (0 : Int32) from hcd) h9)
    refine lv_iload gX gB dL_law_334 (lv_at hl 1 rfl) ?_
    refine lv_if_ne (tgt := 351) gX gB dL_law_336 (by decide) (fun h9 => absurd (show ¬ 0 = (0 : Int32) from h9) (by decide)) (fun _ => ?_)
    refine lv_aload_n gX gB dL_law_339 rfl (lv_at hl 4 rfl) ?_
    refine lv_iconst (v := 0) gX gB dL_law_340 (by decide) ?_
    refine gx_lald C hW (a := ow) (g := vp_updL g 0 r.toInt64) (j := 0) ⟨0, rfl⟩ rfl (by decide) (by decide) dL_law_341 ?_
    refine gx_topl (show (vp_updL g 0 r.toInt64) 0 = r.toInt64 from ul_eq) ?_
    refine lv_iload gX gB dL_law_342 (lv_at hl 0 rfl) ?_
    refine lv_i2l gX gB dL_law_344 rfl ?_
    refine gx_lc_eq (tgt := 351) C dL_law_345 dL_law_346 (by decide) (fun _ => ?_) (fun h9 => absurd (show r.toInt64 = bb.toInt64 from hval) h9)
    refine lv_goto (tgt := 1766) gX gB dL_law_351 (by decide) ?_
    have hW := gx_W.ofM hW
    refine W.widen (k := cells + 64) (n := slots + 2000) (by omega) (by omega) ?_
    exact kk _ _ _ _ (hnew _ _) hW (lv_sub hl [2, 3, 4, 5, 6, 7] rfl)
  · have hW : gx_W G A s ([(oD, .inl (G.2.1 4, 1, .inr (.inr (.inr (.inl gD))))), (ad 0, .inr (11, [.int cd, .int (nI pa.length), .ref (ad 1), .ref (ad 2), .ref (ad 3), .ref (ad 4), .ref (ad 5), .int (nI fa.length), .ref (ad 6), .ref (ad 7), .int (nI dn), .ref (ad 8), .long ex, .long ey, .long eg, .int (nI cn), .ref (ad 9), .ref (ad 10), .int (nI n), .int at0, .int fl, .int (nI ds.length), .ref (ad 11), .ref (ad 12)])), (ad 1, .inl (G.2.1 2, 16, .inr (.inl px))), (ad 2, .inl (G.2.1 2, 16, .inr (.inl py))), (ad 3, .inl (G.2.1 2, 16, .inr (.inl pz))), (ad 4, .inl (G.2.1 2, 16, .inr (.inl gr))), (ad 5, .inl (G.2.1 2, 16, .inr (.inl ou))), (ad 6, .inl (G.2.1 2, 12, .inr (.inl fx))), (ad 7, .inl (G.2.1 2, 12, .inr (.inl fy))), (ad 8, .inl (G.2.1 1, 8, .inl od)), (ad 9, .inl (G.2.1 1, 12, .inl cr)), (ad 10, .inl (G.2.1 1, 200, .inl ty)), (ad 11, .inl (G.2.1 1, 48, .inl to_)), (ad 12, .inl (G.2.1 1, 48, .inl dr))] ++ ([(ow, .inl (G.2.1 2, 1, .inr (.inl g)))] ++ u)) H locs := hW
    refine W.eq (g2 := F0 m 224 ls [.int 1]) rfl ?_
    refine W.widen (k := cells + 7) (n := slots + 60) (by dsimp only; omega) (by dsimp only; omega) ?_
    refine lv_istore (lv' := [(6, .int 1), (5, .int (nI i)), (4, .ref oD), (3, .ref ow), (2, .ref (ad 0)), (1, .ref x), (0, .ref b0)]) gX gB dL_law_224 hl (by decide) rfl (fun ls hl => ?_)
    refine lv_aload_n gX gB dL_law_226 rfl (lv_at hl 4 rfl) ?_
    refine lv_aload_n gX gB dL_law_227 rfl (lv_at hl 6 rfl) ?_
    refine lv_iload gX gB dL_law_228 (lv_at hl 1 rfl) ?_
    refine lv_iconst (v := 1) gX gB dL_law_230 (by decide) ?_
    refine lv_iadd gX gB dL_law_231 ?_
    refine gx_topi (show ((nI i) + 1) = nI (i + 1) from nI_add i 1) ?_
    refine va_sld C.x C.b hX hbl hbA hW.2.2 (nI_in (by omega) (by omega)) dL_law_232 ?_
    refine gx_topi (show xs (nI (i + 1)).toNatClampNeg = xs (i + 1) from by rw [nI_clamp (by omega)]) ?_
    refine lv_i2l gX gB dL_law_233 rfl ?_
    refine lv_bipush (v := 32) gX gB dL_law_234 (by decide) ?_
    refine lv_lshl gX gB dL_law_236 rfl ?_
    refine lv_aload_n gX gB dL_law_237 rfl (lv_at hl 6 rfl) ?_
    refine lv_iload gX gB dL_law_238 (lv_at hl 1 rfl) ?_
    refine lv_iconst (v := 2) gX gB dL_law_240 (by decide) ?_
    refine lv_iadd gX gB dL_law_241 ?_
    refine gx_topi (show ((nI i) + 2) = nI (i + 2) from nI_add i 2) ?_
    refine va_sld C.x C.b hX hbl hbA hW.2.2 (nI_in (by omega) (by omega)) dL_law_242 ?_
    refine gx_topi (show xs (nI (i + 2)).toNatClampNeg = xs (i + 2) from by rw [nI_clamp (by omega)]) ?_
    refine lv_i2l gX gB dL_law_243 rfl ?_
    refine gx_ldc2 (v := 4294967295) C (tq_6 2 (by decide +kernel) rfl) dL_law_244 ?_
    refine lv_land gX gB dL_law_247 ?_
    refine lv_lor gX gB dL_law_248 ?_
    refine gx_topl (show ((((xs (i + 1)).toInt64) <<< ((32 : Int32).toInt64 &&& 63)) ||| (((xs (i + 2)).toInt64) &&& 4294967295)) = sc_l xs (i + 1) from rfl) ?_
    refine lv_aload_n gX gB dL_law_249 rfl (lv_at hl 6 rfl) ?_
    refine lv_iload gX gB dL_law_250 (lv_at hl 1 rfl) ?_
    refine lv_iconst (v := 3) gX gB dL_law_252 (by decide) ?_
    refine lv_iadd gX gB dL_law_253 ?_
    refine gx_topi (show ((nI i) + 3) = nI (i + 3) from nI_add i 3) ?_
    refine va_sld C.x C.b hX hbl hbA hW.2.2 (nI_in (by omega) (by omega)) dL_law_254 ?_
    refine gx_topi (show xs (nI (i + 3)).toNatClampNeg = xs (i + 3) from by rw [nI_clamp (by omega)]) ?_
    refine lv_i2l gX gB dL_law_255 rfl ?_
    refine lv_bipush (v := 32) gX gB dL_law_256 (by decide) ?_
    refine lv_lshl gX gB dL_law_258 rfl ?_
    refine lv_aload_n gX gB dL_law_259 rfl (lv_at hl 6 rfl) ?_
    refine lv_iload gX gB dL_law_260 (lv_at hl 1 rfl) ?_
    refine lv_iconst (v := 4) gX gB dL_law_262 (by decide) ?_
    refine lv_iadd gX gB dL_law_263 ?_
    refine gx_topi (show ((nI i) + 4) = nI (i + 4) from nI_add i 4) ?_
    refine va_sld C.x C.b hX hbl hbA hW.2.2 (nI_in (by omega) (by omega)) dL_law_264 ?_
    refine gx_topi (show xs (nI (i + 4)).toNatClampNeg = xs (i + 4) from by rw [nI_clamp (by omega)]) ?_
    refine lv_i2l gX gB dL_law_265 rfl ?_
    refine gx_ldc2 (v := 4294967295) C (tq_6 2 (by decide +kernel) rfl) dL_law_266 ?_
    refine lv_land gX gB dL_law_269 ?_
    refine lv_lor gX gB dL_law_270 ?_
    refine gx_topl (show ((((xs (i + 3)).toInt64) <<< ((32 : Int32).toInt64 &&& 63)) ||| (((xs (i + 4)).toInt64) &&& 4294967295)) = sc_l xs (i + 3) from rfl) ?_
    refine lv_aload_n gX gB dL_law_271 rfl (lv_at hl 6 rfl) ?_
    refine lv_iload gX gB dL_law_272 (lv_at hl 1 rfl) ?_
    refine lv_iconst (v := 5) gX gB dL_law_274 (by decide) ?_
    refine lv_iadd gX gB dL_law_275 ?_
    refine gx_topi (show ((nI i) + 5) = nI (i + 5) from nI_add i 5) ?_
    refine va_sld C.x C.b hX hbl hbA hW.2.2 (nI_in (by omega) (by omega)) dL_law_276 ?_
    refine gx_topi (show xs (nI (i + 5)).toNatClampNeg = xs (i + 5) from by rw [nI_clamp (by omega)]) ?_
    refine lv_i2l gX gB dL_law_277 rfl ?_
    refine lv_bipush (v := 32) gX gB dL_law_278 (by decide) ?_
    refine lv_lshl gX gB dL_law_280 rfl ?_
    refine lv_aload_n gX gB dL_law_281 rfl (lv_at hl 6 rfl) ?_
    refine lv_iload gX gB dL_law_282 (lv_at hl 1 rfl) ?_
    refine lv_bipush (v := 6) gX gB dL_law_284 (by decide) ?_
    refine lv_iadd gX gB dL_law_286 ?_
    refine gx_topi (show ((nI i) + 6) = nI (i + 6) from nI_add i 6) ?_
    refine va_sld C.x C.b hX hbl hbA hW.2.2 (nI_in (by omega) (by omega)) dL_law_287 ?_
    refine gx_topi (show xs (nI (i + 6)).toNatClampNeg = xs (i + 6) from by rw [nI_clamp (by omega)]) ?_
    refine lv_i2l gX gB dL_law_288 rfl ?_
    refine gx_ldc2 (v := 4294967295) C (tq_6 2 (by decide +kernel) rfl) dL_law_289 ?_
    refine lv_land gX gB dL_law_292 ?_
    refine lv_lor gX gB dL_law_293 ?_
    refine gx_topl (show ((((xs (i + 5)).toInt64) <<< ((32 : Int32).toInt64 &&& 63)) ||| (((xs (i + 6)).toInt64) &&& 4294967295)) = sc_l xs (i + 5) from rfl) ?_
    refine lv_aload_n gX gB dL_law_294 rfl (lv_at hl 6 rfl) ?_
    refine lv_iload gX gB dL_law_295 (lv_at hl 1 rfl) ?_
    refine lv_bipush (v := 7) gX gB dL_law_297 (by decide) ?_
    refine lv_iadd gX gB dL_law_299 ?_
    refine gx_topi (show ((nI i) + 7) = nI (i + 7) from nI_add i 7) ?_
    refine va_sld C.x C.b hX hbl hbA hW.2.2 (nI_in (by omega) (by omega)) dL_law_300 ?_
    refine gx_topi (show xs (nI (i + 7)).toNatClampNeg = xs (i + 7) from by rw [nI_clamp (by omega)]) ?_
    refine lv_i2l gX gB dL_law_301 rfl ?_
    refine lv_bipush (v := 32) gX gB dL_law_302 (by decide) ?_
    refine lv_lshl gX gB dL_law_304 rfl ?_
    refine lv_aload_n gX gB dL_law_305 rfl (lv_at hl 6 rfl) ?_
    refine lv_iload gX gB dL_law_306 (lv_at hl 1 rfl) ?_
    refine lv_bipush (v := 8) gX gB dL_law_308 (by decide) ?_
    refine lv_iadd gX gB dL_law_310 ?_
    refine gx_topi (show ((nI i) + 8) = nI (i + 8) from nI_add i 8) ?_
    refine va_sld C.x C.b hX hbl hbA hW.2.2 (nI_in (by omega) (by omega)) dL_law_311 ?_
    refine gx_topi (show xs (nI (i + 8)).toNatClampNeg = xs (i + 8) from by rw [nI_clamp (by omega)]) ?_
    refine lv_i2l gX gB dL_law_312 rfl ?_
    refine gx_ldc2 (v := 4294967295) C (tq_6 2 (by decide +kernel) rfl) dL_law_313 ?_
    refine lv_land gX gB dL_law_316 ?_
    refine lv_lor gX gB dL_law_317 ?_
    refine gx_topl (show ((((xs (i + 7)).toInt64) <<< ((32 : Int32).toInt64 &&& 63)) ||| (((xs (i + 8)).toInt64) &&& 4294967295)) = sc_l xs (i + 7) from rfl) ?_
    have hW := gx_W.toM hW
    have hW : gx_W G A s ((([(ow, .inl (G.2.1 2, 1, .inr (.inl g)))] ++ u) ++ [(oD, .inl (G.2.1 4, 1, .inr (.inr (.inr (.inl gD)))))]) ++ [(ad 0, .inr (11, [.int cd, .int (nI pa.length), .ref (ad 1), .ref (ad 2), .ref (ad 3), .ref (ad 4), .ref (ad 5), .int (nI fa.length), .ref (ad 6), .ref (ad 7), .int (nI dn), .ref (ad 8), .long ex, .long ey, .long eg, .int (nI cn), .ref (ad 9), .ref (ad 10), .int (nI n), .int at0, .int fl, .int (nI ds.length), .ref (ad 11), .ref (ad 12)])), (ad 1, .inl (G.2.1 2, 16, .inr (.inl px))), (ad 2, .inl (G.2.1 2, 16, .inr (.inl py))), (ad 3, .inl (G.2.1 2, 16, .inr (.inl pz))), (ad 4, .inl (G.2.1 2, 16, .inr (.inl gr))), (ad 5, .inl (G.2.1 2, 16, .inr (.inl ou))), (ad 6, .inl (G.2.1 2, 12, .inr (.inl fx))), (ad 7, .inl (G.2.1 2, 12, .inr (.inl fy))), (ad 8, .inl (G.2.1 1, 8, .inl od)), (ad 9, .inl (G.2.1 1, 12, .inl cr)), (ad 10, .inl (G.2.1 1, 200, .inl ty)), (ad 11, .inl (G.2.1 1, 48, .inl to_)), (ad 12, .inl (G.2.1 1, 48, .inl dr))]) H locs := hW
    refine gx_callV (wr := ([(ow, .inl (G.2.1 2, 1, .inr (.inl g)))] ++ u) ++ [(oD, .inl (G.2.1 4, 1, .inr (.inr (.inr (.inl gD)))))]) (rest := []) C hW sL_80 (kX6_part l G ad cd pa.length fa.length dn cn n ds.length ex ey eg at0 fl px py pz gr ou fx fy od cr ty to_ dr p16 (sc_l xs (i + 1)) (sc_l xs (i + 3)) (sc_l xs (i + 5)) (sc_l xs (i + 7))) ⟨0, rfl⟩ rfl rfl ⟨(by dsimp only; omega), (by dsimp only; omega)⟩ hl.1 rfl (Nat.le_of_ble_eq_true rfl) dL_law_318 ⟨(by dsimp only; omega), (by dsimp only; omega)⟩ (fun v9 u9 H locs hm hW => ?_)
    obtain ⟨bb, rfl, hval, hout⟩ := pr_part_1 (ow := ow) (oD := oD) (cd := cd) (at0 := at0) (fl := fl) (dr := dr) hrl hpx9 hm
    obtain ⟨cd9, pn9, fn9, dn9, cn9, sn9, tn9, ex9, ey9, eg9, at9, fl9, px9, py9, pz9, gr9, ou9, fx9, fy9, od9, cr9, ty9, to9, dr9, rfl, hcd, hnew⟩ := hout
    have hW : gx_W G A s ((([(ow, .inl (G.2.1 2, 1, .inr (.inl g)))] ++ u) ++ [(oD, .inl (G.2.1 4, 1, .inr (.inr (.inr (.inl gD)))))]) ++ [(ad 0, .inr (11, [.int cd9, .int (nI pn9), .ref (ad 1), .ref (ad 2), .ref (ad 3), .ref (ad 4), .ref (ad 5), .int (nI fn9), .ref (ad 6), .ref (ad 7), .int (nI dn9), .ref (ad 8), .long ex9, .long ey9, .long eg9, .int (nI cn9), .ref (ad 9), .ref (ad 10), .int (nI sn9), .int at9, .int fl9, .int (nI tn9), .ref (ad 11), .ref (ad 12)])), (ad 1, .inl (G.2.1 2, 16, .inr (.inl px9))), (ad 2, .inl (G.2.1 2, 16, .inr (.inl py9))), (ad 3, .inl (G.2.1 2, 16, .inr (.inl pz9))), (ad 4, .inl (G.2.1 2, 16, .inr (.inl gr9))), (ad 5, .inl (G.2.1 2, 16, .inr (.inl ou9))), (ad 6, .inl (G.2.1 2, 12, .inr (.inl fx9))), (ad 7, .inl (G.2.1 2, 12, .inr (.inl fy9))), (ad 8, .inl (G.2.1 1, 8, .inl od9)), (ad 9, .inl (G.2.1 1, 12, .inl cr9)), (ad 10, .inl (G.2.1 1, 200, .inl ty9)), (ad 11, .inl (G.2.1 1, 48, .inl to9)), (ad 12, .inl (G.2.1 1, 48, .inl dr9))]) H locs := hW
    refine W.eq (g2 := F0 m 321 ls [.int bb]) rfl ?_
    refine W.widen (k := cells + 7 + 0) (n := slots + 60 + 0) (by dsimp only; omega) (by dsimp only; omega) ?_
    refine lv_istore (lv' := [(7, .int bb), (6, .int 1), (5, .int (nI i)), (4, .ref oD), (3, .ref ow), (2, .ref (ad 0)), (1, .ref x), (0, .ref b0)]) gX gB dL_law_321 hl (by decide) rfl (fun ls hl => ?_)
    refine lv_aload_n gX gB dL_law_323 rfl (lv_at hl 5 rfl) ?_
    refine gx_callV (wr := ([(ow, .inl (G.2.1 2, 1, .inr (.inl g)))] ++ u) ++ [(oD, .inl (G.2.1 4, 1, .inr (.inr (.inr (.inl gD)))))]) (rest := []) C hW sL_81 (kX6_thrown l G ad cd9 pn9 fn9 dn9 cn9 sn9 tn9 ex9 ey9 eg9 at9 fl9 px9 py9 pz9 gr9 ou9 fx9 fy9 od9 cr9 ty9 to9 dr9) ⟨0, rfl⟩ rfl rfl ⟨(by dsimp only; omega), (by dsimp only; omega)⟩ hl.1 rfl (Nat.le_of_ble_eq_true rfl) dL_law_324 ⟨(by dsimp only; omega), (by dsimp only; omega)⟩ (fun v9 u9 H locs hp hW => ?_)
    obtain ⟨rfl, rfl⟩ := hp
    have hW : gx_W G A s ((([(ow, .inl (G.2.1 2, 1, .inr (.inl g)))] ++ u) ++ [(oD, .inl (G.2.1 4, 1, .inr (.inr (.inr (.inl gD)))))]) ++ [(ad 0, .inr (11, [.int cd9, .int (nI pn9), .ref (ad 1), .ref (ad 2), .ref (ad 3), .ref (ad 4), .ref (ad 5), .int (nI fn9), .ref (ad 6), .ref (ad 7), .int (nI dn9), .ref (ad 8), .long ex9, .long ey9, .long eg9, .int (nI cn9), .ref (ad 9), .ref (ad 10), .int (nI sn9), .int at9, .int fl9, .int (nI tn9), .ref (ad 11), .ref (ad 12)])), (ad 1, .inl (G.2.1 2, 16, .inr (.inl px9))), (ad 2, .inl (G.2.1 2, 16, .inr (.inl py9))), (ad 3, .inl (G.2.1 2, 16, .inr (.inl pz9))), (ad 4, .inl (G.2.1 2, 16, .inr (.inl gr9))), (ad 5, .inl (G.2.1 2, 16, .inr (.inl ou9))), (ad 6, .inl (G.2.1 2, 12, .inr (.inl fx9))), (ad 7, .inl (G.2.1 2, 12, .inr (.inl fy9))), (ad 8, .inl (G.2.1 1, 8, .inl od9)), (ad 9, .inl (G.2.1 1, 12, .inl cr9)), (ad 10, .inl (G.2.1 1, 200, .inl ty9)), (ad 11, .inl (G.2.1 1, 48, .inl to9)), (ad 12, .inl (G.2.1 1, 48, .inl dr9))]) H locs := hW
    refine W.eq (g2 := F0 m 327 ls [.int cd9]) rfl ?_
    refine W.widen (k := cells + 7 + 0 + 0) (n := slots + 60 + 0 + 0) (by dsimp only; omega) (by dsimp only; omega) ?_
    refine lv_iload gX gB dL_law_327 (lv_at hl 1 rfl) ?_
    refine lv_icmp_eq (tgt := 334) gX gB dL_law_329 (by decide) (fun _ => ?_) (fun h9 => absurd (show cd9 = (1 : Int32) from hcd) h9)
    refine lv_iload gX gB dL_law_334 (lv_at hl 1 rfl) ?_
    refine lv_if_ne (tgt := 351) gX gB dL_law_336 (by decide) (fun _ => ?_) (fun h9 => absurd h9 (show ¬ 1 = (0 : Int32) from by decide))
    refine lv_goto (tgt := 1766) gX gB dL_law_351 (by decide) ?_
    have hW := gx_W.ofM hW
    refine W.widen (k := cells + 64) (n := slots + 2000) (by omega) (by omega) ?_
    exact kk _ _ _ _ (hnew _ _) hW (lv_sub hl [2, 3, 4, 5, 6, 7] rfl)
  · have hW : gx_W G A s ([(oD, .inl (G.2.1 4, 1, .inr (.inr (.inr (.inl gD))))), (ad 0, .inr (11, [.int cd, .int (nI pa.length), .ref (ad 1), .ref (ad 2), .ref (ad 3), .ref (ad 4), .ref (ad 5), .int (nI fa.length), .ref (ad 6), .ref (ad 7), .int (nI dn), .ref (ad 8), .long ex, .long ey, .long eg, .int (nI cn), .ref (ad 9), .ref (ad 10), .int (nI n), .int at0, .int fl, .int (nI ds.length), .ref (ad 11), .ref (ad 12)])), (ad 1, .inl (G.2.1 2, 16, .inr (.inl px))), (ad 2, .inl (G.2.1 2, 16, .inr (.inl py))), (ad 3, .inl (G.2.1 2, 16, .inr (.inl pz))), (ad 4, .inl (G.2.1 2, 16, .inr (.inl gr))), (ad 5, .inl (G.2.1 2, 16, .inr (.inl ou))), (ad 6, .inl (G.2.1 2, 12, .inr (.inl fx))), (ad 7, .inl (G.2.1 2, 12, .inr (.inl fy))), (ad 8, .inl (G.2.1 1, 8, .inl od)), (ad 9, .inl (G.2.1 1, 12, .inl cr)), (ad 10, .inl (G.2.1 1, 200, .inl ty)), (ad 11, .inl (G.2.1 1, 48, .inl to_)), (ad 12, .inl (G.2.1 1, 48, .inl dr))] ++ ([(ow, .inl (G.2.1 2, 1, .inr (.inl g)))] ++ u)) H locs := hW
    refine W.eq (g2 := F0 m 224 ls [.int 2]) rfl ?_
    refine W.widen (k := cells + 7) (n := slots + 60) (by dsimp only; omega) (by dsimp only; omega) ?_
    refine lv_istore (lv' := [(6, .int 2), (5, .int (nI i)), (4, .ref oD), (3, .ref ow), (2, .ref (ad 0)), (1, .ref x), (0, .ref b0)]) gX gB dL_law_224 hl (by decide) rfl (fun ls hl => ?_)
    refine lv_aload_n gX gB dL_law_226 rfl (lv_at hl 4 rfl) ?_
    refine lv_aload_n gX gB dL_law_227 rfl (lv_at hl 6 rfl) ?_
    refine lv_iload gX gB dL_law_228 (lv_at hl 1 rfl) ?_
    refine lv_iconst (v := 1) gX gB dL_law_230 (by decide) ?_
    refine lv_iadd gX gB dL_law_231 ?_
    refine gx_topi (show ((nI i) + 1) = nI (i + 1) from nI_add i 1) ?_
    refine va_sld C.x C.b hX hbl hbA hW.2.2 (nI_in (by omega) (by omega)) dL_law_232 ?_
    refine gx_topi (show xs (nI (i + 1)).toNatClampNeg = xs (i + 1) from by rw [nI_clamp (by omega)]) ?_
    refine lv_i2l gX gB dL_law_233 rfl ?_
    refine lv_bipush (v := 32) gX gB dL_law_234 (by decide) ?_
    refine lv_lshl gX gB dL_law_236 rfl ?_
    refine lv_aload_n gX gB dL_law_237 rfl (lv_at hl 6 rfl) ?_
    refine lv_iload gX gB dL_law_238 (lv_at hl 1 rfl) ?_
    refine lv_iconst (v := 2) gX gB dL_law_240 (by decide) ?_
    refine lv_iadd gX gB dL_law_241 ?_
    refine gx_topi (show ((nI i) + 2) = nI (i + 2) from nI_add i 2) ?_
    refine va_sld C.x C.b hX hbl hbA hW.2.2 (nI_in (by omega) (by omega)) dL_law_242 ?_
    refine gx_topi (show xs (nI (i + 2)).toNatClampNeg = xs (i + 2) from by rw [nI_clamp (by omega)]) ?_
    refine lv_i2l gX gB dL_law_243 rfl ?_
    refine gx_ldc2 (v := 4294967295) C (tq_6 2 (by decide +kernel) rfl) dL_law_244 ?_
    refine lv_land gX gB dL_law_247 ?_
    refine lv_lor gX gB dL_law_248 ?_
    refine gx_topl (show ((((xs (i + 1)).toInt64) <<< ((32 : Int32).toInt64 &&& 63)) ||| (((xs (i + 2)).toInt64) &&& 4294967295)) = sc_l xs (i + 1) from rfl) ?_
    refine lv_aload_n gX gB dL_law_249 rfl (lv_at hl 6 rfl) ?_
    refine lv_iload gX gB dL_law_250 (lv_at hl 1 rfl) ?_
    refine lv_iconst (v := 3) gX gB dL_law_252 (by decide) ?_
    refine lv_iadd gX gB dL_law_253 ?_
    refine gx_topi (show ((nI i) + 3) = nI (i + 3) from nI_add i 3) ?_
    refine va_sld C.x C.b hX hbl hbA hW.2.2 (nI_in (by omega) (by omega)) dL_law_254 ?_
    refine gx_topi (show xs (nI (i + 3)).toNatClampNeg = xs (i + 3) from by rw [nI_clamp (by omega)]) ?_
    refine lv_i2l gX gB dL_law_255 rfl ?_
    refine lv_bipush (v := 32) gX gB dL_law_256 (by decide) ?_
    refine lv_lshl gX gB dL_law_258 rfl ?_
    refine lv_aload_n gX gB dL_law_259 rfl (lv_at hl 6 rfl) ?_
    refine lv_iload gX gB dL_law_260 (lv_at hl 1 rfl) ?_
    refine lv_iconst (v := 4) gX gB dL_law_262 (by decide) ?_
    refine lv_iadd gX gB dL_law_263 ?_
    refine gx_topi (show ((nI i) + 4) = nI (i + 4) from nI_add i 4) ?_
    refine va_sld C.x C.b hX hbl hbA hW.2.2 (nI_in (by omega) (by omega)) dL_law_264 ?_
    refine gx_topi (show xs (nI (i + 4)).toNatClampNeg = xs (i + 4) from by rw [nI_clamp (by omega)]) ?_
    refine lv_i2l gX gB dL_law_265 rfl ?_
    refine gx_ldc2 (v := 4294967295) C (tq_6 2 (by decide +kernel) rfl) dL_law_266 ?_
    refine lv_land gX gB dL_law_269 ?_
    refine lv_lor gX gB dL_law_270 ?_
    refine gx_topl (show ((((xs (i + 3)).toInt64) <<< ((32 : Int32).toInt64 &&& 63)) ||| (((xs (i + 4)).toInt64) &&& 4294967295)) = sc_l xs (i + 3) from rfl) ?_
    refine lv_aload_n gX gB dL_law_271 rfl (lv_at hl 6 rfl) ?_
    refine lv_iload gX gB dL_law_272 (lv_at hl 1 rfl) ?_
    refine lv_iconst (v := 5) gX gB dL_law_274 (by decide) ?_
    refine lv_iadd gX gB dL_law_275 ?_
    refine gx_topi (show ((nI i) + 5) = nI (i + 5) from nI_add i 5) ?_
    refine va_sld C.x C.b hX hbl hbA hW.2.2 (nI_in (by omega) (by omega)) dL_law_276 ?_
    refine gx_topi (show xs (nI (i + 5)).toNatClampNeg = xs (i + 5) from by rw [nI_clamp (by omega)]) ?_
    refine lv_i2l gX gB dL_law_277 rfl ?_
    refine lv_bipush (v := 32) gX gB dL_law_278 (by decide) ?_
    refine lv_lshl gX gB dL_law_280 rfl ?_
    refine lv_aload_n gX gB dL_law_281 rfl (lv_at hl 6 rfl) ?_
    refine lv_iload gX gB dL_law_282 (lv_at hl 1 rfl) ?_
    refine lv_bipush (v := 6) gX gB dL_law_284 (by decide) ?_
    refine lv_iadd gX gB dL_law_286 ?_
    refine gx_topi (show ((nI i) + 6) = nI (i + 6) from nI_add i 6) ?_
    refine va_sld C.x C.b hX hbl hbA hW.2.2 (nI_in (by omega) (by omega)) dL_law_287 ?_
    refine gx_topi (show xs (nI (i + 6)).toNatClampNeg = xs (i + 6) from by rw [nI_clamp (by omega)]) ?_
    refine lv_i2l gX gB dL_law_288 rfl ?_
    refine gx_ldc2 (v := 4294967295) C (tq_6 2 (by decide +kernel) rfl) dL_law_289 ?_
    refine lv_land gX gB dL_law_292 ?_
    refine lv_lor gX gB dL_law_293 ?_
    refine gx_topl (show ((((xs (i + 5)).toInt64) <<< ((32 : Int32).toInt64 &&& 63)) ||| (((xs (i + 6)).toInt64) &&& 4294967295)) = sc_l xs (i + 5) from rfl) ?_
    refine lv_aload_n gX gB dL_law_294 rfl (lv_at hl 6 rfl) ?_
    refine lv_iload gX gB dL_law_295 (lv_at hl 1 rfl) ?_
    refine lv_bipush (v := 7) gX gB dL_law_297 (by decide) ?_
    refine lv_iadd gX gB dL_law_299 ?_
    refine gx_topi (show ((nI i) + 7) = nI (i + 7) from nI_add i 7) ?_
    refine va_sld C.x C.b hX hbl hbA hW.2.2 (nI_in (by omega) (by omega)) dL_law_300 ?_
    refine gx_topi (show xs (nI (i + 7)).toNatClampNeg = xs (i + 7) from by rw [nI_clamp (by omega)]) ?_
    refine lv_i2l gX gB dL_law_301 rfl ?_
    refine lv_bipush (v := 32) gX gB dL_law_302 (by decide) ?_
    refine lv_lshl gX gB dL_law_304 rfl ?_
    refine lv_aload_n gX gB dL_law_305 rfl (lv_at hl 6 rfl) ?_
    refine lv_iload gX gB dL_law_306 (lv_at hl 1 rfl) ?_
    refine lv_bipush (v := 8) gX gB dL_law_308 (by decide) ?_
    refine lv_iadd gX gB dL_law_310 ?_
    refine gx_topi (show ((nI i) + 8) = nI (i + 8) from nI_add i 8) ?_
    refine va_sld C.x C.b hX hbl hbA hW.2.2 (nI_in (by omega) (by omega)) dL_law_311 ?_
    refine gx_topi (show xs (nI (i + 8)).toNatClampNeg = xs (i + 8) from by rw [nI_clamp (by omega)]) ?_
    refine lv_i2l gX gB dL_law_312 rfl ?_
    refine gx_ldc2 (v := 4294967295) C (tq_6 2 (by decide +kernel) rfl) dL_law_313 ?_
    refine lv_land gX gB dL_law_316 ?_
    refine lv_lor gX gB dL_law_317 ?_
    refine gx_topl (show ((((xs (i + 7)).toInt64) <<< ((32 : Int32).toInt64 &&& 63)) ||| (((xs (i + 8)).toInt64) &&& 4294967295)) = sc_l xs (i + 7) from rfl) ?_
    have hW := gx_W.toM hW
    have hW : gx_W G A s ((([(ow, .inl (G.2.1 2, 1, .inr (.inl g)))] ++ u) ++ [(oD, .inl (G.2.1 4, 1, .inr (.inr (.inr (.inl gD)))))]) ++ [(ad 0, .inr (11, [.int cd, .int (nI pa.length), .ref (ad 1), .ref (ad 2), .ref (ad 3), .ref (ad 4), .ref (ad 5), .int (nI fa.length), .ref (ad 6), .ref (ad 7), .int (nI dn), .ref (ad 8), .long ex, .long ey, .long eg, .int (nI cn), .ref (ad 9), .ref (ad 10), .int (nI n), .int at0, .int fl, .int (nI ds.length), .ref (ad 11), .ref (ad 12)])), (ad 1, .inl (G.2.1 2, 16, .inr (.inl px))), (ad 2, .inl (G.2.1 2, 16, .inr (.inl py))), (ad 3, .inl (G.2.1 2, 16, .inr (.inl pz))), (ad 4, .inl (G.2.1 2, 16, .inr (.inl gr))), (ad 5, .inl (G.2.1 2, 16, .inr (.inl ou))), (ad 6, .inl (G.2.1 2, 12, .inr (.inl fx))), (ad 7, .inl (G.2.1 2, 12, .inr (.inl fy))), (ad 8, .inl (G.2.1 1, 8, .inl od)), (ad 9, .inl (G.2.1 1, 12, .inl cr)), (ad 10, .inl (G.2.1 1, 200, .inl ty)), (ad 11, .inl (G.2.1 1, 48, .inl to_)), (ad 12, .inl (G.2.1 1, 48, .inl dr))]) H locs := hW
    refine gx_callV (wr := ([(ow, .inl (G.2.1 2, 1, .inr (.inl g)))] ++ u) ++ [(oD, .inl (G.2.1 4, 1, .inr (.inr (.inr (.inl gD)))))]) (rest := []) C hW sL_80 (kX6_part l G ad cd pa.length fa.length dn cn n ds.length ex ey eg at0 fl px py pz gr ou fx fy od cr ty to_ dr p16 (sc_l xs (i + 1)) (sc_l xs (i + 3)) (sc_l xs (i + 5)) (sc_l xs (i + 7))) ⟨0, rfl⟩ rfl rfl ⟨(by dsimp only; omega), (by dsimp only; omega)⟩ hl.1 rfl (Nat.le_of_ble_eq_true rfl) dL_law_318 ⟨(by dsimp only; omega), (by dsimp only; omega)⟩ (fun v9 u9 H locs hm hW => ?_)
    obtain ⟨bb, rfl, hval, hout⟩ := pr_part_2 (ow := ow) (oD := oD) (cd := cd) (at0 := at0) (fl := fl) (dr := dr) hrl hpx9 hm
    obtain ⟨cd9, pn9, fn9, dn9, cn9, sn9, tn9, ex9, ey9, eg9, at9, fl9, px9, py9, pz9, gr9, ou9, fx9, fy9, od9, cr9, ty9, to9, dr9, rfl, hcd, hnew⟩ := hout
    have hW : gx_W G A s ((([(ow, .inl (G.2.1 2, 1, .inr (.inl g)))] ++ u) ++ [(oD, .inl (G.2.1 4, 1, .inr (.inr (.inr (.inl gD)))))]) ++ [(ad 0, .inr (11, [.int cd9, .int (nI pn9), .ref (ad 1), .ref (ad 2), .ref (ad 3), .ref (ad 4), .ref (ad 5), .int (nI fn9), .ref (ad 6), .ref (ad 7), .int (nI dn9), .ref (ad 8), .long ex9, .long ey9, .long eg9, .int (nI cn9), .ref (ad 9), .ref (ad 10), .int (nI sn9), .int at9, .int fl9, .int (nI tn9), .ref (ad 11), .ref (ad 12)])), (ad 1, .inl (G.2.1 2, 16, .inr (.inl px9))), (ad 2, .inl (G.2.1 2, 16, .inr (.inl py9))), (ad 3, .inl (G.2.1 2, 16, .inr (.inl pz9))), (ad 4, .inl (G.2.1 2, 16, .inr (.inl gr9))), (ad 5, .inl (G.2.1 2, 16, .inr (.inl ou9))), (ad 6, .inl (G.2.1 2, 12, .inr (.inl fx9))), (ad 7, .inl (G.2.1 2, 12, .inr (.inl fy9))), (ad 8, .inl (G.2.1 1, 8, .inl od9)), (ad 9, .inl (G.2.1 1, 12, .inl cr9)), (ad 10, .inl (G.2.1 1, 200, .inl ty9)), (ad 11, .inl (G.2.1 1, 48, .inl to9)), (ad 12, .inl (G.2.1 1, 48, .inl dr9))]) H locs := hW
    refine W.eq (g2 := F0 m 321 ls [.int bb]) rfl ?_
    refine W.widen (k := cells + 7 + 0) (n := slots + 60 + 0) (by dsimp only; omega) (by dsimp only; omega) ?_
    refine lv_istore (lv' := [(7, .int bb), (6, .int 2), (5, .int (nI i)), (4, .ref oD), (3, .ref ow), (2, .ref (ad 0)), (1, .ref x), (0, .ref b0)]) gX gB dL_law_321 hl (by decide) rfl (fun ls hl => ?_)
    refine lv_aload_n gX gB dL_law_323 rfl (lv_at hl 5 rfl) ?_
    refine gx_callV (wr := ([(ow, .inl (G.2.1 2, 1, .inr (.inl g)))] ++ u) ++ [(oD, .inl (G.2.1 4, 1, .inr (.inr (.inr (.inl gD)))))]) (rest := []) C hW sL_81 (kX6_thrown l G ad cd9 pn9 fn9 dn9 cn9 sn9 tn9 ex9 ey9 eg9 at9 fl9 px9 py9 pz9 gr9 ou9 fx9 fy9 od9 cr9 ty9 to9 dr9) ⟨0, rfl⟩ rfl rfl ⟨(by dsimp only; omega), (by dsimp only; omega)⟩ hl.1 rfl (Nat.le_of_ble_eq_true rfl) dL_law_324 ⟨(by dsimp only; omega), (by dsimp only; omega)⟩ (fun v9 u9 H locs hp hW => ?_)
    obtain ⟨rfl, rfl⟩ := hp
    have hW : gx_W G A s ((([(ow, .inl (G.2.1 2, 1, .inr (.inl g)))] ++ u) ++ [(oD, .inl (G.2.1 4, 1, .inr (.inr (.inr (.inl gD)))))]) ++ [(ad 0, .inr (11, [.int cd9, .int (nI pn9), .ref (ad 1), .ref (ad 2), .ref (ad 3), .ref (ad 4), .ref (ad 5), .int (nI fn9), .ref (ad 6), .ref (ad 7), .int (nI dn9), .ref (ad 8), .long ex9, .long ey9, .long eg9, .int (nI cn9), .ref (ad 9), .ref (ad 10), .int (nI sn9), .int at9, .int fl9, .int (nI tn9), .ref (ad 11), .ref (ad 12)])), (ad 1, .inl (G.2.1 2, 16, .inr (.inl px9))), (ad 2, .inl (G.2.1 2, 16, .inr (.inl py9))), (ad 3, .inl (G.2.1 2, 16, .inr (.inl pz9))), (ad 4, .inl (G.2.1 2, 16, .inr (.inl gr9))), (ad 5, .inl (G.2.1 2, 16, .inr (.inl ou9))), (ad 6, .inl (G.2.1 2, 12, .inr (.inl fx9))), (ad 7, .inl (G.2.1 2, 12, .inr (.inl fy9))), (ad 8, .inl (G.2.1 1, 8, .inl od9)), (ad 9, .inl (G.2.1 1, 12, .inl cr9)), (ad 10, .inl (G.2.1 1, 200, .inl ty9)), (ad 11, .inl (G.2.1 1, 48, .inl to9)), (ad 12, .inl (G.2.1 1, 48, .inl dr9))]) H locs := hW
    refine W.eq (g2 := F0 m 327 ls [.int cd9]) rfl ?_
    refine W.widen (k := cells + 7 + 0 + 0) (n := slots + 60 + 0 + 0) (by dsimp only; omega) (by dsimp only; omega) ?_
    refine lv_iload gX gB dL_law_327 (lv_at hl 1 rfl) ?_
    refine lv_icmp_eq (tgt := 334) gX gB dL_law_329 (by decide) (fun _ => ?_) (fun h9 => absurd (show cd9 = (2 : Int32) from hcd) h9)
    refine lv_iload gX gB dL_law_334 (lv_at hl 1 rfl) ?_
    refine lv_if_ne (tgt := 351) gX gB dL_law_336 (by decide) (fun _ => ?_) (fun h9 => absurd h9 (show ¬ 2 = (0 : Int32) from by decide))
    refine lv_goto (tgt := 1766) gX gB dL_law_351 (by decide) ?_
    have hW := gx_W.ofM hW
    refine W.widen (k := cells + 64) (n := slots + 2000) (by omega) (by omega) ?_
    exact kk _ _ _ _ (hnew _ _) hW (lv_sub hl [2, 3, 4, 5, 6, 7] rfl)
