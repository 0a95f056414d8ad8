/-! THE LAW: the ground of its walk. -/
theorem gx_W.perm {G : gx_T} {A : Nat → Prop} {s : State} {ws ws2 : va_W} {H : Heap} {locs : List Loc} (h : ws.Perm ws2) (hW : gx_W G A s ws H locs) : gx_W G A s ws2 H locs := by
  have hm : ∀ (k : Nat) (q : Nat × va_E), ws2[k]? = some q → ∃ i, ws[i]? = some q := fun k q hk => List.getElem?_of_mem (h.mem_iff.mpr (List.mem_of_getElem? hk))
  have hn : (ws.map Prod.fst).Nodup := by
    refine List.pairwise_iff_getElem.mpr (fun i j hi hj hij e => ?_)
    rw [List.length_map] at hi hj
    rw [List.getElem_map, List.getElem_map] at e
    have := hW.2.1.1 i j _ _ (List.getElem?_eq_getElem hi) (List.getElem?_eq_getElem hj) e
    omega
  have hn2 := (h.map Prod.fst).nodup hn
  refine ⟨fun k q hk => (hm k q hk).elim (fun i hi => hW.1 i q hi), ⟨fun i j p q hi hj e => ?_, fun k q hk => (hm k q hk).elim (fun i hi => hW.2.1.2 i q hi)⟩, hW.2.2⟩
  have li : i < ws2.length := (List.getElem?_eq_some_iff.mp hi).1
  have lj : j < ws2.length := (List.getElem?_eq_some_iff.mp hj).1
  have ei : ws2[i] = p := (List.getElem?_eq_some_iff.mp hi).2
  have ej : ws2[j] = q := (List.getElem?_eq_some_iff.mp hj).2
  have key : ∀ a b, (ha : a < ws2.length) → (hb : b < ws2.length) → a < b → ws2[a].1 ≠ ws2[b].1 := by
    intro a b ha hb hab
    have := List.pairwise_iff_getElem.mp hn2 a b (by rw [List.length_map]; exact ha) (by rw [List.length_map]; exact hb) hab
    rw [List.getElem_map, List.getElem_map] at this
    exact this
  rcases Nat.lt_or_ge i j with h9 | h9
  · exact absurd (by rw [ei, ej]; exact e) (key i j li lj h9)
  · rcases Nat.lt_or_ge j i with h8 | h8
    · exact absurd (by rw [ei, ej]; exact e.symm) (key j i lj li h8)
    · omega
/-- the reference's cells to the end, and back -/
theorem gx_W.toM {G : gx_T} {A : Nat → Prop} {s : State} {d : Nat × va_E} {M Pw : va_W} {H : Heap} {locs : List Loc} (hW : gx_W G A s ((d :: M) ++ Pw) H locs) : gx_W G A s ((Pw ++ [d]) ++ M) H locs := by
  have h := hW.perm (List.perm_append_comm)
  rw [show Pw ++ (d :: M) = (Pw ++ [d]) ++ M by simp] at h
  exact h
theorem gx_W.ofM {G : gx_T} {A : Nat → Prop} {s : State} {d : Nat × va_E} {M Pw : va_W} {H : Heap} {locs : List Loc} (hW : gx_W G A s ((Pw ++ [d]) ++ M) H locs) : gx_W G A s ((d :: M) ++ Pw) H locs := by
  rw [show (Pw ++ [d]) ++ M = Pw ++ (d :: M) by simp] at hW
  exact hW.perm (List.perm_append_comm)
/-- the row of doubles to the pool, and back -/
theorem gx_W.toD {G : gx_T} {A : Nat → Prop} {s : State} {d o : Nat × va_E} {M Pw : va_W} {H : Heap} {locs : List Loc} (hW : gx_W G A s ((d :: M) ++ ([o] ++ Pw)) H locs) : gx_W G A s ((M ++ [o]) ++ ([d] ++ Pw)) H locs := by
  refine hW.perm ?_
  have h : ((d :: M) ++ ([o] ++ Pw)).Perm ((M ++ [o]) ++ ([d] ++ Pw)) := by
    rw [show (d :: M) ++ ([o] ++ Pw) = d :: ((M ++ [o]) ++ Pw) by simp, show (M ++ [o]) ++ ([d] ++ Pw) = (M ++ [o]) ++ d :: Pw by simp]
    exact List.perm_middle.symm
  exact h
theorem gx_W.ofD {G : gx_T} {A : Nat → Prop} {s : State} {d o : Nat × va_E} {M Pw : va_W} {H : Heap} {locs : List Loc} (hW : gx_W G A s ((M ++ [o]) ++ ([d] ++ Pw)) H locs) : gx_W G A s ((d :: M) ++ ([o] ++ Pw)) H locs := by
  refine hW.perm ?_
  have h : ((M ++ [o]) ++ ([d] ++ Pw)).Perm ((d :: M) ++ ([o] ++ Pw)) := by
    rw [show (d :: M) ++ ([o] ++ Pw) = d :: ((M ++ [o]) ++ Pw) by simp, show (M ++ [o]) ++ ([d] ++ Pw) = (M ++ [o]) ++ d :: Pw by simp]
    exact List.perm_middle
  exact h
/-- a long out of two ints of the script -/
def sc_l (xs : Nat → Int32) (k : Nat) : Int64 := ((xs k).toInt64 <<< ((32 : Int32).toInt64 &&& 63)) ||| ((xs (k + 1)).toInt64 &&& 4294967295)
/-- what holds whenever the law's loop comes round -/
def lw_inv (G : gx_T) (x ow oD : Nat) (ad : Nat → Nat) (ws : va_W) : Prop := ∃ (L : List Nat) (f : Nat → va_E) (P F S X N T E : Nat) (dn : Nat) (bP : Option Nat) (pa : List Nat) (ps : Nat → ld_T) (bF : Option Nat) (fa : List Nat) (fd : Nat → ft_T) (bS : Option Nat) (sa : List Nat) (sd : Nat → sd_T) (b cap n : Nat) (t : Nat → Nat) (bT : Option Nat) (ta : List Nat) (ds : List rt_T) (ex ey eg : Int64) (cn : Nat) (cf : Nat → Nat) (px py pz gr ou fx fy : Nat → Int64) (od cr ty to_ : Nat → Int32) (cd at0 fl : Int32) (dr : Nat → Int32) (g : Nat → Int64) (gD : Nat → UInt64), ws = [(oD, .inl (G.2.1 4, 1, .inr (.inr (.inr (.inl gD))))), (ad 0, .inr (11, [.int cd, .int (nI pa.length), .ref (ad 1), .ref (ad 2), .ref (ad 3), .ref (ad 4), .ref (ad 5), .int (nI fa.length), .ref (ad 6), .ref (ad 7), .int (nI dn), .ref (ad 8), .long ex, .long ey, .long eg, .int (nI cn), .ref (ad 9), .ref (ad 10), .int (nI n), .int at0, .int fl, .int (nI ds.length), .ref (ad 11), .ref (ad 12)])), (ad 1, .inl (G.2.1 2, 16, .inr (.inl px))), (ad 2, .inl (G.2.1 2, 16, .inr (.inl py))), (ad 3, .inl (G.2.1 2, 16, .inr (.inl pz))), (ad 4, .inl (G.2.1 2, 16, .inr (.inl gr))), (ad 5, .inl (G.2.1 2, 16, .inr (.inl ou))), (ad 6, .inl (G.2.1 2, 12, .inr (.inl fx))), (ad 7, .inl (G.2.1 2, 12, .inr (.inl fy))), (ad 8, .inl (G.2.1 1, 8, .inl od)), (ad 9, .inl (G.2.1 1, 12, .inl cr)), (ad 10, .inl (G.2.1 1, 200, .inl ty)), (ad 11, .inl (G.2.1 1, 48, .inl to_)), (ad 12, .inl (G.2.1 1, 48, .inl dr))] ++ ([(ow, .inl (G.2.1 2, 1, .inr (.inl g)))] ++ va_pl L f) ∧ rl_at G L f x P F S X N T E dn bP pa ps bF fa fd bS sa sd b cap n t bT ta ds ex ey eg cn cf px py pz gr ou fx fy od cr ty to_
