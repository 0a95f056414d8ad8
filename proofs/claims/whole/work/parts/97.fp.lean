/-! DOUBLES: which results are no NaN (own proofs, out of the definitions of FP.Core alone). -/
abbrev fp_D (x : UInt64) : FP.Core.Datum := FP.Core.decode FP.Core.b64 x.toNat
theorem fp_tails : FP.Core.b64.tails = 4503599627370496 := by decide
theorem fp_exps : FP.Core.b64.exps = 2048 := by decide
theorem fp_qmin : FP.Core.b64.qmin = -1074 := by decide
theorem fp_qmax : FP.Core.b64.qmax = 971 := by decide
theorem fp_full : 2 ^ FP.Core.b64.p = 9007199254740992 := by decide
theorem fp_p1 : FP.Core.b64.p - 1 = 52 := by decide
/-- the written form of a datum -/
def fp_ok : FP.Core.Datum → Prop
  | .nan => False
  | .inf _ => True
  | .fin _ c q => c < 9007199254740992 ∧ -1074 ≤ q ∧ q ≤ 971 ∧ (q = -1074 ∨ 4503599627370496 ≤ c)
theorem fp_asm (s : Bool) (E T : Nat) (hE : E < 2048) (hT : T < 4503599627370496) : FP.Core.assemble FP.Core.b64 s E T < 18446744073709551616 ∧ FP.Core.fieldT FP.Core.b64 (FP.Core.assemble FP.Core.b64 s E T) = T ∧ FP.Core.fieldE FP.Core.b64 (FP.Core.assemble FP.Core.b64 s E T) = E ∧ FP.Core.fieldS FP.Core.b64 (FP.Core.assemble FP.Core.b64 s E T) = s := by
  unfold FP.Core.fieldT FP.Core.fieldE FP.Core.fieldS FP.Core.assemble
  rw [fp_tails, fp_exps]
  cases s with
  | false =>
    simp only [Bool.toNat_false]
    refine ⟨by omega, by omega, by omega, ?_⟩
    rw [show ((0 * 2048 + E) * 4503599627370496 + T) / 4503599627370496 / 2048 % 2 = 0 by omega]
    rfl
  | true =>
    simp only [Bool.toNat_true]
    refine ⟨by omega, by omega, by omega, ?_⟩
    rw [show ((1 * 2048 + E) * 4503599627370496 + T) / 4503599627370496 / 2048 % 2 = 1 by omega]
    rfl
theorem fp_enc {d : FP.Core.Datum} (h : fp_ok d) : FP.Core.encode FP.Core.b64 d < 18446744073709551616 ∧ FP.Core.decode FP.Core.b64 (FP.Core.encode FP.Core.b64 d) = d := by
  cases d with
  | nan => exact h.elim
  | inf s =>
    obtain ⟨a1, a2, a3, a4⟩ := fp_asm s 2047 0 (by omega) (by omega)
    have e : FP.Core.encode FP.Core.b64 (.inf s) = FP.Core.assemble FP.Core.b64 s 2047 0 := by
      show FP.Core.assemble FP.Core.b64 s (FP.Core.b64.exps - 1) 0 = _
      rw [fp_exps]
    rw [e]
    refine ⟨a1, ?_⟩
    unfold FP.Core.decode
    rw [a2, a3, a4, fp_exps, if_pos rfl, if_pos rfl]
  | fin s c q =>
    obtain ⟨h1, h2, h3, h4⟩ := h
    by_cases hc : c < 4503599627370496
    · have hq : q = -1074 := by omega
      obtain ⟨a1, a2, a3, a4⟩ := fp_asm s 0 c (by omega) hc
      have e : FP.Core.encode FP.Core.b64 (.fin s c q) = FP.Core.assemble FP.Core.b64 s 0 c := by
        show (if c < FP.Core.b64.tails then _ else _) = _
        rw [fp_tails, if_pos hc]
      rw [e]
      refine ⟨a1, ?_⟩
      unfold FP.Core.decode
      rw [a2, a3, a4, fp_exps, if_neg (by omega), if_pos rfl, fp_qmin, hq]
    · obtain ⟨a1, a2, a3, a4⟩ := fp_asm s ((q - (-1074)).toNat + 1) (c - 4503599627370496) (by omega) (by omega)
      have e : FP.Core.encode FP.Core.b64 (.fin s c q) = FP.Core.assemble FP.Core.b64 s ((q - (-1074)).toNat + 1) (c - 4503599627370496) := by
        show (if c < FP.Core.b64.tails then _ else FP.Core.assemble FP.Core.b64 s ((q - FP.Core.b64.qmin).toNat + 1) (c - FP.Core.b64.tails)) = _
        rw [fp_tails, fp_qmin, if_neg hc]
      rw [e]
      refine ⟨a1, ?_⟩
      unfold FP.Core.decode
      rw [a2, a3, a4, fp_exps, fp_tails, fp_qmin, if_neg (by omega), if_neg (by omega)]
      have e1 : 4503599627370496 + (c - 4503599627370496) = c := by omega
      have e2 : (-1074 : Int) + ((((q - (-1074)).toNat + 1 : Nat) : Int) - 1) = q := by omega
      rw [e1, e2]
theorem fp_of {d : FP.Core.Datum} (h : fp_ok d) : fp_D (.ofNat (FP.Core.encode FP.Core.b64 d)) = d := by
  obtain ⟨h1, h2⟩ := fp_enc h
  unfold fp_D
  rw [UInt64.toNat_ofNat_of_lt' (by rw [show UInt64.size = 18446744073709551616 from rfl]; exact h1)]
  exact h2
theorem fp_dec (x : UInt64) : fp_D x = .nan ∨ fp_ok (fp_D x) := by
  unfold fp_D FP.Core.decode
  rw [fp_exps, fp_tails, fp_qmin]
  have h1 : FP.Core.fieldT FP.Core.b64 x.toNat < 4503599627370496 := by
    unfold FP.Core.fieldT
    rw [fp_tails]
    omega
  have h2 : FP.Core.fieldE FP.Core.b64 x.toNat < 2048 := by
    unfold FP.Core.fieldE
    rw [fp_exps]
    omega
  by_cases h3 : FP.Core.fieldE FP.Core.b64 x.toNat = 2048 - 1
  · rw [if_pos h3]
    by_cases h4 : FP.Core.fieldT FP.Core.b64 x.toNat = 0
    · rw [if_pos h4]
      exact Or.inr trivial
    · rw [if_neg h4]
      exact Or.inl rfl
  · rw [if_neg h3]
    by_cases h4 : FP.Core.fieldE FP.Core.b64 x.toNat = 0
    · rw [if_pos h4]
      exact Or.inr ⟨by omega, by omega, by omega, Or.inl rfl⟩
    · rw [if_neg h4]
      exact Or.inr ⟨by omega, by omega, by omega, Or.inr (by omega)⟩
theorem fp_n64 {x : UInt64} (h : ¬ fp_D x = .nan) : vf_n64 x := by
  unfold vf_n64
  rw [UInt64.le_iff_toNat_le, UInt64.toNat_and]
  rw [show (0x7fffffffffffffff : UInt64).toNat = 2 ^ 63 - 1 from rfl, Nat.and_two_pow_sub_one_eq_mod, show (0x7ff0000000000000 : UInt64).toNat = 9218868437227405312 from rfl]
  refine Nat.le_of_not_lt fun h9 => h ?_
  have h0 := UInt64.toNat_lt x
  unfold fp_D FP.Core.decode FP.Core.fieldE FP.Core.fieldT
  rw [fp_exps, fp_tails]
  have e1 : x.toNat / 4503599627370496 % 2048 = 2048 - 1 := by omega
  have e2 : ¬ x.toNat % 4503599627370496 = 0 := by omega
  rw [if_pos e1, if_neg e2]
/-! rounding -/
theorem nr_le {A B M : Nat} (hB : 0 < B) (h : A ≤ M * B) : FP.Core.nearest A B ≤ M := by
  have h1 : A / B * B + A % B = A := Nat.div_add_mod' A B
  have h2 : A % B < B := Nat.mod_lt _ hB
  have h3 : A / B ≤ M := by
    rw [Nat.div_le_iff_le_mul_add_pred hB]
    have := Nat.mul_comm M B
    omega
  unfold FP.Core.nearest
  by_cases he : A / B = M
  · have h4 : A % B = 0 := by
      rw [he] at h1
      omega
    rw [h4, if_pos (by omega)]
    omega
  · split
    · omega
    · split
      · omega
      · omega
theorem nr_ge {A B M : Nat} (hB : 0 < B) (h : M * B ≤ A) : M ≤ FP.Core.nearest A B := by
  have h3 : M ≤ A / B := (Nat.le_div_iff_mul_le hB).mpr h
  unfold FP.Core.nearest
  split
  · omega
  · split
    · omega
    · omega
theorem fp_set (s : Bool) {c : Nat} {q : Int} (hc : c ≤ 9007199254740992) (hq : -1074 ≤ q) (hn : q = -1074 ∨ 4503599627370496 ≤ c) : fp_ok (FP.Core.settle FP.Core.b64 s c q) := by
  unfold FP.Core.settle FP.Core.bound
  rw [fp_full, fp_tails, fp_qmax]
  by_cases h1 : c < 9007199254740992
  · rw [if_pos h1]
    by_cases h2 : q ≤ 971
    · rw [if_pos h2]
      exact ⟨h1, hq, h2, hn⟩
    · rw [if_neg h2]
      trivial
  · rw [if_neg h1]
    by_cases h2 : q + 1 ≤ 971
    · rw [if_pos h2]
      exact ⟨by omega, by omega, h2, Or.inr (by omega)⟩
    · rw [if_neg h2]
      trivial
/-- 2 ^ a is at most A / B -/
abbrev fp_pw (A B : Nat) (a : Int) : Prop := B * 2 ^ a.toNat ≤ A * 2 ^ (-a).toNat
theorem fp_pw_iff (A B n m : Nat) : fp_pw A B ((n : Int) - m) ↔ B * 2 ^ n ≤ A * 2 ^ m := by
  unfold fp_pw
  rcases Nat.le_total m n with h | h
  · obtain ⟨k, rfl⟩ := Nat.exists_eq_add_of_le h
    rw [show (((m + k : Nat) : Int) - m).toNat = k by omega, show (-(((m + k : Nat) : Int) - m)).toNat = 0 by omega, Nat.pow_zero, Nat.mul_one, Nat.pow_add, show B * (2 ^ m * 2 ^ k) = (B * 2 ^ k) * 2 ^ m by rw [Nat.mul_comm (2 ^ m), Nat.mul_assoc]]
    exact (Nat.mul_le_mul_right_iff (Nat.two_pow_pos m)).symm
  · obtain ⟨k, rfl⟩ := Nat.exists_eq_add_of_le h
    rw [show ((n : Int) - ((n + k : Nat) : Int)).toNat = 0 by omega, show (-((n : Int) - ((n + k : Nat) : Int))).toNat = k by omega, Nat.pow_zero, Nat.mul_one, Nat.pow_add, show A * (2 ^ n * 2 ^ k) = (A * 2 ^ k) * 2 ^ n by rw [Nat.mul_comm (2 ^ n), Nat.mul_assoc]]
    exact ⟨fun h9 => Nat.mul_le_mul_right _ h9 |> fun z => by simpa using z, fun h9 => Nat.le_of_mul_le_mul_right h9 (Nat.two_pow_pos n)⟩
theorem fp_pw_mono {A B : Nat} {a b : Int} (h : fp_pw A B a) (hab : b ≤ a) : fp_pw A B b := by
  have ea : a = (((a + (a.natAbs + b.natAbs : Nat)).toNat : Nat) : Int) - ((a.natAbs + b.natAbs : Nat) : Int) := by omega
  have eb : b = (((b + (a.natAbs + b.natAbs : Nat)).toNat : Nat) : Int) - ((a.natAbs + b.natAbs : Nat) : Int) := by omega
  generalize a.natAbs + b.natAbs = K at ea eb
  rw [ea] at h
  rw [eb]
  refine (fp_pw_iff _ _ _ _).mpr (Nat.le_trans (Nat.mul_le_mul_left _ (Nat.pow_le_pow_right (by omega) ?_)) ((fp_pw_iff _ _ _ _).mp h))
  omega
theorem fp_pw_up {A A2 B : Nat} {a : Int} (h : fp_pw A B a) (hA : A ≤ A2) : fp_pw A2 B a := Nat.le_trans h (Nat.mul_le_mul_right _ hA)
theorem fp_pw_0 {a : Int} : ¬ fp_pw 0 1 a := by
  unfold fp_pw
  rw [Nat.zero_mul, Nat.one_mul]
  have := Nat.two_pow_pos a.toNat
  omega
theorem fp_pw_sh (c i : Nat) (a : Int) : fp_pw (c * 2 ^ i) 1 a ↔ fp_pw c 1 (a - i) := by
  have e1 : a = ((a.toNat : Nat) : Int) - (((-a).toNat : Nat) : Int) := by omega
  have e2 : a - i = ((a.toNat : Nat) : Int) - (((-a).toNat + i : Nat) : Int) := by omega
  rw [e2, fp_pw_iff]
  conv => lhs; rw [e1]
  rw [fp_pw_iff, Nat.pow_add, Nat.mul_assoc, Nat.mul_comm (2 ^ i)]
theorem fp_pw_mul {c d : Nat} {a b : Int} (h1 : fp_pw c 1 a) (h2 : fp_pw d 1 b) : fp_pw (c * d) 1 (a + b) := by
  have e : a + b = ((a.toNat + b.toNat : Nat) : Int) - (((-a).toNat + (-b).toNat : Nat) : Int) := by omega
  rw [e, fp_pw_iff, Nat.one_mul, Nat.pow_add, Nat.pow_add]
  unfold fp_pw at h1 h2
  rw [Nat.one_mul] at h1 h2
  rw [Nat.mul_mul_mul_comm]
  exact Nat.mul_le_mul h1 h2
theorem fp_pw_nul {c d : Nat} {a b : Int} (h1 : ¬ fp_pw c 1 a) (h2 : ¬ fp_pw d 1 b) : ¬ fp_pw (c * d) 1 (a + b) := by
  have e : a + b = ((a.toNat + b.toNat : Nat) : Int) - (((-a).toNat + (-b).toNat : Nat) : Int) := by omega
  rw [e, fp_pw_iff, Nat.one_mul, Nat.pow_add, Nat.pow_add]
  unfold fp_pw at h1 h2
  rw [Nat.one_mul] at h1 h2
  rw [Nat.mul_mul_mul_comm]
  exact Nat.not_le.mpr (Nat.mul_lt_mul'' (Nat.not_le.mp h1) (Nat.not_le.mp h2))
theorem fp_lead {A B : Nat} (hA : 0 < A) (hB : 0 < B) : fp_pw A B (FP.Core.leading A B) ∧ ¬ fp_pw A B (FP.Core.leading A B + 1) := by
  have p1 : fp_pw A B (((A.log2 : Nat) : Int) - ((B.log2 + 1 : Nat) : Int)) := by
    rw [fp_pw_iff, Nat.mul_comm B]
    exact Nat.mul_le_mul (Nat.log2_self_le (by omega)) (Nat.le_of_lt Nat.lt_log2_self)
  have p2 : ¬ fp_pw A B (((A.log2 + 1 : Nat) : Int) - ((B.log2 : Nat) : Int)) := by
    rw [fp_pw_iff, Nat.mul_comm B]
    exact Nat.not_le.mpr (Nat.mul_lt_mul_of_lt_of_le Nat.lt_log2_self (Nat.log2_self_le (by omega)) (by omega))
  have hl : FP.Core.leading A B = if fp_pw A B ((A.log2 : Int) - (B.log2 : Int)) then (A.log2 : Int) - (B.log2 : Int) else (A.log2 : Int) - (B.log2 : Int) - 1 := rfl
  rw [hl]
  by_cases h : fp_pw A B ((A.log2 : Int) - (B.log2 : Int))
  · rw [if_pos h]
    refine ⟨h, fun z => p2 ?_⟩
    rw [show (((A.log2 + 1 : Nat) : Int) - ((B.log2 : Nat) : Int)) = (A.log2 : Int) - (B.log2 : Int) + 1 by omega]
    exact z
  · rw [if_neg h]
    refine ⟨?_, fun z => h ?_⟩
    · rw [show (A.log2 : Int) - (B.log2 : Int) - 1 = ((A.log2 : Nat) : Int) - ((B.log2 + 1 : Nat) : Int) by omega]
      exact p1
    · rw [show (A.log2 : Int) - (B.log2 : Int) - 1 + 1 = (A.log2 : Int) - (B.log2 : Int) by omega] at z
      exact z
theorem fp_near {A B : Nat} (hA : 0 < A) (hB : 0 < B) (e q : Int) (t : Nat) : (FP.Core.leading A B + 1 ≤ t + q - e → FP.Core.nearest (FP.Core.unitsNum A e q) (FP.Core.unitsDen B e q) ≤ 2 ^ t) ∧ (t + q - e ≤ FP.Core.leading A B → 2 ^ t ≤ FP.Core.nearest (FP.Core.unitsNum A e q) (FP.Core.unitsDen B e q)) := by
  obtain ⟨l1, l2⟩ := fp_lead hA hB
  unfold FP.Core.unitsNum FP.Core.unitsDen
  have hd : 0 < B * 2 ^ (q - e).toNat := Nat.mul_pos hB (Nat.two_pow_pos _)
  have ex : t + q - e = (((q - e).toNat + t : Nat) : Int) - (((e - q).toNat : Nat) : Int) := by omega
  refine ⟨fun h => nr_le hd ?_, fun h => nr_ge hd ?_⟩
  · have h1 : ¬ fp_pw A B (t + q - e) := fun z => l2 (fp_pw_mono z h)
    rw [ex, fp_pw_iff, Nat.pow_add, ← Nat.mul_assoc] at h1
    have := Nat.le_of_lt (Nat.not_le.mp h1)
    rw [Nat.mul_comm (2 ^ t)]
    exact this
  · have h1 : fp_pw A B (t + q - e) := fp_pw_mono l1 h
    rw [ex, fp_pw_iff, Nat.pow_add, ← Nat.mul_assoc] at h1
    rw [Nat.mul_comm (2 ^ t)]
    exact h1
theorem fp_quant (A B : Nat) (e : Int) : FP.Core.quantum FP.Core.b64 A B e = max (-1074) (FP.Core.leading A B + e - 52) := by
  unfold FP.Core.quantum
  rw [fp_qmin, show ((FP.Core.b64.p : Nat) : Int) - 1 = 52 by decide]
/-- a rounded ratio is written well -/
theorem fp_rr (s : Bool) (A : Nat) {B : Nat} (hB : 0 < B) (e : Int) : fp_ok (FP.Core.roundRatio FP.Core.b64 s A B e) := by
  unfold FP.Core.roundRatio
  by_cases hA : A = 0
  · rw [if_pos hA, fp_qmin]
    exact ⟨by omega, by omega, by omega, Or.inl rfl⟩
  · rw [if_neg hA]
    unfold FP.Core.roundAt
    rw [fp_quant]
    have hA' : 0 < A := Nat.pos_of_ne_zero hA
    have h1 := (fp_near hA' hB e (max (-1074) (FP.Core.leading A B + e - 52)) 53).1 (by omega)
    have h2 := (fp_near hA' hB e (max (-1074) (FP.Core.leading A B + e - 52)) 52).2
    refine fp_set s h1 (by omega) ?_
    by_cases h3 : max (-1074) (FP.Core.leading A B + e - 52) = -1074
    · exact Or.inl h3
    · exact Or.inr (h2 (by omega))
theorem fp_round {d : FP.Core.Datum} (h : ¬ d = .nan) : fp_ok (FP.Core.round FP.Core.b64 d) := by
  cases d with
  | nan => exact absurd rfl h
  | inf s => trivial
  | fin s c q => exact fp_rr s c (by omega) q
theorem fp_ok_n {d : FP.Core.Datum} (h : fp_ok d) : ¬ d = .nan := by
  intro z
  rw [z] at h
  exact h
/-- the values between: c * 2 ^ q below 2 ^ M; from 2 ^ J on -/
def fp_ub (d : FP.Core.Datum) (M : Int) : Prop := ∃ s c q, d = .fin s c q ∧ ¬ fp_pw c 1 (M - q)
def fp_lb (d : FP.Core.Datum) (J : Int) : Prop := ∃ s c q, d = .fin s c q ∧ fp_pw c 1 (J - q)
theorem fp_lb.nz {d : FP.Core.Datum} {J : Int} (h : fp_lb d J) : ∃ s c q, d = .fin s c q ∧ ¬ c = 0 := by
  obtain ⟨s, c, q, e, h1⟩ := h
  refine ⟨s, c, q, e, fun z => ?_⟩
  rw [z] at h1
  exact fp_pw_0 h1
theorem fp_setv (s : Bool) {c : Nat} {q : Int} (hc : c ≤ 9007199254740992) (hq : q + 1 ≤ 971) : ∃ c2 q2, FP.Core.settle FP.Core.b64 s c q = .fin s c2 q2 ∧ ∀ a : Int, fp_pw c2 1 (a - q2) ↔ fp_pw c 1 (a - q) := by
  unfold FP.Core.settle FP.Core.bound
  rw [fp_full, fp_tails, fp_qmax]
  by_cases h1 : c < 9007199254740992
  · rw [if_pos h1, if_pos (by omega)]
    exact ⟨c, q, rfl, fun a => Iff.rfl⟩
  · rw [if_neg h1, if_pos hq]
    refine ⟨_, _, rfl, fun a => ?_⟩
    rw [show c = 4503599627370496 * 2 ^ 1 by omega, fp_pw_sh]
    rw [show a - (q + 1) = a - q - ((1 : Nat) : Int) by omega]
theorem fp_rub (s : Bool) {A : Nat} {e M : Int} (h : ¬ fp_pw A 1 (M - e)) (h1 : -1074 ≤ M) (h2 : M ≤ 900) : fp_ub (FP.Core.roundRatio FP.Core.b64 s A 1 e) (M + 1) := by
  unfold FP.Core.roundRatio
  by_cases hA : A = 0
  · rw [if_pos hA]
    exact ⟨_, _, _, rfl, fp_pw_0⟩
  · rw [if_neg hA]
    unfold FP.Core.roundAt
    rw [fp_quant]
    have hA' : 0 < A := Nat.pos_of_ne_zero hA
    obtain ⟨l1, l2⟩ := fp_lead hA' (B := 1) (by omega)
    have hL : FP.Core.leading A 1 + e + 1 ≤ M := by
      refine Int.not_lt.mp fun z => h (fp_pw_mono l1 ?_)
      omega
    generalize hq : max (-1074) (FP.Core.leading A 1 + e - 52) = q
    have h3 := (fp_near hA' (B := 1) (by omega) e q 53).1 (by omega)
    have h4 := (fp_near hA' (B := 1) (by omega) e q (M - q).toNat).1 (by omega)
    obtain ⟨c2, q2, e2, h5⟩ := fp_setv s (q := q) h3 (by omega)
    refine ⟨_, _, _, e2, fun z => ?_⟩
    rw [h5, show M + 1 - q = (((M - q).toNat + 1 : Nat) : Int) - ((0 : Nat) : Int) by omega, fp_pw_iff, Nat.pow_succ, Nat.pow_zero] at z
    have := Nat.two_pow_pos (M - q).toNat
    omega
theorem fp_rlb (s : Bool) {A : Nat} {e J : Int} (h : fp_pw A 1 (J - e)) (h1 : -1074 ≤ J) {M : Int} (h8 : ¬ fp_pw A 1 (M - e)) (h2 : M ≤ 900) : fp_lb (FP.Core.roundRatio FP.Core.b64 s A 1 e) J := by
  unfold FP.Core.roundRatio
  by_cases hA : A = 0
  · rw [hA] at h
    exact absurd h fp_pw_0
  · rw [if_neg hA]
    unfold FP.Core.roundAt
    rw [fp_quant]
    have hA' : 0 < A := Nat.pos_of_ne_zero hA
    obtain ⟨l1, l2⟩ := fp_lead hA' (B := 1) (by omega)
    have hL : FP.Core.leading A 1 + e + 1 ≤ M := by
      refine Int.not_lt.mp fun z => h8 (fp_pw_mono l1 ?_)
      omega
    have hJ : J - e ≤ FP.Core.leading A 1 := by
      refine Int.not_lt.mp fun z => l2 (fp_pw_mono h ?_)
      omega
    generalize hq : max (-1074) (FP.Core.leading A 1 + e - 52) = q
    have h3 := (fp_near hA' (B := 1) (by omega) e q 53).1 (by omega)
    obtain ⟨c2, q2, e2, h5⟩ := fp_setv s (q := q) h3 (by omega)
    refine ⟨_, _, _, e2, (h5 J).mpr ?_⟩
    rcases Int.lt_or_le J q with h9 | h9
    · have h4 := (fp_near hA' (B := 1) (by omega) e q 52).2 (by omega)
      rw [show J - q = ((0 : Nat) : Int) - (((q - J).toNat : Nat) : Int) by omega, fp_pw_iff]
      have h6 := Nat.two_pow_pos (q - J).toNat
      have h7 := Nat.mul_le_mul h4 h6
      omega
    · have h4 := (fp_near hA' (B := 1) (by omega) e q (J - q).toNat).2 (by omega)
      rw [show J - q = (((J - q).toNat : Nat) : Int) - ((0 : Nat) : Int) by omega, fp_pw_iff]
      omega
theorem fp_ub.fin {d : FP.Core.Datum} {M : Int} (h : fp_ub d M) : ∃ s c q, d = .fin s c q := by
  obtain ⟨s, c, q, e, -⟩ := h
  exact ⟨s, c, q, e⟩
theorem fp_fin_n {d : FP.Core.Datum} (h : ∃ s c q, d = .fin s c q) : ¬ d = .nan := by
  obtain ⟨s, c, q, e⟩ := h
  rw [e]
  exact fun z => by cases z
theorem fp_mD {x y : UInt64} {s t : Bool} {c d : Nat} {q r : Int} (e1 : fp_D x = .fin s c q) (e2 : fp_D y = .fin t d r) : fp_D (FP.dmul x y) = FP.Core.roundRatio FP.Core.b64 (s != t) (c * d) 1 (q + r) := by
  have h : fp_ok (FP.Core.round FP.Core.b64 (FP.Core.exactProduct (fp_D x) (fp_D y))) := by
    rw [e1, e2]
    exact fp_round (fun z => by cases z)
  have h2 := fp_of h
  rw [e1, e2] at h2
  have h3 : FP.dmul x y = .ofNat (FP.Core.encode FP.Core.b64 (FP.Core.round FP.Core.b64 (FP.Core.exactProduct (fp_D x) (fp_D y)))) := rfl
  rw [h3, e1, e2]
  exact h2
theorem fp_mub {x y : UInt64} {M1 M2 : Int} (hx : fp_ub (fp_D x) M1) (hy : fp_ub (fp_D y) M2) (h1 : -1074 ≤ M1 + M2) (h2 : M1 + M2 ≤ 900) : fp_ub (fp_D (FP.dmul x y)) (M1 + M2 + 1) ∧ vf_n64 (FP.dmul x y) := by
  obtain ⟨s, c, q, e1, p1⟩ := hx
  obtain ⟨t, d, r, e2, p2⟩ := hy
  have h : fp_ub (fp_D (FP.dmul x y)) (M1 + M2 + 1) := by
    rw [fp_mD e1 e2]
    refine fp_rub _ ?_ h1 h2
    rw [show M1 + M2 - (q + r) = M1 - q + (M2 - r) by omega]
    exact fp_pw_nul p1 p2
  exact ⟨h, fp_n64 (fp_fin_n h.fin)⟩
theorem fp_mlb {x y : UInt64} {M1 M2 J1 J2 : Int} (hx : fp_ub (fp_D x) M1) (hy : fp_ub (fp_D y) M2) (kx : fp_lb (fp_D x) J1) (ky : fp_lb (fp_D y) J2) (h1 : -1074 ≤ J1 + J2) (h2 : M1 + M2 ≤ 900) : fp_lb (fp_D (FP.dmul x y)) (J1 + J2) := by
  obtain ⟨s, c, q, e1, p1⟩ := hx
  obtain ⟨t, d, r, e2, p2⟩ := hy
  obtain ⟨s3, c3, q3, e3, p3⟩ := kx
  obtain ⟨t4, d4, r4, e4, p4⟩ := ky
  rw [e1] at e3
  rw [e2] at e4
  cases e3
  cases e4
  rw [fp_mD e1 e2]
  refine fp_rlb _ (M := M1 + M2) ?_ h1 ?_ h2
  · rw [show J1 + J2 - (q + r) = J1 - q + (J2 - r) by omega]
    exact fp_pw_mul p3 p4
  · rw [show M1 + M2 - (q + r) = M1 - q + (M2 - r) by omega]
    exact fp_pw_nul p1 p2
theorem fp_mfin {x y : UInt64} (hx : ∃ s c q, fp_D x = .fin s c q) (hy : ∃ s c q, fp_D y = .fin s c q) : vf_n64 (FP.dmul x y) ∧ ¬ fp_D (FP.dmul x y) = .nan := by
  obtain ⟨s, c, q, e1⟩ := hx
  obtain ⟨t, d, r, e2⟩ := hy
  have h : ¬ fp_D (FP.dmul x y) = .nan := by
    rw [fp_mD e1 e2]
    exact fp_ok_n (fp_rr _ _ (by omega) _)
  exact ⟨fp_n64 h, h⟩
theorem fp_div {x y : UInt64} (hx : ¬ fp_D x = .nan) (hy : ∃ s c q, fp_D y = .fin s c q ∧ ¬ c = 0) : vf_n64 (FP.ddiv x y) ∧ ¬ fp_D (FP.ddiv x y) = .nan := by
  obtain ⟨t, d, r, e2, hd⟩ := hy
  have h : fp_ok (FP.Core.quotient FP.Core.b64 (fp_D x) (fp_D y)) := by
    rw [e2]
    cases e1 : fp_D x with
    | nan => exact absurd e1 hx
    | inf s => trivial
    | fin s c q =>
      show fp_ok (if d = 0 then (if c = 0 then .nan else .inf (s != t)) else FP.Core.roundRatio FP.Core.b64 (s != t) c d (q - r))
      rw [if_neg hd]
      exact fp_rr _ _ (Nat.pos_of_ne_zero hd) _
  have h3 : FP.ddiv x y = .ofNat (FP.Core.encode FP.Core.b64 (FP.Core.quotient FP.Core.b64 (fp_D x) (fp_D y))) := rfl
  have h4 : ¬ fp_D (FP.ddiv x y) = .nan := by
    rw [h3, fp_of h]
    exact fp_ok_n h
  exact ⟨fp_n64 h4, h4⟩
theorem fp_sumn {x y : FP.Core.Datum} (hx : ∃ s c q, x = .fin s c q) (hy : ¬ y = .nan) : ¬ FP.Core.exactSum x y = .nan := by
  obtain ⟨s, c, q, rfl⟩ := hx
  cases y with
  | nan => exact absurd rfl hy
  | inf t => exact fun z => by cases z
  | fin t d r => exact fun z => by cases z
theorem fp_add {x y : UInt64} (hx : ∃ s c q, fp_D x = .fin s c q) (hy : ¬ fp_D y = .nan) : vf_n64 (FP.dadd x y) := by
  have h := fp_round (fp_sumn hx hy)
  have h3 : FP.dadd x y = .ofNat (FP.Core.encode FP.Core.b64 (FP.Core.round FP.Core.b64 (FP.Core.exactSum (fp_D x) (fp_D y)))) := rfl
  refine fp_n64 ?_
  rw [h3, fp_of h]
  exact fp_ok_n h
theorem fp_sub {x y : UInt64} (hx : ∃ s c q, fp_D x = .fin s c q) (hy : ¬ fp_D y = .nan) : vf_n64 (FP.dsub x y) := by
  have h0 : ¬ FP.Core.negate (fp_D y) = .nan := by
    cases e : fp_D y with
    | nan => exact absurd e hy
    | inf t => exact fun z => by cases z
    | fin t d r => exact fun z => by cases z
  have h := fp_round (fp_sumn hx h0)
  have h3 : FP.dsub x y = .ofNat (FP.Core.encode FP.Core.b64 (FP.Core.round FP.Core.b64 (FP.Core.exactSum (fp_D x) (FP.Core.negate (fp_D y))))) := rfl
  refine fp_n64 ?_
  rw [h3, fp_of h]
  exact fp_ok_n h
theorem fp_int {i : Int} (hi : i.natAbs ≤ 9223372036854775808) : (∃ s c q, fp_D (.ofNat (FP.Core.fromInt FP.Core.b64 i)) = .fin s c q) ∧ (¬ i = 0 → ∃ s c q, fp_D (.ofNat (FP.Core.fromInt FP.Core.b64 i)) = .fin s c q ∧ ¬ c = 0) := by
  have e : fp_D (.ofNat (FP.Core.fromInt FP.Core.b64 i)) = FP.Core.roundRatio FP.Core.b64 (decide (i < 0)) i.natAbs 1 0 := fp_of (d := FP.Core.round FP.Core.b64 (FP.Core.ofInt i)) (fp_round (fun z => by cases z))
  have hu : ¬ fp_pw i.natAbs 1 (64 - 0) := by
    rw [show (64 - 0 : Int) = ((64 : Nat) : Int) - ((0 : Nat) : Int) by omega, fp_pw_iff]
    omega
  rw [e]
  refine ⟨(fp_rub _ hu (by omega) (by omega)).fin, fun h0 => (fp_rlb (J := 0) _ ?_ (by omega) hu (by omega)).nz⟩
  rw [show (0 - 0 : Int) = ((0 : Nat) : Int) - ((0 : Nat) : Int) by omega, fp_pw_iff]
  omega
theorem fp_l2d (x : Int64) : (∃ s c q, fp_D (FP.l2d x) = .fin s c q) ∧ (¬ x = 0 → ∃ s c q, fp_D (FP.l2d x) = .fin s c q ∧ ¬ c = 0) := by
  have h1 := Int64.toInt_lt x
  have h2 := Int64.le_toInt x
  obtain ⟨a, b⟩ := fp_int (i := x.toInt) (by omega)
  exact ⟨a, fun h => b (fun z => h (l_eq.mpr (by rw [z, l_0])))⟩
theorem fp_i2d (x : Int32) : (∃ s c q, fp_D (FP.i2d x) = .fin s c q) ∧ (¬ x.toInt = 0 → ∃ s c q, fp_D (FP.i2d x) = .fin s c q ∧ ¬ c = 0) := by
  have h1 := Int32.toInt_lt x
  have h2 := Int32.le_toInt x
  exact fp_int (i := x.toInt) (by omega)
/-- v lies from a to b, as dcmp tells -/
abbrev sz_ok (a b v : UInt64) : Prop := ¬ Op.cmpValue (FP.dcmp v a) .l < 0 ∧ ¬ 0 < Op.cmpValue (FP.dcmp v b) .g
theorem fp_cl {x y : Int} (h : ¬ Op.cmpValue (some (compare x y)) .l < 0) : y ≤ x := by
  rw [show compare x y = if x < y then .lt else if x = y then .eq else .gt from rfl] at h
  refine Int.not_lt.mp fun z => h ?_
  rw [if_pos z]
  decide
theorem fp_cg {x y : Int} (h : ¬ 0 < Op.cmpValue (some (compare x y)) .g) : x ≤ y := by
  rw [show compare x y = if x < y then .lt else if x = y then .eq else .gt from rfl] at h
  refine Int.not_lt.mp fun z => h ?_
  rw [if_neg (by omega), if_neg (by omega)]
  decide
theorem fp_sz {a b v : UInt64} {d d2 : Nat} {r r2 : Int} (ha : fp_D a = .fin false d r) (hb : fp_D b = .fin false d2 r2) (h : sz_ok a b v) : ∃ s c q, fp_D v = .fin s c q ∧ (FP.Core.inUnits d r (min q r) : Int) ≤ FP.Core.signed s (FP.Core.inUnits c q (min q r)) ∧ FP.Core.signed s (FP.Core.inUnits c q (min q r2)) ≤ (FP.Core.inUnits d2 r2 (min q r2) : Int) := by
  obtain ⟨h1, h2⟩ := h
  have e1 : FP.dcmp v a = FP.Core.order (fp_D v) (fp_D a) := rfl
  have e2 : FP.dcmp v b = FP.Core.order (fp_D v) (fp_D b) := rfl
  rw [e1, ha] at h1
  rw [e2, hb] at h2
  cases e : fp_D v with
  | nan =>
    rw [e] at h1
    exact absurd (show Op.cmpValue none .l < 0 by decide) h1
  | inf s =>
    rw [e] at h1 h2
    have g1 := fp_cl (x := FP.Core.signed s 1) (y := 0) h1
    have g2 := fp_cg (x := FP.Core.signed s 1) (y := 0) h2
    cases s with
    | false => exact absurd g2 (by decide)
    | true => exact absurd g1 (by decide)
  | fin s c q =>
    rw [e] at h1 h2
    exact ⟨s, c, q, rfl, fp_cl h1, fp_cg h2⟩
theorem fp_tr {c d : Nat} {q r a : Int} (h : FP.Core.inUnits c q (min q r) ≤ FP.Core.inUnits d r (min q r)) (hp : fp_pw c 1 (a - q)) : fp_pw d 1 (a - r) := by
  unfold FP.Core.inUnits at h
  rw [show a - r = a - min q r - (((r - min q r).toNat : Nat) : Int) by omega, ← fp_pw_sh]
  refine fp_pw_up ?_ h
  rw [fp_pw_sh, show a - min q r - (((q - min q r).toNat : Nat) : Int) = a - q by omega]
  exact hp
theorem fp_szu {a b v : UInt64} {d d2 : Nat} {r r2 M : Int} (ha : fp_D a = .fin false d r) (hb : fp_D b = .fin false d2 r2) (h : sz_ok a b v) (hM : ¬ fp_pw d2 1 (M - r2)) : fp_ub (fp_D v) M := by
  obtain ⟨s, c, q, e, h1, h2⟩ := fp_sz ha hb h
  refine ⟨s, c, q, e, fun z => ?_⟩
  cases s with
  | false => exact hM (fp_tr (Int.ofNat_le.mp h2) z)
  | true =>
    have h3 : (FP.Core.inUnits d r (min q r) : Int) ≤ -(FP.Core.inUnits c q (min q r) : Int) := h1
    have h4 : FP.Core.inUnits c q (min q r) = 0 := by omega
    have h5 : c = 0 := by
      rcases Nat.mul_eq_zero.mp h4 with h9 | h9
      · exact h9
      · exact absurd h9 (Nat.pos_iff_ne_zero.mp (Nat.two_pow_pos _))
    rw [h5] at z
    exact fp_pw_0 z
theorem fp_szl {a b v : UInt64} {d d2 : Nat} {r r2 J : Int} (ha : fp_D a = .fin false d r) (hb : fp_D b = .fin false d2 r2) (h : sz_ok a b v) (hd : 0 < d) (hJ : fp_pw d 1 (J - r)) : fp_lb (fp_D v) J := by
  obtain ⟨s, c, q, e, h1, h2⟩ := fp_sz ha hb h
  refine ⟨s, c, q, e, ?_⟩
  cases s with
  | false =>
    have h3 : FP.Core.inUnits d r (min q r) ≤ FP.Core.inUnits c q (min q r) := Int.ofNat_le.mp h1
    rw [Int.min_comm] at h3
    exact fp_tr h3 hJ
  | true =>
    have h3 : (FP.Core.inUnits d r (min q r) : Int) ≤ -(FP.Core.inUnits c q (min q r) : Int) := h1
    have h4 : 0 < FP.Core.inUnits d r (min q r) := Nat.mul_pos hd (Nat.two_pow_pos _)
    omega
