/-! FLOATS: quotients of whole numbers are numbers -/
section FPX
theorem fp_asm {f : Jvm.FP.Core.Fmt} {s : Bool} {E T : Nat} (hE : E < f.exps) (hT : T < f.tails) : Jvm.FP.Core.fieldE f (Jvm.FP.Core.assemble f s E T) = E ∧ Jvm.FP.Core.fieldT f (Jvm.FP.Core.assemble f s E T) = T ∧ Jvm.FP.Core.fieldS f (Jvm.FP.Core.assemble f s E T) = s := by
  have h1 : Jvm.FP.Core.assemble f s E T / f.tails = s.toNat * f.exps + E := by
    unfold Jvm.FP.Core.assemble
    rw [Nat.mul_comm, Nat.mul_add_div (by omega), Nat.div_eq_of_lt hT, Nat.add_zero]
  have h2 : (s.toNat * f.exps + E) / f.exps = s.toNat := by
    rw [Nat.mul_comm, Nat.mul_add_div (by omega), Nat.div_eq_of_lt hE, Nat.add_zero]
  refine ⟨?_, ?_, ?_⟩
  · unfold Jvm.FP.Core.fieldE
    rw [h1, Nat.mul_comm, Nat.mul_add_mod, Nat.mod_eq_of_lt hE]
  · unfold Jvm.FP.Core.fieldT Jvm.FP.Core.assemble
    rw [Nat.mul_comm, Nat.mul_add_mod, Nat.mod_eq_of_lt hT]
  · unfold Jvm.FP.Core.fieldS
    rw [h1, h2]
    cases s <;> rfl
/-- what is true of both formats -/
def FpOk (f : Jvm.FP.Core.Fmt) : Prop := 0 < f.tails ∧ 2 ^ f.p = 2 * f.tails ∧ 4 ≤ f.exps ∧ (f.qmax - f.qmin).toNat + 1 ≤ f.exps - 2
theorem FpOk.t {f : Jvm.FP.Core.Fmt} (h : FpOk f) : 0 < f.tails := h.1
theorem FpOk.p2 {f : Jvm.FP.Core.Fmt} (h : FpOk f) : 2 ^ f.p = 2 * f.tails := h.2.1
theorem FpOk.e {f : Jvm.FP.Core.Fmt} (h : FpOk f) : 4 ≤ f.exps := h.2.2.1
theorem FpOk.q {f : Jvm.FP.Core.Fmt} (h : FpOk f) : (f.qmax - f.qmin).toNat + 1 ≤ f.exps - 2 := h.2.2.2
theorem fp32 : FpOk Jvm.FP.Core.b32 := ⟨by decide, by decide, by decide, by decide⟩
theorem fp64 : FpOk Jvm.FP.Core.b64 := ⟨by decide, by decide, by decide, by decide⟩
def fpFit (f : Jvm.FP.Core.Fmt) : Jvm.FP.Core.Datum → Prop
  | .nan => False
  | .inf _ => True
  | .fin _ c q => c < 2 ^ f.p ∧ f.qmin ≤ q ∧ q ≤ f.qmax
theorem fp_enc (f : Jvm.FP.Core.Fmt) (s : Bool) (c : Nat) (q : Int) : Jvm.FP.Core.encode f (.fin s c q) = if c < f.tails then Jvm.FP.Core.assemble f s 0 c else Jvm.FP.Core.assemble f s ((q - f.qmin).toNat + 1) (c - f.tails) := rfl
theorem fp_dec {f : Jvm.FP.Core.Fmt} (h : FpOk f) {s : Bool} {c : Nat} {q : Int} (hd : fpFit f (.fin s c q)) : ∃ q', Jvm.FP.Core.decode f (Jvm.FP.Core.encode f (.fin s c q)) = .fin s c q' := by
  obtain ⟨h1, h2, h3⟩ := hd
  have hp := h.p2
  have he := h.e
  have hq := h.q
  rw [fp_enc]
  split
  · rename_i hc
    obtain ⟨a1, a2, a3⟩ := fp_asm (f := f) (s := s) (E := 0) (T := c) (by omega) hc
    unfold Jvm.FP.Core.decode
    rw [a1, a2, a3, if_neg (by omega), if_pos rfl]
    exact ⟨_, rfl⟩
  · rename_i hc
    have hE : (q - f.qmin).toNat + 1 ≤ f.exps - 2 := by omega
    obtain ⟨a1, a2, a3⟩ := fp_asm (f := f) (s := s) (E := (q - f.qmin).toNat + 1) (T := c - f.tails) (by omega) (by omega)
    unfold Jvm.FP.Core.decode
    rw [a1, a2, a3, if_neg (by omega), if_neg (by omega), show f.tails + (c - f.tails) = c by omega]
    exact ⟨_, rfl⟩
theorem fp_bnd {f : Jvm.FP.Core.Fmt} {s : Bool} {c : Nat} {q : Int} (hc : c < 2 ^ f.p) (hq : f.qmin ≤ q) : fpFit f (Jvm.FP.Core.bound f s c q) := by
  unfold Jvm.FP.Core.bound
  split
  · rename_i h; exact ⟨hc, hq, h⟩
  · exact True.intro
theorem fp_rr {f : Jvm.FP.Core.Fmt} (h : FpOk f) {s : Bool} {n d : Nat} {e : Int} : fpFit f (Jvm.FP.Core.roundRatio f s n d e) := by
  have hp := h.p2
  have ht := h.t
  unfold Jvm.FP.Core.roundRatio
  split
  · refine ⟨by omega, Int.le_refl _, ?_⟩
    have hq := h.q
    have he := h.e
    unfold Jvm.FP.Core.Fmt.qmin Jvm.FP.Core.Fmt.qmax at *
    have : (1 : Nat) ≤ f.emax := Nat.one_le_iff_ne_zero.mpr (fun h0 => by
      rw [h0] at hq
      have hx : f.exps = 2 ^ f.w := rfl
      have h1 : f.emax = 2 ^ (f.w - 1) - 1 := rfl
      have hw : 1 ≤ f.w := by
        rcases Nat.eq_zero_or_pos f.w with h2 | h2
        · rw [hx, h2] at he; omega
        · exact h2
      have h3 : 2 ^ f.w = 2 * 2 ^ (f.w - 1) := by rw [← Nat.pow_succ']; congr 1; omega
      omega)
    omega
  · unfold Jvm.FP.Core.roundAt Jvm.FP.Core.settle
    have hq : f.qmin ≤ Jvm.FP.Core.quantum f n d e := by unfold Jvm.FP.Core.quantum; exact Int.le_max_left _ _
    split
    · exact fp_bnd (by assumption) hq
    · exact fp_bnd (by omega) (by omega)
theorem fp_dec2 {f : Jvm.FP.Core.Fmt} (h : FpOk f) {d : Jvm.FP.Core.Datum} (hd : fpFit f d) : (∃ s, Jvm.FP.Core.decode f (Jvm.FP.Core.encode f d) = .inf s) ∨ ∃ s c q q', d = .fin s c q ∧ Jvm.FP.Core.decode f (Jvm.FP.Core.encode f d) = .fin s c q' := by
  match d, hd with
  | .inf s, _ =>
    refine Or.inl ⟨s, ?_⟩
    have he := h.e
    obtain ⟨a1, a2, a3⟩ := fp_asm (f := f) (s := s) (E := f.exps - 1) (T := 0) (by omega) h.t
    unfold Jvm.FP.Core.encode Jvm.FP.Core.decode
    rw [a1, a2, a3, if_pos rfl, if_pos rfl]
  | .fin s c q, hd =>
    obtain ⟨q', e⟩ := fp_dec h hd
    exact Or.inr ⟨s, c, q, q', rfl, e⟩
/-- a whole number other than 0, as a float -/
theorem fp_int {f : Jvm.FP.Core.Fmt} (h : FpOk f) {i : Int} (hi : i ≠ 0) (hb : i.natAbs < 2 ^ 64) (hq : f.qmin + 64 ≤ 0) (hq2 : 66 ≤ f.qmax) (hmin : f.qmin ≤ -((f.p : Int) - 1)) (hp1 : 1 ≤ f.p) : ∃ s c q, Jvm.FP.Core.decode f (Jvm.FP.Core.fromInt f i) = .fin s c q ∧ c ≠ 0 := by
  have hn : i.natAbs ≠ 0 := by omega
  have hlog : i.natAbs.log2 < 64 := (Nat.log2_lt hn).mpr hb
  have hpow : 2 ^ i.natAbs.log2 ≤ i.natAbs := Nat.log2_self_le hn
  have ht := h.t
  have hp := h.p2
  obtain ⟨n, hnn⟩ : ∃ n, n = i.natAbs := ⟨_, rfl⟩
  have hlead : Jvm.FP.Core.leading n 1 = (n.log2 : Int) := by
    unfold Jvm.FP.Core.leading
    have h1 : (1 : Nat).log2 = 0 := by decide
    rw [h1]
    dsimp only
    rw [if_pos (by
      rw [show ((n.log2 : Int) - ((0 : Nat) : Int)).toNat = n.log2 by omega, show (-((n.log2 : Int) - ((0 : Nat) : Int))).toNat = 0 by omega, Nat.one_mul, Nat.pow_zero, Nat.mul_one, hnn]
      exact hpow)]
    omega
  have hqt : Jvm.FP.Core.quantum f n 1 0 = (n.log2 : Int) - ((f.p : Int) - 1) := by
    unfold Jvm.FP.Core.quantum
    rw [hlead]
    exact (Int.max_eq_right (by omega)).trans (by omega)
  have hround : Jvm.FP.Core.round f (Jvm.FP.Core.ofInt i) = Jvm.FP.Core.settle f (decide (i < 0)) (Jvm.FP.Core.nearest (Jvm.FP.Core.unitsNum n 0 (Jvm.FP.Core.quantum f n 1 0)) (Jvm.FP.Core.unitsDen 1 0 (Jvm.FP.Core.quantum f n 1 0))) (Jvm.FP.Core.quantum f n 1 0) := by
    show Jvm.FP.Core.roundRatio f (decide (i < 0)) i.natAbs 1 0 = _
    unfold Jvm.FP.Core.roundRatio
    rw [if_neg hn, ← hnn]
    rfl
  have hnear : Jvm.FP.Core.nearest (Jvm.FP.Core.unitsNum n 0 (Jvm.FP.Core.quantum f n 1 0)) (Jvm.FP.Core.unitsDen 1 0 (Jvm.FP.Core.quantum f n 1 0)) ≠ 0 := by
    have hge : Jvm.FP.Core.unitsDen 1 0 (Jvm.FP.Core.quantum f n 1 0) ≤ Jvm.FP.Core.unitsNum n 0 (Jvm.FP.Core.quantum f n 1 0) := by
      unfold Jvm.FP.Core.unitsDen Jvm.FP.Core.unitsNum
      rw [hqt, Nat.one_mul]
      by_cases hc : (n.log2 : Int) - ((f.p : Int) - 1) ≤ 0
      · rw [show ((n.log2 : Int) - ((f.p : Int) - 1) - 0).toNat = 0 by omega, Nat.pow_zero]
        exact Nat.mul_pos (by omega) (Nat.two_pow_pos _)
      · rw [show (0 - ((n.log2 : Int) - ((f.p : Int) - 1))).toNat = 0 by omega, Nat.pow_zero, Nat.mul_one]
        refine Nat.le_trans (Nat.pow_le_pow_right (by omega) ?_) (hnn ▸ hpow)
        omega
    have hd : 0 < Jvm.FP.Core.unitsDen 1 0 (Jvm.FP.Core.quantum f n 1 0) := by unfold Jvm.FP.Core.unitsDen; exact Nat.mul_pos (by omega) (Nat.two_pow_pos _)
    have h1 : 1 ≤ Jvm.FP.Core.unitsNum n 0 (Jvm.FP.Core.quantum f n 1 0) / Jvm.FP.Core.unitsDen 1 0 (Jvm.FP.Core.quantum f n 1 0) := (Nat.one_le_div_iff hd).mpr hge
    unfold Jvm.FP.Core.nearest
    repeat' split
    all_goals omega
  have hq3 : Jvm.FP.Core.quantum f n 1 0 + 1 ≤ f.qmax := by rw [hqt, hnn]; omega
  have hq4 : f.qmin ≤ Jvm.FP.Core.quantum f n 1 0 := by rw [hqt]; omega
  unfold Jvm.FP.Core.fromInt
  rw [hround]
  unfold Jvm.FP.Core.settle
  split
  · rename_i hc
    unfold Jvm.FP.Core.bound
    rw [if_pos (by omega)]
    obtain ⟨q', e⟩ := fp_dec h (s := decide (i < 0)) (c := Jvm.FP.Core.nearest (Jvm.FP.Core.unitsNum n 0 (Jvm.FP.Core.quantum f n 1 0)) (Jvm.FP.Core.unitsDen 1 0 (Jvm.FP.Core.quantum f n 1 0))) (q := Jvm.FP.Core.quantum f n 1 0) ⟨hc, hq4, by omega⟩
    exact ⟨_, _, q', e, hnear⟩
  · unfold Jvm.FP.Core.bound
    rw [if_pos hq3]
    obtain ⟨q', e⟩ := fp_dec h (s := decide (i < 0)) (c := f.tails) (q := Jvm.FP.Core.quantum f n 1 0 + 1) ⟨by omega, by omega, hq3⟩
    exact ⟨_, _, q', e, by omega⟩
theorem fp_fin {f : Jvm.FP.Core.Fmt} (h : FpOk f) (i : Int) : (∃ s, Jvm.FP.Core.decode f (Jvm.FP.Core.fromInt f i) = .inf s) ∨ ∃ s c q, Jvm.FP.Core.decode f (Jvm.FP.Core.fromInt f i) = .fin s c q := by
  have hf : fpFit f (Jvm.FP.Core.round f (Jvm.FP.Core.ofInt i)) := fp_rr h
  rcases fp_dec2 h hf with ⟨s, e⟩ | ⟨s, c, q, q', -, e⟩
  · exact Or.inl ⟨s, e⟩
  · exact Or.inr ⟨s, c, q', e⟩
theorem fp_quo {f : Jvm.FP.Core.Fmt} (h : FpOk f) {a b : Nat} (ha : (∃ s, Jvm.FP.Core.decode f a = .inf s) ∨ ∃ s c q, Jvm.FP.Core.decode f a = .fin s c q) (hb : ∃ s c q, Jvm.FP.Core.decode f b = .fin s c q ∧ c ≠ 0) : fpFit f (Jvm.FP.Core.quotient f (Jvm.FP.Core.decode f a) (Jvm.FP.Core.decode f b)) := by
  obtain ⟨t, d, r, eb, hd⟩ := hb
  rw [eb]
  rcases ha with ⟨s, ea⟩ | ⟨s, c, q, ea⟩
  · rw [ea]; exact True.intro
  · rw [ea]
    show fpFit f (if d = 0 then (if c = 0 then .nan else .inf (s != t)) else Jvm.FP.Core.roundRatio f (s != t) c d (q - r))
    rw [if_neg hd]
    exact fp_rr h
theorem fp_bits {f : Jvm.FP.Core.Fmt} (h : FpOk f) {d : Jvm.FP.Core.Datum} (hd : fpFit f d) : Jvm.FP.Core.encode f d % (f.exps * f.tails) ≤ (f.exps - 1) * f.tails ∧ Jvm.FP.Core.encode f d < 2 * (f.exps * f.tails) := by
  have hp := h.p2
  have he := h.e
  have hq := h.q
  have key : ∀ (s : Bool) (E T : Nat), T < f.tails → E < f.exps → E * f.tails + T ≤ (f.exps - 1) * f.tails → Jvm.FP.Core.assemble f s E T % (f.exps * f.tails) ≤ (f.exps - 1) * f.tails ∧ Jvm.FP.Core.assemble f s E T < 2 * (f.exps * f.tails) := by
    intro s E T hT hE hle
    have h1 : Jvm.FP.Core.assemble f s E T = s.toNat * (f.exps * f.tails) + (E * f.tails + T) := by
      unfold Jvm.FP.Core.assemble
      rw [Nat.add_mul, Nat.mul_assoc, Nat.add_assoc]
    have h2 : E * f.tails + T < f.exps * f.tails := by
      have : (f.exps - 1) * f.tails < f.exps * f.tails := Nat.mul_lt_mul_of_pos_right (by omega) h.t
      omega
    rw [h1]
    refine ⟨?_, ?_⟩
    · rw [Nat.mul_comm s.toNat, Nat.mul_add_mod, Nat.mod_eq_of_lt h2]; exact hle
    · cases s
      · rw [show false.toNat = 0 from rfl]; omega
      · rw [show true.toNat = 1 from rfl]; omega
  match d, hd with
  | .inf s, _ => exact key s (f.exps - 1) 0 h.t (by omega) (by omega)
  | .fin s c q, ⟨h1, h2, h3⟩ =>
    rw [fp_enc]
    split
    · rename_i hc
      refine key s 0 c hc (by omega) ?_
      have : 1 * f.tails ≤ (f.exps - 1) * f.tails := Nat.mul_le_mul_right _ (by omega)
      omega
    · have hE : (q - f.qmin).toNat + 1 ≤ f.exps - 2 := by omega
      refine key s _ (c - f.tails) (by omega) (by omega) ?_
      have : ((q - f.qmin).toNat + 1 + 1) * f.tails ≤ (f.exps - 1) * f.tails := Nat.mul_le_mul_right _ (by omega)
      rw [Nat.add_mul] at this
      omega
theorem fp_n32 {d : Jvm.FP.Core.Datum} (hd : fpFit Jvm.FP.Core.b32 d) : vf_n32 (UInt32.ofNat (Jvm.FP.Core.encode Jvm.FP.Core.b32 d)) := by
  obtain ⟨h1, h2⟩ := fp_bits fp32 hd
  have e1 : Jvm.FP.Core.b32.exps * Jvm.FP.Core.b32.tails = 2147483648 := by decide
  have e2 : (Jvm.FP.Core.b32.exps - 1) * Jvm.FP.Core.b32.tails = 2139095040 := by decide
  rw [e1] at h1 h2
  rw [e2] at h1
  unfold vf_n32
  rw [UInt32.le_iff_toNat_le, UInt32.toNat_and, UInt32.toNat_ofNat', Nat.mod_eq_of_lt (by omega), show (0x7fffffff : UInt32).toNat = 2 ^ 31 - 1 from rfl, Nat.and_two_pow_sub_one_eq_mod]
  exact h1
theorem fp_n64 {d : Jvm.FP.Core.Datum} (hd : fpFit Jvm.FP.Core.b64 d) : vf_n64 (UInt64.ofNat (Jvm.FP.Core.encode Jvm.FP.Core.b64 d)) := by
  obtain ⟨h1, h2⟩ := fp_bits fp64 hd
  have e1 : Jvm.FP.Core.b64.exps * Jvm.FP.Core.b64.tails = 9223372036854775808 := by decide
  have e2 : (Jvm.FP.Core.b64.exps - 1) * Jvm.FP.Core.b64.tails = 9218868437227405312 := by decide
  rw [e1] at h1 h2
  rw [e2] at h1
  unfold vf_n64
  rw [UInt64.le_iff_toNat_le, UInt64.toNat_and, UInt64.toNat_ofNat', Nat.mod_eq_of_lt (by omega), show (0x7fffffffffffffff : UInt64).toNat = 2 ^ 63 - 1 from rfl, Nat.and_two_pow_sub_one_eq_mod]
  exact h1
theorem fp_i32 (i : Int) : (UInt32.ofNat (Jvm.FP.Core.fromInt Jvm.FP.Core.b32 i)).toNat = Jvm.FP.Core.fromInt Jvm.FP.Core.b32 i := by
  have h := (fp_bits fp32 (fp_rr fp32 (s := decide (i < 0)) (n := i.natAbs) (d := 1) (e := 0))).2
  rw [UInt32.toNat_ofNat']
  exact Nat.mod_eq_of_lt (by have e1 : Jvm.FP.Core.b32.exps * Jvm.FP.Core.b32.tails = 2147483648 := by decide
                             rw [e1] at h; exact h)
theorem fp_i64 (i : Int) : (UInt64.ofNat (Jvm.FP.Core.fromInt Jvm.FP.Core.b64 i)).toNat = Jvm.FP.Core.fromInt Jvm.FP.Core.b64 i := by
  have h := (fp_bits fp64 (fp_rr fp64 (s := decide (i < 0)) (n := i.natAbs) (d := 1) (e := 0))).2
  rw [UInt64.toNat_ofNat']
  exact Nat.mod_eq_of_lt (by have e1 : Jvm.FP.Core.b64.exps * Jvm.FP.Core.b64.tails = 9223372036854775808 := by decide
                             rw [e1] at h; exact h)
theorem i32_abs (b : Int32) : b.toInt.natAbs < 2 ^ 64 := by have h1 := b.le_toInt; have h2 := b.toInt_lt; omega
theorem i32_ne {b : Int32} (hb : b ≠ 0) : b.toInt ≠ 0 := fun h => hb (Int32.toInt_inj.mp (h.trans rfl))
theorem fp_fdiv (a b : Int32) (hb : b ≠ 0) : vf_n32 (FP.fdiv (FP.i2f a) (FP.i2f b)) := by
  refine fp_n32 ?_
  show fpFit Jvm.FP.Core.b32 (Jvm.FP.Core.quotient Jvm.FP.Core.b32 (Jvm.FP.Core.decode Jvm.FP.Core.b32 (UInt32.ofNat (Jvm.FP.Core.fromInt Jvm.FP.Core.b32 a.toInt)).toNat) (Jvm.FP.Core.decode Jvm.FP.Core.b32 (UInt32.ofNat (Jvm.FP.Core.fromInt Jvm.FP.Core.b32 b.toInt)).toNat))
  rw [fp_i32, fp_i32]
  exact fp_quo fp32 (fp_fin fp32 _) (fp_int fp32 (i32_ne hb) (i32_abs b) (by decide) (by decide) (by decide) (by decide))
theorem fp_ddiv (a b : Int32) (hb : b ≠ 0) : vf_n64 (FP.ddiv (FP.i2d a) (FP.i2d b)) := by
  refine fp_n64 ?_
  show fpFit Jvm.FP.Core.b64 (Jvm.FP.Core.quotient Jvm.FP.Core.b64 (Jvm.FP.Core.decode Jvm.FP.Core.b64 (UInt64.ofNat (Jvm.FP.Core.fromInt Jvm.FP.Core.b64 a.toInt)).toNat) (Jvm.FP.Core.decode Jvm.FP.Core.b64 (UInt64.ofNat (Jvm.FP.Core.fromInt Jvm.FP.Core.b64 b.toInt)).toNat))
  rw [fp_i64, fp_i64]
  exact fp_quo fp64 (fp_fin fp64 _) (fp_int fp64 (i32_ne hb) (i32_abs b) (by decide) (by decide) (by decide) (by decide))
theorem fp_lddiv (a : Int64) (b : Int32) (hb : b ≠ 0) : vf_n64 (FP.ddiv (FP.l2d a) (FP.i2d b)) := by
  refine fp_n64 ?_
  show fpFit Jvm.FP.Core.b64 (Jvm.FP.Core.quotient Jvm.FP.Core.b64 (Jvm.FP.Core.decode Jvm.FP.Core.b64 (UInt64.ofNat (Jvm.FP.Core.fromInt Jvm.FP.Core.b64 a.toInt)).toNat) (Jvm.FP.Core.decode Jvm.FP.Core.b64 (UInt64.ofNat (Jvm.FP.Core.fromInt Jvm.FP.Core.b64 b.toInt)).toNat))
  rw [fp_i64, fp_i64]
  exact fp_quo fp64 (fp_fin fp64 _) (fp_int fp64 (i32_ne hb) (i32_abs b) (by decide) (by decide) (by decide) (by decide))
end FPX
