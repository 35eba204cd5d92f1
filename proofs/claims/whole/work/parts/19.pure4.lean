/-! CLOSING: the states behind its steps -/
abbrev inM (b n o : Nat) : Prop := 27 + 48 * b ≤ o ∧ o < 27 + 48 * b + 5 * n ∧ (o - (27 + 48 * b)) % 5 = 0
def ixM (b o : Nat) : Nat := (o - (27 + 48 * b)) / 5
/-- field j of the first n members by g -/
def mU (z : xSt) (b j : Nat) (g : Nat → Int32) (n : Nat) : xSt := (fun o => if inM b n o then va_up (z.1 o) j (g (ixM b o)) else z.1 o, z.2)
theorem mU_in {z : xSt} {b j n o : Nat} {g : Nat → Int32} (h : inM b n o) : (mU z b j g n).1 o = va_up (z.1 o) j (g (ixM b o)) := if_pos h
theorem mU_out {z : xSt} {b j n o : Nat} {g : Nat → Int32} (h : ¬ inM b n o) : (mU z b j g n).1 o = z.1 o := if_neg h
theorem mU_0 (z : xSt) (b j : Nat) (g : Nat → Int32) : mU z b j g 0 = z := xz_ext (fun o => mU_out (by omega)) rfl
theorem mU_s {z : xSt} {b j i : Nat} {g : Nat → Int32} : u1 (mU z b j g i) (oM b i) j (g i) = mU z b j g (i + 1) := by
  refine xz_ext (fun o => ?_) rfl
  rw [u1_is, ur_1]
  by_cases h1 : o = oM b i
  · rw [if_pos h1, mU_out (by simp only [oM]; omega), mU_in (by simp only [oM] at h1; omega), show ixM b o = i by unfold ixM; simp only [oM] at h1; omega, h1]
  · rw [if_neg h1]
    simp only [oM] at h1
    by_cases h2 : inM b i o
    · rw [mU_in h2, mU_in (by omega)]
    · rw [mU_out h2, mU_out (by omega)]
theorem mU_at {z : xSt} {b j n m : Nat} {g : Nat → Int32} (h : m < n) : (mU z b j g n).1 (oM b m) = va_up (z.1 (oM b m)) j (g m) := by
  rw [mU_in (by simp only [oM]; omega), show ixM b (oM b m) = m by unfold ixM; simp only [oM]; omega]
theorem mU_no {z : xSt} {b j n m : Nat} {g : Nat → Int32} (h : n ≤ m) : (mU z b j g n).1 (oM b m) = z.1 (oM b m) := mU_out (by simp only [oM]; omega)
/-- allocations and recaptures at 0 -/
def clr (z : xSt) (b n : Nat) : xSt := mU (mU z b 4 (fun _ => 0) n) b 5 (fun _ => 0) n
theorem clr_0 (z : xSt) (b : Nat) : clr z b 0 = z := by unfold clr; rw [mU_0, mU_0]
theorem clr_s {z : xSt} {b i : Nat} : u1 (u1 (clr z b i) (oM b i) 4 0) (oM b i) 5 0 = clr z b (i + 1) := by
  unfold clr
  refine xz_ext (fun o => ?_) rfl
  rw [u1_is, ur_1]
  by_cases h1 : o = oM b i
  · subst h1
    rw [if_pos rfl, u1_at, mU_no (Nat.le_refl i), mU_no (Nat.le_refl i), mU_at (Nat.lt_succ_self i), mU_at (Nat.lt_succ_self i)]
  · rw [if_neg h1, u1_ne _ h1]
    simp only [oM] at h1
    by_cases h2 : inM b i o
    · rw [mU_in h2, mU_in (show inM b (i + 1) o by omega), mU_in h2, mU_in (show inM b (i + 1) o by omega)]
    · rw [mU_out h2, mU_out (show ¬ inM b (i + 1) o by omega), mU_out h2, mU_out (show ¬ inM b (i + 1) o by omega)]
/-- the sharing with the weights of n members -/
def adW (z : xSt) (b d n : Nat) : xSt := ur (ur (u1 z 5 3 (nI n)) 6 (pre n (fun m => z.1 (oPt b m) d) (z.1 6))) 7 (pre n (fun _ => 0) (z.1 7))
theorem adW_0 (z : xSt) (b d : Nat) : u1 z 5 3 0 = adW z b d 0 := by
  unfold adW
  rw [pre_0, pre_0]
  refine xz_ext (fun o => ?_) rfl
  rw [ur_1, ur_1]
  by_cases h1 : o = 7
  · rw [if_pos h1, h1]; rfl
  · rw [if_neg h1]
    by_cases h2 : o = 6
    · rw [if_pos h2, h2]; rfl
    · rw [if_neg h2]; rfl
theorem adW_s (z : xSt) (b d i : Nat) : u1 (u1 (u1 (adW z b d i) 6 i (z.1 (oPt b i) d)) 7 i 0) 5 3 (nI (i + 1)) = adW z b d (i + 1) := by
  unfold adW
  refine xz_ext (fun o => ?_) rfl
  rw [ur_1, ur_1]
  by_cases h1 : o = 7
  · subst h1
    rw [if_pos rfl, u1_ne _ (by omega), u1_at, u1_ne _ (by omega), ur_at, ← pre_s]
  · rw [if_neg h1]
    by_cases h2 : o = 6
    · subst h2
      rw [if_pos rfl, u1_ne _ (by omega), u1_ne _ (by omega), u1_at, ur_ne _ _ (by omega), ur_at, ← pre_s]
    · rw [if_neg h2]
      by_cases h3 : o = 5
      · subst h3
        rw [u1_at, u1_ne _ (by omega), u1_ne _ (by omega), ur_ne _ _ (by omega), ur_ne _ _ (by omega), u1_at, u1_at]
        funext j
        unfold va_up
        by_cases h4 : j = 3
        · rw [if_pos h4, if_pos h4]
        · rw [if_neg h4, if_neg h4, if_neg h4]
      · rw [u1_ne _ h3, u1_ne _ h1, u1_ne _ h2, ur_ne _ _ h1, ur_ne _ _ h2, u1_ne _ h3, u1_ne _ h3]
theorem adW_ne {z : xSt} {b d n q : Nat} (h : 9 ≤ q) : (adW z b d n).1 q = z.1 q := by unfold adW; rw [ur_ne _ _ (by omega), ur_ne _ _ (by omega), u1_ne _ (by omega)]
theorem adW_n {z : xSt} {b d n : Nat} : (adW z b d n).1 5 3 = nI n := by unfold adW; rw [ur_ne _ _ (by omega), ur_ne _ _ (by omega), u1_self]
theorem shZ_ne {z : xSt} {a : Int32} {n q : Nat} (h : q ≠ 7) : (shZ z a n).1 q = z.1 q := by
  unfold shZ
  split
  · exact va_up_ne _ _ h
  · rfl
def aloc (z : xSt) (b d : Nat) (am : Int32) (mc : Nat) : xSt :=
  if bx_sum (fun m => z.1 (oPt b m) d) mc = 0 then u1 (u1 (u1 z (oD b d) 2 (bx_sum (fun m => z.1 (oPt b m) d) mc)) (oD b d) 1 0) (oB b) 6 (z.1 (oB b) 6 + am)
  else
    let z5 := shZ (adW (u1 (u1 (u1 z (oD b d) 2 (bx_sum (fun m => z.1 (oPt b m) d) mc)) (oD b d) 1 0) (oD b d) 1 am) b d mc) (if 0 ≤ am then am else -am) mc
    mU z5 b 4 (fun m => z5.1 (oM b m) 4 + (if 0 ≤ am then z5.1 7 m else -z5.1 7 m)) mc
def cashOf (z : xSt) (b m : Nat) : Int32 := if z.1 (oM b m) 1 = 0 then 0 else z.1 (oM b m) 4 * z.1 (oSt b) 0 / 100
def setl (z : xSt) (b m yr : Nat) : xSt :=
  if 0 < z.1 (oM b m) 4 then
    let z1 := u1 z (oPd b m) 0 (z.1 (oPd b m) 0 + cashOf z b m)
    let z2 := if 0 < z.1 (oM b m) 4 - cashOf z b m then u1 (u1 z1 (oLf b m) yr (z.1 (oM b m) 4 - cashOf z b m)) (oKd b m) yr (if z.1 (oM b m) 1 = 0 then 1 else 0) else z1
    u1 z2 (oB b) 7 (z2.1 (oB b) 7 + z.1 (oM b m) 4)
  else if z.1 (oM b m) 4 < 0 then
    let q := rcp 25 (z.1 (oLf b m)) (-z.1 (oM b m) 4)
    u1 (u1 (u1 (ur z (oLf b m) q.1) (oM b m) 5 (-z.1 (oM b m) 4 - q.2)) (oB b) 8 (z.1 (oB b) 8 + (-z.1 (oM b m) 4 - q.2))) (oB b) 6 (z.1 (oB b) 6 - (-z.1 (oM b m) 4 - (-z.1 (oM b m) 4 - q.2)))
  else z
/-- closing's departments, members, installments -/
def keptOf (z : xSt) (b : Nat) (r : Int32) : Int32 := if 0 < r then r * z.1 (oSt b) 1 / 100 else 0
def dpL (z : xSt) (b oR mc : Nat) : Nat → xSt
  | 0 => z
  | d + 1 => aloc (u1 (dpL z b oR mc d) (oB b) 6 ((dpL z b oR mc d).1 (oB b) 6 + keptOf (dpL z b oR mc d) b ((dpL z b oR mc d).1 oR d))) b d ((dpL z b oR mc d).1 oR d - keptOf (dpL z b oR mc d) b ((dpL z b oR mc d).1 oR d)) mc
def stL (z : xSt) (b yr : Nat) : Nat → xSt
  | 0 => z
  | m + 1 => setl (stL z b yr m) b m yr
def inL (z : xSt) (b : Nat) : Nat → xSt
  | 0 => z
  | m + 1 => ur (if (inL z b m).1 (oM b m) 2 = 1 then pIns (inL z b m) b m else inL z b m) (oPt b m) (fun _ => 0)
def clos (z : xSt) (b oR mc dc yr : Nat) : xSt :=
  let z4 := inL (stL (dpL (clr z b mc) b oR mc dc) b yr mc) b mc
  u1 z4 (oB b) 5 (nI (yr + 1))
/-- what the steps leave: of the books' own row all but 6, 7, 8; settings; results -/
def sameB (z z2 : xSt) (b : Nat) : Prop := (∀ k, k ≠ 6 → k ≠ 7 → k ≠ 8 → z2.1 (oB b) k = z.1 (oB b) k) ∧ z2.1 (oSt b) = z.1 (oSt b) ∧ z2.1 1 = z.1 1 ∧ z2.1 17 = z.1 17
theorem sameB.rf {z : xSt} {b : Nat} : sameB z z b := ⟨fun _ _ _ _ => rfl, rfl, rfl, rfl⟩
theorem sameB.tr {z z2 z3 : xSt} {b : Nat} (h : sameB z z2 b) (h2 : sameB z2 z3 b) : sameB z z3 b := ⟨fun k a b c => (h2.1 k a b c).trans (h.1 k a b c), h2.2.1.trans h.2.1, h2.2.2.1.trans h.2.2.1, h2.2.2.2.trans h.2.2.2⟩
theorem sameB.u {z : xSt} {b o k : Nat} {v : Int32} (h : (o = oB b ∧ (k = 6 ∨ k = 7 ∨ k = 8)) ∨ (o ≠ oB b ∧ o ≠ oSt b ∧ o ≠ 1 ∧ o ≠ 17)) : sameB z (u1 z o k v) b := by
  rcases h with ⟨h1, h2⟩ | ⟨h1, h2, h3, h4⟩
  · refine ⟨fun j a1 a2 a3 => ?_, u1_ne _ (by simp only [oB, oSt] at h1 ⊢; omega), u1_ne _ (by simp only [oB] at h1 ⊢; omega), u1_ne _ (by simp only [oB] at h1 ⊢; omega)⟩
    rw [u1_rd, if_neg (by omega)]
  · exact ⟨fun j _ _ _ => by rw [u1_ne _ (Ne.symm h1)], u1_ne _ (Ne.symm h2), u1_ne _ (Ne.symm h3), u1_ne _ (Ne.symm h4)⟩
theorem sameB.r {z : xSt} {b o : Nat} {f : Nat → Int32} (h : o ≠ oB b ∧ o ≠ oSt b ∧ o ≠ 1 ∧ o ≠ 17) : sameB z (ur z o f) b := ⟨fun j _ _ _ => by rw [ur_ne _ _ (Ne.symm h.1)], ur_ne _ _ (Ne.symm h.2.1), ur_ne _ _ (Ne.symm h.2.2.1), ur_ne _ _ (Ne.symm h.2.2.2)⟩
theorem sameB.mu {z : xSt} {b j n : Nat} {g : Nat → Int32} : sameB z (mU z b j g n) b := ⟨fun k _ _ _ => by rw [mU_out (by simp only [oB]; omega)], mU_out (by simp only [oSt]; omega), mU_out (by omega), mU_out (by omega)⟩
theorem sameB_sh {z : xSt} {b d n : Nat} {a : Int32} : sameB z (shZ (adW z b d n) a n) b := by
  refine ⟨fun k _ _ _ => by rw [shZ_ne (by simp only [oB]; omega), adW_ne (by simp only [oB]; omega)], by rw [shZ_ne (by simp only [oSt]; omega), adW_ne (by simp only [oSt]; omega)], ?_, by rw [shZ_ne (by omega), adW_ne (by omega)]⟩
  rw [shZ_ne (by omega)]
  unfold adW
  rw [ur_ne _ _ (by omega), ur_ne _ _ (by omega), u1_ne _ (by omega)]
theorem sameB.aloc {z : xSt} {b d mc : Nat} {am : Int32} (hd : d < 4) : sameB z (aloc z b d am mc) b := by
  have hD : oD b d ≠ oB b ∧ oD b d ≠ oSt b ∧ oD b d ≠ 1 ∧ oD b d ≠ 17 := by simp only [oD, oB, oSt]; omega
  unfold _root_.Jvm.Pilot.@@N@@.aloc
  split
  · exact (sameB.u (Or.inr hD)).tr ((sameB.u (Or.inr hD)).tr (sameB.u (Or.inl ⟨rfl, Or.inl rfl⟩)))
  · exact ((((sameB.u (Or.inr hD)).tr (sameB.u (Or.inr hD))).tr (sameB.u (Or.inr hD))).tr sameB_sh).tr sameB.mu
theorem sameB.dpL {z : xSt} {b oR mc : Nat} : ∀ {d : Nat}, d ≤ 4 → sameB z (dpL z b oR mc d) b
  | 0, _ => sameB.rf
  | d + 1, h => ((sameB.dpL (d := d) (by omega)).tr (sameB.u (Or.inl ⟨rfl, Or.inl rfl⟩))).tr (sameB.aloc (by omega))
theorem sameB.setl {z : xSt} {b m yr : Nat} (hm : m < 8) : sameB z (setl z b m yr) b := by
  have hM : oM b m ≠ oB b ∧ oM b m ≠ oSt b ∧ oM b m ≠ 1 ∧ oM b m ≠ 17 := by simp only [oM, oB, oSt]; omega
  have hP : oPd b m ≠ oB b ∧ oPd b m ≠ oSt b ∧ oPd b m ≠ 1 ∧ oPd b m ≠ 17 := by simp only [oPd, oB, oSt]; omega
  have hL : oLf b m ≠ oB b ∧ oLf b m ≠ oSt b ∧ oLf b m ≠ 1 ∧ oLf b m ≠ 17 := by simp only [oLf, oB, oSt]; omega
  have hK : oKd b m ≠ oB b ∧ oKd b m ≠ oSt b ∧ oKd b m ≠ 1 ∧ oKd b m ≠ 17 := by simp only [oKd, oB, oSt]; omega
  unfold _root_.Jvm.Pilot.@@N@@.setl
  split
  · refine sameB.tr ?_ (sameB.u (Or.inl ⟨rfl, Or.inr (Or.inl rfl)⟩))
    split
    · exact (sameB.u (Or.inr hP)).tr ((sameB.u (Or.inr hL)).tr (sameB.u (Or.inr hK)))
    · exact sameB.u (Or.inr hP)
  · split
    · exact (((sameB.r hL).tr (sameB.u (Or.inr hM))).tr (sameB.u (Or.inl ⟨rfl, Or.inr (Or.inr rfl)⟩))).tr (sameB.u (Or.inl ⟨rfl, Or.inl rfl⟩))
    · exact sameB.rf
theorem sameB.stL {z : xSt} {b yr : Nat} : ∀ {m : Nat}, m ≤ 8 → sameB z (stL z b yr m) b
  | 0, _ => sameB.rf
  | m + 1, h => (sameB.stL (m := m) (by omega)).tr (sameB.setl (by omega))
theorem sameB.pIns {z : xSt} {b m : Nat} (hm : m < 8) : sameB z (pIns z b m) b := by
  have hM : oM b m ≠ oB b ∧ oM b m ≠ oSt b ∧ oM b m ≠ 1 ∧ oM b m ≠ 17 := by simp only [oM, oB, oSt]; omega
  have hP : oPd b m ≠ oB b ∧ oPd b m ≠ oSt b ∧ oPd b m ≠ 1 ∧ oPd b m ≠ 17 := by simp only [oPd, oB, oSt]; omega
  have hL : oLf b m ≠ oB b ∧ oLf b m ≠ oSt b ∧ oLf b m ≠ 1 ∧ oLf b m ≠ 17 := by simp only [oLf, oB, oSt]; omega
  unfold _root_.Jvm.Pilot.@@N@@.pIns
  dsimp only
  split
  · exact (sameB.r hL).tr ((sameB.u (Or.inr hP)).tr (sameB.u (Or.inr hM)))
  · exact (sameB.r hL).tr ((sameB.u (Or.inr hP)).tr ((sameB.u (Or.inr hM)).tr ((sameB.u (Or.inr hM)).tr (sameB.u (Or.inr hM)))))
theorem sameB.inL {z : xSt} {b : Nat} : ∀ {m : Nat}, m ≤ 8 → sameB z (inL z b m) b
  | 0, _ => sameB.rf
  | m + 1, h => by
    have hPt : oPt b m ≠ oB b ∧ oPt b m ≠ oSt b ∧ oPt b m ≠ 1 ∧ oPt b m ≠ 17 := by simp only [oPt, oB, oSt]; omega
    refine (sameB.inL (m := m) (by omega)).tr (sameB.tr ?_ (sameB.r hPt))
    split
    · exact sameB.pIns (by omega)
    · exact sameB.rf
