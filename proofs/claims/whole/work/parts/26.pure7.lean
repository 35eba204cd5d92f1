/-! THE LOADER -/
/-- what a closing of books b leaves alone -/
def frB (z z2 : xSt) (b : Nat) : Prop := ∀ o, (o < 5 ∨ 7 < o) → (o < 19 + 48 * b ∨ 67 + 48 * b ≤ o) → z2.1 o = z.1 o
abbrev inK (b o : Nat) : Prop := (5 ≤ o ∧ o ≤ 7) ∨ (19 + 48 * b ≤ o ∧ o < 67 + 48 * b)
theorem frB.rf {z : xSt} {b : Nat} : frB z z b := fun _ _ _ => rfl
theorem frB.tr {z z2 z3 : xSt} {b : Nat} (h : frB z z2 b) (h2 : frB z2 z3 b) : frB z z3 b := fun o a c => (h2 o a c).trans (h o a c)
theorem frB.u {z : xSt} {b o k : Nat} {v : Int32} (h : inK b o) : frB z (u1 z o k v) b := fun q a c => u1_ne _ (by omega)
theorem frB.r {z : xSt} {b o : Nat} {f : Nat → Int32} (h : inK b o) : frB z (ur z o f) b := fun q a c => ur_ne _ _ (by omega)
theorem frB.mu {z : xSt} {b j n : Nat} {g : Nat → Int32} (hn : n ≤ 8) : frB z (mU z b j g n) b := fun q a c => mU_out (by omega)
theorem frB_sh {z : xSt} {b d n : Nat} {a : Int32} : frB z (shZ (adW z b d n) a n) b := by
  intro o h1 h2
  rw [shZ_ne (by omega)]
  unfold adW
  rw [ur_ne _ _ (by omega), ur_ne _ _ (by omega), u1_ne _ (by omega)]
theorem frB.aloc {z : xSt} {b d mc : Nat} {am : Int32} (hd : d < 4) (hm : mc ≤ 8) : frB z (aloc z b d am mc) b := by
  have hD : inK b (oD b d) := by simp only [oD]; omega
  have hB : inK b (oB b) := by simp only [oB]; omega
  unfold _root_.Jvm.Pilot.@@N@@.aloc
  split
  · exact (frB.u hD).tr ((frB.u hD).tr (frB.u hB))
  · exact ((((frB.u hD).tr (frB.u hD)).tr (frB.u hD)).tr frB_sh).tr (frB.mu hm)
theorem frB.dpL {z : xSt} {b oR mc : Nat} (hm : mc ≤ 8) : ∀ {d : Nat}, d ≤ 4 → frB z (dpL z b oR mc d) b
  | 0, _ => frB.rf
  | d + 1, h => ((frB.dpL hm (d := d) (by omega)).tr (frB.u (by simp only [oB]; omega))).tr (frB.aloc (by omega) hm)
theorem frB.setl {z : xSt} {b m yr : Nat} (hm : m < 8) : frB z (setl z b m yr) b := by
  have hM : inK b (oM b m) := by simp only [oM]; omega
  have hP : inK b (oPd b m) := by simp only [oPd]; omega
  have hL : inK b (oLf b m) := by simp only [oLf]; omega
  have hK : inK b (oKd b m) := by simp only [oKd]; omega
  have hB : inK b (oB b) := by simp only [oB]; omega
  unfold _root_.Jvm.Pilot.@@N@@.setl
  split
  · refine frB.tr ?_ (frB.u hB)
    split
    · exact (frB.u hP).tr ((frB.u hL).tr (frB.u hK))
    · exact frB.u hP
  · split
    · exact (((frB.r hL).tr (frB.u hM)).tr (frB.u hB)).tr (frB.u hB)
    · exact frB.rf
theorem frB.stL {z : xSt} {b yr : Nat} : ∀ {m : Nat}, m ≤ 8 → frB z (stL z b yr m) b
  | 0, _ => frB.rf
  | m + 1, h => (frB.stL (m := m) (by omega)).tr (frB.setl (by omega))
theorem frB.pIns {z : xSt} {b m : Nat} (hm : m < 8) : frB z (pIns z b m) b := by
  have hM : inK b (oM b m) := by simp only [oM]; omega
  have hP : inK b (oPd b m) := by simp only [oPd]; omega
  have hL : inK b (oLf b m) := by simp only [oLf]; omega
  unfold _root_.Jvm.Pilot.@@N@@.pIns
  dsimp only
  split
  · exact (frB.r hL).tr ((frB.u hP).tr (frB.u hM))
  · exact (frB.r hL).tr ((frB.u hP).tr ((frB.u hM).tr ((frB.u hM).tr (frB.u hM))))
theorem frB.inL {z : xSt} {b : Nat} : ∀ {m : Nat}, m ≤ 8 → frB z (inL z b m) b
  | 0, _ => frB.rf
  | m + 1, h => by
    refine (frB.inL (m := m) (by omega)).tr (frB.tr ?_ (frB.r (by simp only [oPt]; omega)))
    split
    · exact frB.pIns (by omega)
    · exact frB.rf
theorem frB.clos {z : xSt} {b oR mc dc yr : Nat} (hm : mc ≤ 8) (hd : dc ≤ 4) : frB z (clos z b oR mc dc yr) b :=
  (((((frB.mu hm).tr (frB.mu hm)).tr (frB.dpL hm hd)).tr (frB.stL hm)).tr (frB.inL hm)).tr (frB.u (by simp only [oB]; omega))
theorem sameB.clr {z : xSt} {b n : Nat} : sameB z (clr z b n) b := sameB.mu.tr sameB.mu
theorem clos_B {z : xSt} {b oR mc dc yr k : Nat} (hm : mc ≤ 8) (hd : dc ≤ 4) (h : k = 3 ∨ k = 4) : (clos z b oR mc dc yr).1 (oB b) k = z.1 (oB b) k := by
  have h1 : sameB z (inL (stL (dpL (clr z b mc) b oR mc dc) b yr mc) b mc) b := ((sameB.clr.tr (sameB.dpL hd)).tr (sameB.stL hm)).tr (sameB.inL hm)
  show (u1 (inL (stL (dpL (clr z b mc) b oR mc dc) b yr mc) b mc) (oB b) 5 (nI (yr + 1))).1 (oB b) k = _
  rw [u1_sne _ _ _ (by omega)]
  exact h1.1 k (by omega) (by omega) (by omega)
theorem clos_5 {z : xSt} {b oR mc dc yr : Nat} : (clos z b oR mc dc yr).1 (oB b) 5 = nI (yr + 1) := u1_self ..
/-- counters of books -/
def bN (z : xSt) (b k : Nat) : Nat := (z.1 (oB b) k).toNatClampNeg
def bOk (z : xSt) (b : Nat) : Prop := z.1 (oB b) 3 = nI (bN z b 3) ∧ bN z b 3 ≤ 8 ∧ z.1 (oB b) 4 = nI (bN z b 4) ∧ bN z b 4 ≤ 4 ∧ z.1 (oB b) 5 = nI (bN z b 5) ∧ bN z b 5 ≤ 24
theorem bOk_mk {z : xSt} {b mc dc yr : Nat} (h3 : z.1 (oB b) 3 = nI mc) (h4 : z.1 (oB b) 4 = nI dc) (h5 : z.1 (oB b) 5 = nI yr) (hm : mc ≤ 8) (hd : dc ≤ 4) (hy : yr ≤ 24) : bOk z b := by
  have e3 : bN z b 3 = mc := by unfold bN; rw [h3]; exact nI_clamp (by omega)
  have e4 : bN z b 4 = dc := by unfold bN; rw [h4]; exact nI_clamp (by omega)
  have e5 : bN z b 5 = yr := by unfold bN; rw [h5]; exact nI_clamp (by omega)
  refine ⟨by rw [e3]; exact h3, by rw [e3]; exact hm, by rw [e4]; exact h4, by rw [e4]; exact hd, by rw [e5]; exact h5, by rw [e5]; exact hy⟩
theorem bOk.of {z z2 : xSt} {b : Nat} (h : bOk z b) (e : z2.1 (oB b) = z.1 (oB b)) : bOk z2 b := by
  unfold bOk bN at h ⊢
  rw [e]; exact h
/-- the loader's state: tokens, and the books it fills -/
def lOk (z : xSt) : Prop := tOk z ∧ bOk z 1
theorem lOk.nx {z : xSt} (h : lOk z) : lOk (nx z) := ⟨nx_ok h.1.pre, h.2.of (nx_hi (by decide))⟩
theorem lOk.of {z z2 : xSt} (h : lOk z) (e1 : z2.1 14 = z.1 14) (e2 : z2.1 (oB 1) = z.1 (oB 1)) : lOk z2 := ⟨h.1.of e1, h.2.of e2⟩
def fM (z : xSt) (b : Nat) (nm : Int32) : Int32 := xff (fun m => decide (z.1 (oM b m) 0 = nm)) (bN z b 3) 0
def fD (z : xSt) (b : Nat) (nm : Int32) : Int32 := xff (fun m => decide (z.1 (oD b m) 0 = nm)) (bN z b 4) 0
theorem xff_n {p : Nat → Bool} : ∀ {n i : Nat}, i + n < 1000 → ¬ xff p n i < 0 → ∃ k, k < i + n ∧ xff p n i = nI k
  | 0, i, _, h => absurd (show ((-1) : Int32) < 0 by decide) h
  | n + 1, i, hb, h => by
    rw [xff_s rfl] at h ⊢
    split at h
    · rename_i h1
      rw [if_pos h1]; exact ⟨i, by omega, rfl⟩
    · rename_i h1
      rw [if_neg h1]
      obtain ⟨k, hk, e⟩ := xff_n (n := n) (i := i + 1) (by omega) h
      exact ⟨k, by omega, e⟩
theorem xff_k {p : Nat → Bool} {n : Nat} (hn : n ≤ 8) (h : ¬ xff p n 0 < 0) : xff p n 0 = nI (xff p n 0).toNatClampNeg ∧ (xff p n 0).toNatClampNeg < n := by
  obtain ⟨k, hk, e⟩ := xff_n (i := 0) (by omega) h
  rw [e, nI_clamp (by omega)]
  exact ⟨rfl, by omega⟩
theorem pr2 {q : Int32 × xSt} {a : Int32} {z : xSt} (h : q = (a, z)) : a = q.1 ∧ z = q.2 := by rw [h]; exact ⟨rfl, rfl⟩
def cI (z : xSt) (a b : Int32) : Int32 := if tN z 3 = 2 then (if intg z < a ∨ b < intg z then (-12) else 0) else (-11)
def cNN (z : xSt) : Int32 := if isNm z then (if ¬ fM z 1 (ltr z 6) < 0 ∨ ¬ fD z 1 (ltr z 6) < 0 then (-14) else 0) else (-11)
/-- member -/
def rdM3 (z : xSt) (mc : Nat) : xSt := nx (u1 (stM z 1 mc (ltr z 6)) (oB 1) 3 (nI (mc + 1)))
def rdM (z : xSt) : Int32 × xSt := if bN z 1 3 < 8 then (if cNN (nx z) = 0 then (0, if isW (rdM3 (nx z) (bN z 1 3)) "consent" then nx (u1 (rdM3 (nx z) (bN z 1 3)) (oM 1 (bN z 1 3)) 1 1) else rdM3 (nx z) (bN z 1 3)) else (cNN (nx z), nx z)) else ((-16), z)
/-- section -/
def rdP (z : xSt) : Int32 × xSt := if 0 < bN z 1 5 then ((-15), z) else if bN z 1 4 < 4 then (if cNN (nx z) = 0 then (0, nx (u1 (stD (nx z) 1 (bN z 1 4) (ltr (nx z) 6)) (oB 1) 4 (nI (bN z 1 4 + 1)))) else (cNN (nx z), nx z)) else ((-16), z)
/-- trade: behind the two names -/
def rdT3 (z : xSt) (m d : Nat) : Int32 × xSt := if cI z 1 100000 = 0 then (if z.1 (oPt 1 m) d + intg z ≤ nI 1000000 then (0, nx (u1 z (oPt 1 m) d (z.1 (oPt 1 m) d + intg z))) else ((-16), z)) else (cI z 1 100000, z)
def rdT2 (z : xSt) (m : Nat) : Int32 × xSt := if isNm z then (if fD z 1 (ltr z 6) < 0 then ((-13), z) else rdT3 (nx z) m (fD z 1 (ltr z 6)).toNatClampNeg) else ((-11), z)
def rdT1 (z : xSt) : Int32 × xSt := if isNm z then (if fM z 1 (ltr z 6) < 0 then ((-13), z) else rdT2 (nx z) (fM z 1 (ltr z 6)).toNatClampNeg) else ((-11), z)
/-- close -/
def rcN (z : xSt) : xSt := if tN z 3 = 4 then nx z else z
def rcS (z : xSt) (d : Nat) : Int32 × xSt := if cI (rcN z) 0 1000000 = 0 then (0, nx (u1 (rcN z) 17 d (if tN z 3 = 4 then -intg (rcN z) else intg (rcN z)))) else (cI (rcN z) 0 1000000, rcN z)
def rcL : Nat → Nat → xSt → Int32 × xSt
  | 0, _, z => (0, z)
  | k + 1, d, z => if (rcS z d).1 = 0 then rcL k (d + 1) (rcS z d).2 else rcS z d
theorem rcL_s {n k d : Nat} {z : xSt} (h : n = k + 1) : rcL n d z = if (rcS z d).1 = 0 then rcL k (d + 1) (rcS z d).2 else rcS z d := by rw [h]; rfl
def rdC (z : xSt) : Int32 × xSt := if bN z 1 5 < 24 then (if (rcL (bN z 1 4) 0 (nx z)).1 = 0 then (0, clos (rcL (bN z 1 4) 0 (nx z)).2 1 17 (bN z 1 3) (bN z 1 4) (bN z 1 5)) else rcL (bN z 1 4) 0 (nx z)) else ((-16), z)
/-- set -/
def stA (z : xSt) : Int32 := if isW z "cash" then 0 else if isW z "reserve" then 1 else if isW z "years" then 2 else if isW z "keep" then 3 else if isW z "policy" then 4 else (-1)
def rdZ2 (z : xSt) (k : Nat) : Int32 × xSt := if cI z (xLea k) (xGre k) = 0 then (0, nx (u1 z (oSt 1) k (intg z))) else (cI z (xLea k) (xGre k), z)
def rdZ1 (z : xSt) : Int32 × xSt := if stA z < 0 then ((-11), z) else if z.1 18 (stA z).toNatClampNeg = 0 then rdZ2 (nx (u1 z 18 (stA z).toNatClampNeg 1)) (stA z).toNatClampNeg else ((-14), z)
theorem stA_k {z : xSt} (h : ¬ stA z < 0) : stA z = nI (stA z).toNatClampNeg ∧ (stA z).toNatClampNeg < 5 := by
  revert h
  unfold stA
  repeat' split
  all_goals first | (intro _; exact ⟨rfl, by decide⟩) | (intro h; exact absurd (by decide) h)
/-- a line of the text -/
def rdS (z : xSt) : Int32 × xSt := if isW z "member" then rdM z else if isW z "section" then rdP z else if isW z "trade" then rdT1 (nx z) else if isW z "close" then rdC z else if isW z "set" then rdZ1 (nx z) else ((-11), z)
def rdL : Nat → Nat → xSt → Int32 × xSt
  | 0, i, z => (nI i, z)
  | k + 1, i, z => if tN z 3 = 0 then (nI i, z) else if (rdS z).1 = 0 then (if tN (rdS z).2 3 = 3 then rdL k (i + 1) (nx (rdS z).2) else ((-11), (rdS z).2)) else rdS z
theorem rdL_s {n k i : Nat} {z : xSt} (h : n = k + 1) : rdL n i z = if tN z 3 = 0 then (nI i, z) else if (rdS z).1 = 0 then (if tN (rdS z).2 3 = 3 then rdL k (i + 1) (nx (rdS z).2) else ((-11), (rdS z).2)) else rdS z := by rw [h]; rfl
def anew (z : xSt) (b : Nat) : xSt := ur (ur z (oB b) (fun _ => 0)) (oSt b) xIni
def rdO (z : xSt) (n q : Nat) : xSt := opn (ur (anew z 1) 18 (fun _ => 0)) n q
def rdX (z : xSt) (n q : Nat) : Int32 × xSt := rdL 900 0 (rdO z n q)
/-! the loader's state goes on -/
theorem lOk_rdM3 {z : xSt} {mc : Nat} (h : lOk z) (e : bN z 1 3 = mc) (hm : mc < 8) : lOk (rdM3 z mc) := by
  refine lOk.nx ⟨h.1.of ?_, ?_⟩
  · rw [u1_ne _ (by decide)]
    unfold stM
    rw [ur_ne _ _ (by simp only [oPd]; omega), ur_ne _ _ (by simp only [oKd]; omega), ur_ne _ _ (by simp only [oLf]; omega), ur_ne _ _ (by simp only [oPt]; omega), ur_ne _ _ (by simp only [oM]; omega)]
  · have hr : (stM z 1 mc (ltr z 6)).1 (oB 1) = z.1 (oB 1) := by
      unfold stM
      rw [ur_ne _ _ (by simp only [oPd, oB]; omega), ur_ne _ _ (by simp only [oKd, oB]; omega), ur_ne _ _ (by simp only [oLf, oB]; omega), ur_ne _ _ (by simp only [oPt, oB]; omega), ur_ne _ _ (by simp only [oM, oB]; omega)]
    refine bOk_mk (mc := mc + 1) (dc := bN z 1 4) (yr := bN z 1 5) (u1_self ..) ?_ ?_ (by omega) h.2.2.2.2.1 h.2.2.2.2.2.2
    · rw [u1_sne _ _ _ (by omega), hr]; exact h.2.2.2.1
    · rw [u1_sne _ _ _ (by omega), hr]; exact h.2.2.2.2.2.1
theorem nx_bN {z : xSt} {b k : Nat} : bN (nx z) b k = bN z b k := by unfold bN; rw [nx_hi (by simp only [oB]; omega)]
theorem lOk_rdM {z : xSt} (h : lOk z) : lOk (rdM z).2 := by
  unfold rdM
  split
  · rename_i h1
    split
    · have h2 := lOk_rdM3 (z := nx z) (mc := bN z 1 3) h.nx nx_bN h1
      dsimp only
      split
      · exact lOk.nx (h2.of (u1_ne _ (by simp only [oM]; omega)) (u1_ne _ (by simp only [oM, oB]; omega)))
      · exact h2
    · exact h.nx
  · exact h
theorem lOk_rdP {z : xSt} (h : lOk z) : lOk (rdP z).2 := by
  unfold rdP
  split
  · exact h
  · split
    · rename_i h1
      split
      · have h2 := h.nx
        have e5 := nx_bN (z := z) (b := 1) (k := 5)
        have e3 := nx_bN (z := z) (b := 1) (k := 3)
        refine lOk.nx ⟨h2.1.of ?_, ?_⟩
        · rw [u1_ne _ (by decide)]; unfold stD; rw [ur_ne _ _ (by simp only [oD]; omega)]
        · have hr : (stD (nx z) 1 (bN z 1 4) (ltr (nx z) 6)).1 (oB 1) = (nx z).1 (oB 1) := by unfold stD; rw [ur_ne _ _ (by simp only [oD, oB]; omega)]
          refine bOk_mk (mc := bN (nx z) 1 3) (dc := bN z 1 4 + 1) (yr := bN (nx z) 1 5) ?_ (u1_self ..) ?_ h2.2.2.1 (by omega) h2.2.2.2.2.2.2
          · rw [u1_sne _ _ _ (by omega), hr]; exact h2.2.1
          · rw [u1_sne _ _ _ (by omega), hr]; exact h2.2.2.2.2.2.1
      · exact h.nx
    · exact h
theorem lOk_rdT3 {z : xSt} {m d : Nat} (h : lOk z) (hm : m < 8) : lOk (rdT3 z m d).2 := by
  unfold rdT3
  split
  · split
    · exact lOk.nx (h.of (u1_ne _ (by simp only [oPt]; omega)) (u1_ne _ (by simp only [oPt, oB]; omega)))
    · exact h
  · exact h
theorem lOk_rdT2 {z : xSt} {m : Nat} (h : lOk z) (hm : m < 8) : lOk (rdT2 z m).2 := by
  unfold rdT2
  split
  · split
    · exact h
    · exact lOk_rdT3 h.nx hm
  · exact h
theorem lOk_rdT1 {z : xSt} (h : lOk z) : lOk (rdT1 z).2 := by
  unfold rdT1
  split
  · split
    · exact h
    · rename_i h1
      exact lOk_rdT2 h.nx (by have := (xff_k h.2.2.1 h1).2; have := h.2.2.1; unfold fM; omega)
  · exact h
theorem lOk_rcN {z : xSt} (h : lOk z) : lOk (rcN z) := by unfold rcN; split; exact h.nx; exact h
theorem lOk_rcS {z : xSt} {d : Nat} (h : lOk z) : lOk (rcS z d).2 := by
  unfold rcS
  split
  · exact lOk.nx ((lOk_rcN h).of (u1_ne _ (by omega)) (u1_ne _ (by simp only [oB]; omega)))
  · exact lOk_rcN h
theorem lOk_rcL {z : xSt} : ∀ {n d : Nat} {z : xSt}, lOk z → lOk (rcL n d z).2
  | 0, _, _, h => h
  | n + 1, d, z, h => by
    rw [rcL_s rfl]
    split
    · exact lOk_rcL (z := z) (lOk_rcS h)
    · exact lOk_rcS h
theorem rcN_B {z : xSt} : (rcN z).1 (oB 1) = z.1 (oB 1) := by
  unfold rcN
  split
  · exact nx_hi (by decide)
  · rfl
theorem rcS_B {z : xSt} {d : Nat} : (rcS z d).2.1 (oB 1) = z.1 (oB 1) := by
  unfold rcS
  split
  · dsimp only; rw [nx_hi (by decide), u1_ne _ (by decide)]; exact rcN_B
  · exact rcN_B
theorem rcL_B : ∀ {n d : Nat} {z : xSt}, (rcL n d z).2.1 (oB 1) = z.1 (oB 1)
  | 0, _, _ => rfl
  | n + 1, d, z => by
    rw [rcL_s rfl]
    split
    · rw [rcL_B, rcS_B]
    · exact rcS_B
theorem lOk_rdC {z : xSt} (h : lOk z) : lOk (rdC z).2 := by
  unfold rdC
  split
  · rename_i h1
    have h2 : lOk (rcL (bN z 1 4) 0 (nx z)).2 := lOk_rcL (z := z) h.nx
    have hB : (rcL (bN z 1 4) 0 (nx z)).2.1 (oB 1) = z.1 (oB 1) := by rw [rcL_B, nx_hi (by decide)]
    have h3 := h.2.2.1
    have h4 := h.2.2.2.2.1
    split
    · refine ⟨h2.1.of (frB.clos h3 h4 14 (by omega) (by omega)), bOk_mk (mc := bN z 1 3) (dc := bN z 1 4) (yr := bN z 1 5 + 1) ?_ ?_ clos_5 h3 h4 (by omega)⟩
      · dsimp only; rw [clos_B h3 h4 (Or.inl rfl), hB]; exact h.2.1
      · dsimp only; rw [clos_B h3 h4 (Or.inr rfl), hB]; exact h.2.2.2.1
    · exact h2
  · exact h
theorem lOk_rdZ1 {z : xSt} (h : lOk z) : lOk (rdZ1 z).2 := by
  unfold rdZ1
  split
  · exact h
  · split
    · have h2 : lOk (nx (u1 z 18 (stA z).toNatClampNeg 1)) := lOk.nx (h.of (u1_ne _ (by omega)) (u1_ne _ (by simp only [oB]; omega)))
      unfold rdZ2
      split
      · exact lOk.nx (h2.of (u1_ne _ (by simp only [oSt]; omega)) (u1_ne _ (by simp only [oSt, oB]; omega)))
      · exact h2
    · exact h
theorem lOk_rdS {z : xSt} (h : lOk z) : lOk (rdS z).2 := by
  unfold rdS
  repeat' split
  · exact lOk_rdM h
  · exact lOk_rdP h
  · exact lOk_rdT1 h.nx
  · exact lOk_rdC h
  · exact lOk_rdZ1 h.nx
  · exact h
theorem lOk_rdO {z : xSt} {n q : Nat} (hq : q ≤ 900) : lOk (rdO z n q) := by
  refine ⟨nx_ok (opn_pre hq), ?_⟩
  have hB : (rdO z n q).1 (oB 1) = fun _ => 0 := by
    unfold rdO opn anew
    rw [nx_hi (by decide), u1_ne _ (by decide), u1_ne _ (by decide), ur_ne _ _ (by decide), ur_ne _ _ (by decide), ur_at]
  exact bOk_mk (mc := 0) (dc := 0) (yr := 0) (by rw [hB]; rfl) (by rw [hB]; rfl) (by rw [hB]; rfl) (by omega) (by omega) (by omega)
theorem pr3 {q q2 : Int32 × xSt} (h : q = q2) : q2.1 = q.1 ∧ q2.2 = q.2 := by rw [h]; exact ⟨rfl, rfl⟩
theorem rdL_0 {n i : Nat} {z : xSt} (h : tN z 3 = 0) : rdL n i z = (nI i, z) := by
  cases n with
  | zero => rfl
  | succ k => rw [rdL_s rfl, if_pos h]
theorem tOk_aM {z : xSt} {mc : Nat} {nm v : Int32} (h : tOk z) (hm : mc < 8) : tOk (u1 (stM z 1 mc nm) (oB 1) 3 v) := by
  refine h.of ?_
  rw [u1_ne _ (by decide)]
  unfold stM
  rw [ur_ne _ _ (by simp only [oPd]; omega), ur_ne _ _ (by simp only [oKd]; omega), ur_ne _ _ (by simp only [oLf]; omega), ur_ne _ _ (by simp only [oPt]; omega), ur_ne _ _ (by simp only [oM]; omega)]
theorem tOk_aD {z : xSt} {dc : Nat} {nm v : Int32} (h : tOk z) (hd : dc < 4) : tOk (u1 (stD z 1 dc nm) (oB 1) 4 v) := by
  refine h.of ?_
  rw [u1_ne _ (by decide)]
  unfold stD
  rw [ur_ne _ _ (by simp only [oD]; omega)]
