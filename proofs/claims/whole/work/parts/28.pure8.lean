/-! THE COMPONENT'S OWN METHODS -/
/-- names and consents stay -/
def keM (z z2 : xSt) (b : Nat) : Prop := ∀ m k, m < 8 → k < 2 → z2.1 (oM b m) k = z.1 (oM b m) k
abbrev nM (b o : Nat) : Prop := o < 27 + 48 * b ∨ 67 + 48 * b ≤ o ∨ (o - (27 + 48 * b)) % 5 ≠ 0
theorem keM.rf {z : xSt} {b : Nat} : keM z z b := fun _ _ _ _ => rfl
theorem keM.tr {z z2 z3 : xSt} {b : Nat} (h : keM z z2 b) (h2 : keM z2 z3 b) : keM z z3 b := fun m k a c => (h2 m k a c).trans (h m k a c)
theorem keM.u {z : xSt} {b o k : Nat} {v : Int32} (h : nM b o) : keM z (u1 z o k v) b := fun m j a c => by rw [u1_ne _ (by simp only [oM]; omega)]
theorem keM.k {z : xSt} {b o k : Nat} {v : Int32} (h : 2 ≤ k) : keM z (u1 z o k v) b := fun m j a c => by rw [u1_rd, if_neg (by omega)]
theorem keM.r {z : xSt} {b o : Nat} {f : Nat → Int32} (h : nM b o) : keM z (ur z o f) b := fun m j a c => by rw [ur_ne _ _ (by simp only [oM]; omega)]
theorem keM.mu {z : xSt} {b j n : Nat} {g : Nat → Int32} (h : 2 ≤ j) : keM z (mU z b j g n) b := by
  intro m k a c
  by_cases hn : m < n
  · rw [mU_at hn, va_up_ne _ _ (by omega)]
  · rw [mU_no (by omega)]
theorem keM_sh {z : xSt} {b d n : Nat} {a : Int32} : keM z (shZ (adW z b d n) a n) b := fun m k _ _ => by rw [shZ_ne (by simp only [oM]; omega), adW_ne (by simp only [oM]; omega)]
theorem keM.aloc {z : xSt} {b d mc : Nat} {am : Int32} (hd : d < 4) : keM z (aloc z b d am mc) b := by
  have hD : nM b (oD b d) := by simp only [oD]; omega
  have hB : nM b (oB b) := by simp only [oB]; omega
  unfold _root_.Jvm.Pilot.@@N@@.aloc
  split
  · exact (keM.u hD).tr ((keM.u hD).tr (keM.u hB))
  · exact ((((keM.u hD).tr (keM.u hD)).tr (keM.u hD)).tr keM_sh).tr (keM.mu (by omega))
theorem keM.dpL {z : xSt} {b oR mc : Nat} : ∀ {d : Nat}, d ≤ 4 → keM z (dpL z b oR mc d) b
  | 0, _ => keM.rf
  | d + 1, h => ((keM.dpL (d := d) (by omega)).tr (keM.u (by simp only [oB]; omega))).tr (keM.aloc (by omega))
theorem keM.setl {z : xSt} {b m yr : Nat} (hm : m < 8) : keM z (setl z b m yr) b := by
  have hP : nM b (oPd b m) := by simp only [oPd]; omega
  have hL : nM b (oLf b m) := by simp only [oLf]; omega
  have hK : nM b (oKd b m) := by simp only [oKd]; omega
  have hB : nM b (oB b) := by simp only [oB]; omega
  unfold _root_.Jvm.Pilot.@@N@@.setl
  split
  · refine keM.tr ?_ (keM.u hB)
    split
    · exact (keM.u hP).tr ((keM.u hL).tr (keM.u hK))
    · exact keM.u hP
  · split
    · exact (((keM.r hL).tr (keM.k (by omega))).tr (keM.u hB)).tr (keM.u hB)
    · exact keM.rf
theorem keM.stL {z : xSt} {b yr : Nat} : ∀ {m : Nat}, m ≤ 8 → keM z (stL z b yr m) b
  | 0, _ => keM.rf
  | m + 1, h => (keM.stL (m := m) (by omega)).tr (keM.setl (by omega))
theorem keM.pIns {z : xSt} {b m : Nat} (hm : m < 8) : keM z (pIns z b m) b := by
  have hP : nM b (oPd b m) := by simp only [oPd]; omega
  have hL : nM b (oLf b m) := by simp only [oLf]; omega
  unfold _root_.Jvm.Pilot.@@N@@.pIns
  dsimp only
  split
  · exact (keM.r hL).tr ((keM.u hP).tr (keM.k (by omega)))
  · exact (keM.r hL).tr ((keM.u hP).tr ((keM.k (by omega)).tr ((keM.k (by omega)).tr (keM.k (by omega)))))
theorem keM.inL {z : xSt} {b : Nat} : ∀ {m : Nat}, m ≤ 8 → keM z (inL z b m) b
  | 0, _ => keM.rf
  | m + 1, h => by
    refine (keM.inL (m := m) (by omega)).tr (keM.tr ?_ (keM.r (by simp only [oPt]; omega)))
    split
    · exact keM.pIns (by omega)
    · exact keM.rf
theorem keM.clos {z : xSt} {b oR mc dc yr : Nat} (hm : mc ≤ 8) (hd : dc ≤ 4) : keM z (clos z b oR mc dc yr) b :=
  (((((keM.mu (by omega)).tr (keM.mu (by omega))).tr (keM.dpL hd)).tr (keM.stL hm)).tr (keM.inL hm)).tr (keM.u (by simp only [oB]; omega))
theorem keM.nx {z : xSt} {b : Nat} : keM z (nx z) b := keM.r (by omega)
/-- consents are booleans -/
def cnB (z : xSt) (b : Nat) : Prop := ∀ m, m < 8 → z.1 (oM b m) 1 = 0 ∨ z.1 (oM b m) 1 = 1
theorem keM.cn {z z2 : xSt} {b : Nat} (h : keM z z2 b) (h2 : cnB z b) : cnB z2 b := fun m hm => by rw [h m 1 hm (by omega)]; exact h2 m hm
theorem cnB.of {z z2 : xSt} {b : Nat} (h : cnB z b) (e : ∀ m, m < 8 → z2.1 (oM b m) 1 = z.1 (oM b m) 1) : cnB z2 b := fun m hm => by rw [e m hm]; exact h m hm
theorem cnB_rdM {z : xSt} (h : cnB z 1) (hL : lOk z) : cnB (rdM z).2 1 := by
  unfold rdM
  split
  · rename_i h1
    have h2 : cnB (rdM3 (nx z) (bN z 1 3)) 1 := by
      refine keM.nx.cn ?_
      intro m hm
      rw [u1_ne _ (by simp only [oM, oB]; omega)]
      unfold stM
      rw [ur_ne _ _ (by simp only [oPd, oM]; omega), ur_ne _ _ (by simp only [oKd, oM]; omega), ur_ne _ _ (by simp only [oLf, oM]; omega), ur_ne _ _ (by simp only [oPt, oM]; omega), ur_rd]
      split
      · exact Or.inl rfl
      · exact keM.nx.cn h m hm
    split
    · dsimp only
      split
      · refine keM.nx.cn ?_
        intro m hm
        rw [u1_rd]
        split
        · exact Or.inr rfl
        · exact h2 m hm
      · exact h2
    · exact keM.nx.cn h
  · exact h
theorem cnB_rdP {z : xSt} (h : cnB z 1) (hL : lOk z) : cnB (rdP z).2 1 := by
  unfold rdP
  split
  · exact h
  · split
    · rename_i h1
      split
      · refine keM.nx.cn ((keM.u (by simp only [oB]; omega)).cn ?_)
        exact (keM.r (by simp only [oD]; omega)).cn (keM.nx.cn h)
      · exact keM.nx.cn h
    · exact h
theorem cnB_rdT1 {z : xSt} (h : cnB z 1) (hL : lOk z) : cnB (rdT1 z).2 1 := by
  unfold rdT1
  split
  · split
    · exact h
    · rename_i h1
      have hm : (fM z 1 (ltr z 6)).toNatClampNeg < 8 := by have := (xff_k hL.2.2.1 h1).2; have := hL.2.2.1; unfold fM; omega
      unfold rdT2
      split
      · split
        · exact keM.nx.cn h
        · unfold rdT3
          split
          · split
            · refine keM.nx.cn ((keM.u (by simp only [oPt]; omega)).cn (keM.nx.cn (keM.nx.cn h)))
            · exact keM.nx.cn (keM.nx.cn h)
          · exact keM.nx.cn (keM.nx.cn h)
      · exact keM.nx.cn h
  · exact h
theorem cnB_rcN {z : xSt} (h : cnB z 1) : cnB (rcN z) 1 := by unfold rcN; split; exact keM.nx.cn h; exact h
theorem cnB_rcS {z : xSt} {d : Nat} (h : cnB z 1) : cnB (rcS z d).2 1 := by
  unfold rcS
  split
  · exact keM.nx.cn ((keM.u (by omega)).cn (cnB_rcN h))
  · exact cnB_rcN h
theorem cnB_rcL : ∀ {n d : Nat} {z : xSt}, cnB z 1 → cnB (rcL n d z).2 1
  | 0, _, _, h => h
  | n + 1, d, z, h => by
    rw [rcL_s rfl]
    split
    · exact cnB_rcL (cnB_rcS h)
    · exact cnB_rcS h
theorem cnB_rdC {z : xSt} (h : cnB z 1) (hL : lOk z) : cnB (rdC z).2 1 := by
  unfold rdC
  split
  · split
    · exact (keM.clos hL.2.2.1 hL.2.2.2.2.1).cn (cnB_rcL (keM.nx.cn h))
    · exact cnB_rcL (keM.nx.cn h)
  · exact h
theorem cnB_rdZ1 {z : xSt} (h : cnB z 1) : cnB (rdZ1 z).2 1 := by
  unfold rdZ1
  split
  · exact h
  · split
    · have h2 : cnB (nx (u1 z 18 (stA z).toNatClampNeg 1)) 1 := keM.nx.cn ((keM.u (by omega)).cn h)
      unfold rdZ2
      split
      · exact keM.nx.cn ((keM.u (by simp only [oSt]; omega)).cn h2)
      · exact h2
    · exact h
theorem cnB_rdS {z : xSt} (h : cnB z 1) (hL : lOk z) : cnB (rdS z).2 1 := by
  unfold rdS
  repeat' split
  · exact cnB_rdM h hL
  · exact cnB_rdP h hL
  · exact cnB_rdT1 (keM.nx.cn h) hL.nx
  · exact cnB_rdC h hL
  · exact cnB_rdZ1 (keM.nx.cn h)
  · exact h
theorem rdL_ok : ∀ {n i : Nat} {z : xSt}, cnB z 1 → lOk z → cnB (rdL n i z).2 1 ∧ lOk (rdL n i z).2
  | 0, _, _, h, hL => ⟨h, hL⟩
  | n + 1, i, z, h, hL => by
    rw [rdL_s rfl]
    split
    · exact ⟨h, hL⟩
    · split
      · split
        · exact rdL_ok (keM.nx.cn (cnB_rdS h hL)) (lOk_rdS hL).nx
        · exact ⟨cnB_rdS h hL, lOk_rdS hL⟩
      · exact ⟨cnB_rdS h hL, lOk_rdS hL⟩
theorem rdX_ok {z : xSt} {n q : Nat} (hq : q ≤ 900) (h : cnB z 1) : cnB (rdX z n q).2 1 ∧ lOk (rdX z n q).2 := by
  refine rdL_ok ?_ (lOk_rdO hq)
  unfold rdO opn anew
  exact keM.nx.cn ((keM.u (by omega)).cn ((keM.u (by omega)).cn ((keM.r (by omega)).cn ((keM.r (by simp only [oSt]; omega)).cn ((keM.r (by simp only [oB]; omega)).cn h)))))
/-- books b get what books c hold -/
theorem cpA_B {z : xSt} {b c mc dc : Nat} : (cpA z b c mc dc).1 (oB b) = z.1 (oB c) := by
  rw [cpA_in (by simp only [oB]; omega)]
  exact congrArg z.1 (by simp only [oB]; omega)
theorem cpA_St {z : xSt} {b c mc dc : Nat} : (cpA z b c mc dc).1 (oSt b) = z.1 (oSt c) := by
  rw [cpA_in (by simp only [oSt]; omega)]
  exact congrArg z.1 (by simp only [oSt]; omega)
theorem cpA_lo {z : xSt} {b c mc dc o : Nat} (h : o < 19) : (cpA z b c mc dc).1 o = z.1 o := cpA_out (by omega)
theorem cpA_cn {z : xSt} {b c mc dc : Nat} (h : cnB z b) (h2 : cnB z c) : cnB (cpA z b c mc dc) b := by
  intro m hm
  by_cases hc : cov b mc dc (oM b m)
  · rw [cpA_in hc, show oM b m - 48 * b + 48 * c = oM c m by simp only [oM]; omega]; exact h2 m hm
  · rw [cpA_out hc]; exact h m hm
theorem cpA_bOk {z : xSt} {b c mc dc : Nat} (h : bOk z c) : bOk (cpA z b c mc dc) b := by
  refine bOk_mk (mc := bN z c 3) (dc := bN z c 4) (yr := bN z c 5) ?_ ?_ ?_ h.2.1 h.2.2.2.1 h.2.2.2.2.2 <;> rw [cpA_B]
  · exact h.1
  · exact h.2.2.1
  · exact h.2.2.2.2.1
/-- results handed over -/
def zR (z : xSt) (a b c d : Int32) : xSt := u1 (u1 (u1 (u1 z 1 0 a) 1 1 b) 1 2 c) 1 3 d
theorem zR_ne {z : xSt} {a b c d : Int32} {o : Nat} (h : o ≠ 1) : (zR z a b c d).1 o = z.1 o := by unfold zR; rw [u1_ne _ h, u1_ne _ h, u1_ne _ h, u1_ne _ h]
def mst (dc i : Nat) : Int32 := if i < dc then nI 1000000 else nI 0
abbrev okR (dc : Nat) (f : Nat → Int32) : Prop := ∀ i, i < 4 → -(mst dc i) ≤ f i ∧ f i ≤ mst dc i
def tcZ (z : xSt) (a b c d : Int32) : xSt := clos (cpA (zR z a b c d) 1 0 (bN z 0 3) (bN z 0 4)) 1 1 (bN z 0 3) (bN z 0 4) (bN z 0 5)
def tcY (z : xSt) (a b c d : Int32) : xSt := if okR (bN z 0 4) ((zR z a b c d).1 1) then tcZ z a b c d else zR z a b c d
theorem tcZ_B {z : xSt} {a b c d : Int32} (h : bOk z 0) : (tcZ z a b c d).1 (oB 1) 3 = nI (bN z 0 3) := by
  unfold tcZ
  rw [clos_B h.2.1 h.2.2.2.1 (Or.inl rfl), cpA_B, zR_ne (by decide)]; exact h.1
theorem tcZ_0 {z : xSt} {a b c d : Int32} {o : Nat} (h : bOk z 0) (ho : 7 < o) (ho2 : o < 67) : (tcZ z a b c d).1 o = z.1 o := by
  unfold tcZ
  rw [frB.clos h.2.1 h.2.2.2.1 o (by omega) (by omega), cpA_out (by omega), zR_ne (by omega)]
/-- the first greatest -/
def mxI (f : Nat → Int32) : Nat → Int32 × Int32
  | 0 => ((-1), nI 0)
  | k + 1 => if (mxI f k).1 = (-1) ∨ (mxI f k).2 < f k then (nI k, f k) else mxI f k
theorem mxI_y {f : Nat → Int32} {k : Nat} (h : (mxI f k).1 = (-1) ∨ (mxI f k).2 < f k) : mxI f (k + 1) = (nI k, f k) := if_pos h
theorem mxI_n {f : Nat → Int32} {k : Nat} (h : ¬ ((mxI f k).1 = (-1) ∨ (mxI f k).2 < f k)) : mxI f (k + 1) = mxI f k := if_neg h
def ctN (p : Nat → Bool) : Nat → Nat
  | 0 => 0
  | k + 1 => if p k = true then ctN p k + 1 else ctN p k
theorem ctN_le (p : Nat → Bool) : ∀ n, ctN p n ≤ n
  | 0 => Nat.le_refl _
  | n + 1 => by
    have h := ctN_le p n
    show (if p n = true then ctN p n + 1 else ctN p n) ≤ n + 1
    split <;> omega
theorem ctN_y {p : Nat → Bool} {k : Nat} (h : p k = true) : ctN p (k + 1) = ctN p k + 1 := if_pos h
theorem ctN_n {p : Nat → Bool} {k : Nat} (h : ¬ p k = true) : ctN p (k + 1) = ctN p k := if_neg h
/-- a place among n -/
abbrev inR (x : Int32) (n : Nat) : Prop := ¬ x < 0 ∧ x < nI n
theorem inR_k {x : Int32} {n : Nat} (hn : n < 2147483648) (h : inR x n) : x = nI x.toNatClampNeg ∧ x.toNatClampNeg < n := by
  obtain ⟨j, hj, rfl⟩ := nI_of h.1
  rw [nI_clamp hj]
  exact ⟨rfl, (nI_ltI hj hn).mp h.2⟩
/-! the certificates of a plan -/
theorem cpt_mem {z : xSt} {b y : Nat} {q : Nat × Nat} : ∀ {m : Nat}, q ∈ cpt z b y m → q.1 = y ∧ q.2 < m
  | 0, h => absurd h (List.not_mem_nil)
  | m + 1, h => by
    have h0 : q ∈ (if cR z b b m y then cpt z b y m ++ [(y, m)] else cpt z b y m) := h
    split at h0
    · rcases List.mem_append.mp h0 with h1 | h1
      · have := cpt_mem h1; omega
      · rw [List.mem_singleton.mp h1]; exact ⟨rfl, Nat.lt_succ_self _⟩
    · have := cpt_mem h0; omega
theorem cts_mem {z : xSt} {b mc : Nat} {q : Nat × Nat} : ∀ {y : Nat}, q ∈ cts z b mc y → q.1 < y ∧ q.2 < mc
  | 0, h => absurd h (List.not_mem_nil)
  | y + 1, h => by
    have h0 : q ∈ cts z b mc y ++ cpt z b y mc := h
    rcases List.mem_append.mp h0 with h1 | h1
    · have := cts_mem h1; omega
    · have := cpt_mem h1; omega
def plN (z : xSt) (b mc : Nat) : Nat := (cts z b mc 25).length
def plM (z : xSt) (b mc : Nat) (i : Nat) : Nat := ((cts z b mc 25).getD i (0, 0)).2
def plY (z : xSt) (b mc : Nat) (i : Nat) : Nat := ((cts z b mc 25).getD i (0, 0)).1
theorem plN_le {z : xSt} {b mc : Nat} (hm : mc ≤ 8) : plN z b mc ≤ 200 := cts_len z b hm 25
theorem plZ_mid {z : xSt} {b mc q : Nat} {bud : Int32} (h : 9 ≤ q) (h2 : q ≠ 13) : (plZ z b mc bud).1 q = (cS z b (cts z b mc 25)).1 q := by
  unfold plZ
  dsimp only
  split
  · rw [ur_ne _ _ h2]
  · split
    · exact pbY_hi h h2 25
    · split
      · exact psZ_hi h h2
      · rw [ur_ne _ _ h2]
theorem plZ_hi {z : xSt} {b mc q : Nat} {bud : Int32} (h : 14 ≤ q) : (plZ z b mc bud).1 q = z.1 q := by rw [plZ_mid (by omega) (by omega), cS_hi (by omega)]
theorem plZ_n {z : xSt} {b mc : Nat} {bud : Int32} : (plZ z b mc bud).1 9 5 = nI (plN z b mc) := by rw [plZ_mid (by omega) (by omega)]; exact cS_n
theorem plZ_L {z : xSt} {b mc i : Nat} {bud : Int32} (hm : mc ≤ 8) (hi : i < plN z b mc) : (plZ z b mc bud).1 10 i = nI (plM z b mc i) ∧ plM z b mc i < 8 ∧ (plZ z b mc bud).1 11 i = nI (plY z b mc i) ∧ plY z b mc i < 25 := by
  have hi' : i < (cts z b mc 25).length := hi
  have hg : (cts z b mc 25).getD i (0, 0) ∈ cts z b mc 25 := by
    rw [List.getD_eq_getElem?_getD, List.getElem?_eq_getElem hi']
    exact List.getElem_mem hi'
  have hb := cts_mem hg
  refine ⟨?_, ?_, ?_, hb.1⟩
  · rw [plZ_mid (by omega) (by omega)]
    unfold cS
    rw [ur_ne _ _ (by omega), ur_ne _ _ (by omega), ur_ne _ _ (by omega), ur_at, pre_lt hi']; rfl
  · have : plM z b mc i < mc := hb.2
    omega
  · rw [plZ_mid (by omega) (by omega)]
    unfold cS
    rw [ur_ne _ _ (by omega), ur_ne _ _ (by omega), ur_at, pre_lt hi']; rfl
/-- a redemption carried out -/
def rdm (z : xSt) (b mc : Nat) (bud : Int32) : xSt := crO (plZ z b mc bud) b (plM z b mc) (plY z b mc) (plN z b mc)
theorem crO_B {z : xSt} {b : Nat} {mO yO : Nat → Nat} : ∀ {n : Nat}, (∀ i, i < n → mO i < 8) → (crO z b mO yO n).1 (oB b) = z.1 (oB b)
  | 0, _ => rfl
  | n + 1, h => by
    have h1 := h n (Nat.lt_succ_self n)
    show (u1 (u1 _ _ _ _) _ _ _).1 (oB b) = _
    rw [u1_ne _ (by simp only [oPd, oB]; omega), u1_ne _ (by simp only [oLf, oB]; omega)]
    exact crO_B (fun i hi => h i (by omega))
theorem rdm_B {z : xSt} {b mc : Nat} {bud : Int32} (hm : mc ≤ 8) : (rdm z b mc bud).1 (oB b) = z.1 (oB b) := by
  unfold rdm
  rw [crO_B (fun i hi => (plZ_L (bud := bud) hm hi).2.1), plZ_hi (by simp only [oB]; omega)]
/-- redemptions in a row, in the trial books -/
def rnS (z : xSt) (mc : Nat) (bud : Int32) : xSt := u1 (rdm z 1 mc bud) (oB 1) 5 (z.1 (oB 1) 5 + nI 1)
def eqA (z : xSt) (b mc : Nat) : Int32 := bx_sum (fun m => if z.1 (oM b m) 2 = 0 then bx_sum (z.1 (oLf b m)) 25 else 0) mc
def rnL (mc : Nat) (bud : Int32) : Nat → Nat → xSt → Int32 × xSt
  | 0, _, z => (if eqA z 1 mc = 0 then nI 60 else (-1), z)
  | k + 1, i, z => if eqA z 1 mc = 0 then (nI i, z) else rnL mc bud k (i + 1) (rnS z mc bud)
theorem rnL_s {mc n k i : Nat} {bud : Int32} {z : xSt} (h : n = k + 1) : rnL mc bud n i z = if eqA z 1 mc = 0 then (nI i, z) else rnL mc bud k (i + 1) (rnS z mc bud) := by rw [h]; rfl
theorem rnS_3 {z : xSt} {mc : Nat} {bud : Int32} (hm : mc ≤ 8) : (rnS z mc bud).1 (oB 1) 3 = z.1 (oB 1) 3 := by unfold rnS; rw [u1_sne _ _ _ (by omega), rdm_B hm]
