/-! A TEXT IS LOADED ALIKE: errors, what stays, the state of a loading -/
def er (e p : Int32) (z : xSt) : Prop := z.1 0 26 = e ∧ z.1 0 27 = p ∧ e < 0
section LD3
variable {e p : Int32} {z : xSt}
theorem er.ne (h : er e p z) : ¬ z.1 0 26 = 0 := fun q => by
  have h3 := h.2.2
  rw [← h.1, q] at h3
  exact absurd h3 (by decide)
theorem er.fi (h : er e p z) (P : Prop) [Decidable P] (c : Int32) : er e p (fiZ z P c) := by
  unfold fiZ
  rw [if_neg (fun q => h.ne q.1)]
  exact h
theorem er.go (h : er e p z) : er e p (goZ z) := by
  unfold goZ
  rw [if_neg h.ne]
  exact h
theorem er.u (h : er e p z) {o k : Nat} (v : Int32) (hk : o ≠ 0 ∨ (k ≠ 26 ∧ k ≠ 27)) : er e p (u1 z o k v) := by
  unfold er
  rw [u1_rd, u1_rd, if_neg (by omega), if_neg (by omega)]
  exact h
theorem er.sn (h : er e p z) : er e p (snZ z) := by
  unfold snZ
  split
  · exact (h.fi ..).u _ (by omega)
  · exact (h.fi ..).u _ (by omega)
theorem er.nn (h : er e p z) : er e p (nnZ z) := by unfold nnZ; exact (h.sn.fi ..).go
theorem er.on (h : er e p z) (f n : Nat) : er e p (onZ z f n) := by unfold onZ; exact (h.sn.fi ..).go
theorem er.fg (h : er e p z) (a b : Int32) : er e p (fgZ z a b) := by unfold fgZ; exact (h.fi ..).fi ..
theorem er.mk {P : Prop} [Decidable P] {c : Int32} (h : z.1 0 26 = 0) (hP : P) (hc : c < 0) : er c (z.1 0 22) (fiZ z P c) := by
  unfold fiZ
  rw [if_pos ⟨h, hP⟩]
  refine ⟨?_, u1_self .., hc⟩
  rw [u1_sne _ _ _ (by decide), u1_self]
theorem go_0 (h : z.1 0 26 = 0) : goZ z = nqZ z := if_pos h
theorem nq_26 : (nqZ z).1 0 26 = z.1 0 26 := nq_k (Or.inr (by decide))
theorem sn_y (h : z.1 0 26 = 0) (hn : ¬ (¬ z.1 0 23 = 0 ∨ ¬ z.1 0 24 = (-1) ∨ ¬ aQ z - pQ z ≤ 6)) : snZ z = u1 z 0 25 (ltQ z 6) := by
  unfold snZ
  rw [fi_n hn, if_pos h]
theorem sn_n (h : z.1 0 26 = 0) (hn : (¬ z.1 0 23 = 0 ∨ ¬ z.1 0 24 = (-1) ∨ ¬ aQ z - pQ z ≤ 6)) : er (-11) (z.1 0 22) (snZ z) := by
  have h1 : er (-11) (z.1 0 22) (fiZ z (¬ z.1 0 23 = 0 ∨ ¬ z.1 0 24 = (-1) ∨ ¬ aQ z - pQ z ≤ 6) (-11)) := er.mk h hn (by decide)
  unfold snZ
  rw [if_neg h1.ne]
  exact h1.u _ (by omega)
end LD3
/-! what stays, on the one side and on the other -/
def fC (z z2 : xSt) : Prop := (∀ o, (o < 5 ∨ o = 15 ∨ (19 ≤ o ∧ o < 67) ∨ 115 ≤ o) → z2.1 o = z.1 o) ∧ z2.1 14 1 = z.1 14 1
theorem fC.r0 {z : xSt} : fC z z := ⟨fun _ _ => rfl, rfl⟩
theorem fC.tr {a b c : xSt} (h : fC a b) (g : fC b c) : fC a c := ⟨fun o ho => (g.1 o ho).trans (h.1 o ho), g.2.trans h.2⟩
theorem fC.nx (z : xSt) : fC z (nx z) := ⟨fun o ho => nx_hi (by omega), rfl⟩
theorem fC.u {z z2 : xSt} (h : fC z z2) {o : Nat} (k : Nat) (v : Int32) (ho : o = 17 ∨ o = 18 ∨ (67 ≤ o ∧ o < 115)) : fC z (u1 z2 o k v) := ⟨fun q hq => (u1_ne _ (by omega)).trans (h.1 q hq), by rw [u1_ne _ (by omega)]; exact h.2⟩
theorem fC.ur {z z2 : xSt} (h : fC z z2) {o : Nat} (f : Nat → Int32) (ho : o = 17 ∨ o = 18 ∨ (67 ≤ o ∧ o < 115)) : fC z (ur z2 o f) := ⟨fun q hq => (ur_ne _ _ (by omega)).trans (h.1 q hq), by rw [ur_ne _ _ (by omega)]; exact h.2⟩
theorem fC_mm {z : xSt} {mc : Nat} {nm v : Int32} (h : mc < 8) : fC z (u1 (stM z 1 mc nm) (oB 1) 3 v) := by
  unfold stM
  refine fC.u (fC.ur (fC.ur (fC.ur (fC.ur (fC.ur fC.r0 _ ?_) _ ?_) _ ?_) _ ?_) _ ?_) _ _ ?_
  all_goals simp only [oM, oPt, oLf, oKd, oPd, oB]
  all_goals omega
theorem fC_rdM {z : xSt} : fC z (rdM z).2 := by
  unfold rdM
  split
  · rename_i h1
    split
    · have h2 : fC z (rdM3 (nx z) (bN z 1 3)) := by unfold rdM3; exact ((fC.nx z).tr (fC_mm h1)).tr (fC.nx _)
      dsimp only
      split
      · exact (h2.u _ _ (by simp only [oM]; omega)).tr (fC.nx _)
      · exact h2
    · exact fC.nx z
  · exact fC.r0
theorem fC_rdP {z : xSt} : fC z (rdP z).2 := by
  unfold rdP
  split
  · exact fC.r0
  · split
    · rename_i h1
      split
      · refine fC.tr ?_ (fC.nx _)
        unfold stD
        exact ((fC.nx z).ur _ (by simp only [oD]; omega)).u _ _ (by simp only [oB]; omega)
      · exact fC.nx z
    · exact fC.r0
theorem fC_rdT3 {z : xSt} {m d : Nat} (hm : m < 8) : fC z (rdT3 z m d).2 := by
  unfold rdT3
  split
  · split
    · exact (fC.r0.u _ _ (by simp only [oPt]; omega)).tr (fC.nx _)
    · exact fC.r0
  · exact fC.r0
theorem fC_rdT2 {z : xSt} {m : Nat} (hm : m < 8) : fC z (rdT2 z m).2 := by
  unfold rdT2
  split
  · split
    · exact fC.r0
    · exact (fC.nx z).tr (fC_rdT3 hm)
  · exact fC.r0
theorem fC_rdT1 {z : xSt} (h : bN z 1 3 ≤ 8) : fC z (rdT1 z).2 := by
  unfold rdT1
  split
  · split
    · exact fC.r0
    · rename_i h1
      exact (fC.nx z).tr (fC_rdT2 (by have := (xff_k h h1).2; unfold fM; omega))
  · exact fC.r0
theorem fC_rcN {z : xSt} : fC z (rcN z) := by unfold rcN; split; exact fC.nx z; exact fC.r0
theorem fC_rcS {z : xSt} {d : Nat} : fC z (rcS z d).2 := by
  unfold rcS
  split
  · exact ((fC_rcN (z := z)).u _ _ (Or.inl rfl)).tr (fC.nx _)
  · exact fC_rcN
theorem fC_rcL : ∀ {n d : Nat} {z : xSt}, fC z (rcL n d z).2
  | 0, _, _ => fC.r0
  | n + 1, d, z => by
    rw [rcL_s rfl]
    split
    · exact (fC_rcS (z := z) (d := d)).tr fC_rcL
    · exact fC_rcS
theorem fC.cl {z : xSt} {oR mc dc Y : Nat} (hm : mc ≤ 8) (hd : dc ≤ 4) : fC z (clos z 1 oR mc dc Y) := ⟨fun o ho => frB.clos hm hd o (by omega) (by omega), by rw [frB.clos hm hd 14 (by omega) (by omega)]⟩
theorem fC_rdC {z : xSt} (h : bOk z 1) : fC z (rdC z).2 := by
  unfold rdC
  split
  · split
    · exact ((fC.nx z).tr fC_rcL).tr (fC.cl h.2.1 h.2.2.2.1)
    · exact (fC.nx z).tr fC_rcL
  · exact fC.r0
theorem fC_rdZ1 {z : xSt} : fC z (rdZ1 z).2 := by
  unfold rdZ1
  split
  · exact fC.r0
  · split
    · have h2 : fC z (nx (u1 z 18 (stA z).toNatClampNeg 1)) := (fC.r0.u _ _ (Or.inr (Or.inl rfl))).tr (fC.nx _)
      unfold rdZ2
      split
      · exact (h2.u _ _ (by simp only [oSt]; omega)).tr (fC.nx _)
      · exact h2
    · exact fC.r0
theorem fC_rdS {z : xSt} (h : bOk z 1) : fC z (rdS z).2 := by
  unfold rdS
  repeat' split
  · exact fC_rdM
  · exact fC_rdP
  · exact (fC.nx z).tr (fC_rdT1 (by rw [nx_bN]; exact h.2.1))
  · exact fC_rdC h
  · exact (fC.nx z).tr fC_rdZ1
  · exact fC.r0
/-- the reference: rows 1, 3, 5, 6 and the fields of row 0 beside those of a token, an error, a sum; but field j -/
def fR (j : Nat) (z z2 : xSt) : Prop := (∀ o, (o = 1 ∨ o = 3 ∨ o = 5 ∨ o = 6) → z2.1 o = z.1 o) ∧ ∀ k, (k < 15 ∨ (15 < k ∧ k < 21) ∨ 27 < k) → k ≠ j → z2.1 0 k = z.1 0 k
section LD4
variable {j : Nat} {z z2 : xSt}
theorem fR.r0 : fR j z z := ⟨fun _ _ => rfl, fun _ _ _ => rfl⟩
theorem fR.tr {a b c : xSt} (h : fR j a b) (g : fR j b c) : fR j a c := ⟨fun o ho => (g.1 o ho).trans (h.1 o ho), fun k hk hj => (g.2 k hk hj).trans (h.2 k hk hj)⟩
theorem fR.fi (h : fR j z z2) (P : Prop) [Decidable P] (c : Int32) : fR j z (fiZ z2 P c) := ⟨fun o ho => (fi_o (by omega)).trans (h.1 o ho), fun k hk hj => (fi_k (by omega) (by omega)).trans (h.2 k hk hj)⟩
theorem fR.nq (h : fR j z z2) : fR j z (nqZ z2) := ⟨fun o ho => ((nq_fr z2).1 o (by omega)).trans (h.1 o ho), fun k hk hj => (nq_k (by omega)).trans (h.2 k hk hj)⟩
theorem fR.go (h : fR j z z2) : fR j z (goZ z2) := by unfold goZ; split; exact h.nq; exact h
theorem fR.u (h : fR j z z2) {o k : Nat} (v : Int32) (ho : (o ≠ 0 ∧ o ≠ 1 ∧ o ≠ 3 ∧ o ≠ 5 ∧ o ≠ 6) ∨ (o = 0 ∧ ((20 < k ∧ k < 28) ∨ k = j))) : fR j z (u1 z2 o k v) := ⟨fun q hq => (u1_ne _ (by omega)).trans (h.1 q hq), fun q hq hj => by rw [u1_rd, if_neg (by omega)]; exact h.2 q hq hj⟩
theorem fR.sn (h : fR j z z2) : fR j z (snZ z2) := by
  unfold snZ
  split
  · exact (h.fi ..).u _ (Or.inr ⟨rfl, Or.inl (by omega)⟩)
  · exact (h.fi ..).u _ (Or.inr ⟨rfl, Or.inl (by omega)⟩)
theorem fR.nn (h : fR j z z2) : fR j z (nnZ z2) := by unfold nnZ; exact (h.sn.fi ..).go
theorem fR.on (h : fR j z z2) (f n : Nat) : fR j z (onZ z2 f n) := by unfold onZ; exact (h.sn.fi ..).go
theorem fR.fg (h : fR j z z2) (a b : Int32) : fR j z (fgZ z2 a b) := by unfold fgZ; exact (h.fi ..).fi ..
theorem fR.cl (h : fR j z z2) : fR j z (clQ z2) := ⟨fun o ho => by rw [clQ_oo (by omega), daL_o (by omega) (by omega) (by omega)]; exact h.1 o ho, fun k hk hj => by rw [clQ_0 (by omega)]; exact h.2 k hk hj⟩
theorem fR.zQ (h : fR j z z2) (a b c d : Int32) : fR j z (zQ z2 a b c d) := ⟨fun o ho => by rw [zQ_o (by omega)]; exact h.1 o ho, fun k hk hj => by rw [zQ_o (by omega)]; exact h.2 k hk hj⟩
theorem fR_rmZ : fR j z (rmZ z) := by
  have h3 : fR j z (rm3 z) := by unfold rm3; exact ((fR.r0.fi ..).go).nn
  have h4 : fR j z (rm4 z) := by unfold rm4; split; exact h3.nq; exact h3
  unfold rmZ
  split
  · exact ((h4.u _ (Or.inl (by decide))).u _ (Or.inl (by decide))).u _ (Or.inl (by decide))
  · exact h4
theorem fR_rpZ : fR j z (rpZ z) := by
  have h3 : fR j z (rpF z) := by unfold rpF; exact (((fR.r0.fi ..).fi ..).go).nn
  unfold rpZ
  split
  · exact (h3.u _ (Or.inl (by decide))).u _ (Or.inl (by decide))
  · exact h3
theorem fR_rtZ : fR j z (rtZ z) := by
  have h4 : fR j z (rt4 z) := by unfold rt4; exact ((fR.r0.go.on ..).on ..).fg ..
  have h5 : fR j z (rt5 z) := by unfold rt5; exact h4.fi ..
  have h6 : fR j z (rt6 z) := by unfold rt6; split; exact h5.u _ (Or.inl (by decide)); exact h5
  unfold rtZ
  exact h6.go
theorem fR_rkS (h : fR j z z2) (d : Nat) : fR j z (rkS z2 d) := by
  have h1 : fR j z (rc1 z2) := by unfold rc1; split; exact h.nq; exact h
  unfold rkS rcU
  exact ((h1.fg ..).u _ (Or.inl (by decide))).go
theorem fR_rkL : ∀ {k d : Nat} {z2 : xSt}, fR j z z2 → fR j z (rkL k d z2)
  | 0, _, _, h => h
  | k + 1, d, z2, h => by
    rw [rkL_s rfl]
    split
    · exact fR_rkL (fR_rkS h d)
    · exact h
theorem fR_rc3 : fR j z (rc3 z) := by
  have h0 : fR j z (rc0 z) := by unfold rc0; exact ((fR.r0.fi ..).go).zQ ..
  have h2 : fR j z (rc2 z) := by unfold rc2; exact fR_rkL h0
  unfold rc3
  exact h2.fi ..
theorem fR_rcX : fR j z (rcX z) := by
  unfold rcX
  split
  · exact (fR_rc3 (z := z)).cl
  · exact fR_rc3
theorem fR_rsZ : fR 30 z (rsZ z) := by
  have h3 : fR 30 z (rs3 z) := by unfold rs3 rs2; exact (fR.r0.go.fi ..).fi ..
  have h4 : fR 30 z (rs4 z) := by unfold rs4; exact h3.u _ (Or.inr ⟨rfl, Or.inr rfl⟩)
  have h6 : fR 30 z (rs6 z) := by unfold rs6; exact h4.go.fg ..
  have h7 : fR 30 z (rs7 z) := by unfold rs7; exact h6.u _ (Or.inl (by decide))
  unfold rsZ
  exact h7.go
theorem fR_rdW : fR 30 z (rdW z) := by
  unfold rdW
  repeat' split
  · exact fR_rmZ
  · exact fR_rpZ
  · exact fR_rtZ
  · exact fR_rcX
  · exact fR_rsZ
  · exact fR.r0.fi ..
end LD4
