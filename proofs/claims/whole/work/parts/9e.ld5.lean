/-! A TEXT IS LOADED ALIKE: names, figures, statements -/
def gvR (g : Nat → Int32) (x : Int32) : Prop := ∃ b : Nat, b < 32 ∧ x = nI b ∧ ∀ k, k < 5 → (g k = 0 ↔ ¬ nI b >>> (nI k &&& 31) &&& nI 1 = nI 1)
theorem gv_t : ∀ b, b < 32 → ∀ k, k < 5 → (b ||| (1 <<< k)) < 32 ∧ nI b ||| (nI 1 <<< (nI k &&& 31)) = nI (b ||| (1 <<< k)) ∧ ∀ j, j < 5 → (nI (b ||| (1 <<< k)) >>> (nI j &&& 31) &&& nI 1 = nI 1 ↔ (j = k ∨ nI b >>> (nI j &&& 31) &&& nI 1 = nI 1)) := by decide +kernel
def lR (n mc dc Y : Nat) (zc zm : xSt) : Prop := tR n zc zm ∧ zm.1 0 26 = 0 ∧ (eqB zc 1 mc dc (zm.1 2) (zm.1 4) ∧ rI mc dc Y (zm.1 2) (zm.1 4) ∧ Y ≤ 24) ∧ hiZ mc dc (zm.1 4) ∧ gvR (zc.1 18) (zm.1 0 30)
/-- how a statement ends on both sides -/
def oK (n : Nat) (q : Int32 × xSt) (zm : xSt) : Prop :=
  (q.1 = 0 ∧ ∃ mc dc Y, lR n mc dc Y q.2 zm) ∨ (q.1 < 0 ∧ er q.1 (q.2.1 14 4) zm) ∨ (q.1 = 0 ∧ ¬ tN q.2 3 = 3 ∧ er (-11) (q.2.1 14 4) zm)
theorem xff_lt {p : Nat → Bool} {n : Nat} (h : n ≤ 8) : xff p n 0 < 0 ↔ xff p n 0 = (-1) := by
  rcases xff_m (p := p) (n := n) (i := 0) (by omega) with q | q
  · exact ⟨fun _ => q, fun _ => by rw [q]; decide⟩
  · exact ⟨fun h => absurd h q, fun h => absurd (show xff p n 0 < 0 by rw [h]; decide) q⟩
section LD5
variable {n mc dc Y : Nat} {zc zm : xSt}
theorem eqB.nx (h : eqB zc 1 mc dc (zm.1 2) (zm.1 4)) (h8 : mc ≤ 8) (h4 : dc ≤ 4) : eqB (nx zc) 1 mc dc ((nqZ zm).1 2) ((nqZ zm).1 4) := by
  rw [(nq_fr zm).1 2 (by decide), (nq_fr zm).1 4 (by decide)]
  exact h.fr (fun o h1 h2 => nx_hi (by omega)) h8 h4
/-- a new name -/
theorem nn_R (h : tR n zc zm) (h0 : zm.1 0 26 = 0) (hE : eqB zc 1 mc dc (zm.1 2) (zm.1 4)) (hI : rI mc dc Y (zm.1 2) (zm.1 4)) (hY : Y ≤ 24) :
    (cNN zc = 0 ∧ snZ zm = u1 zm 0 25 (ltr zc 6) ∧ nnZ zm = nqZ (u1 zm 0 25 (ltr zc 6))) ∨ (¬ cNN zc = 0 ∧ cNN zc < 0 ∧ er (cNN zc) (zc.1 14 4) (nnZ zm)) := by
  obtain ⟨hB, em, ed, eY⟩ := hE.ok hI hY
  obtain ⟨hO, qm, qd, qY⟩ := hI.ok hY
  have h8 : mc ≤ 8 := hI.1.2.1
  have h4 : dc ≤ 4 := hI.1.2.2.2.1
  by_cases c : isNm zc
  · have es : snZ zm = u1 zm 0 25 (ltr zc 6) := by rw [h.lt c.1 6]; exact sn_y h0 (h.nm.mp c)
    have e26 : (u1 zm 0 25 (ltr zc 6)).1 0 26 = 0 := by rw [u1_sne _ _ _ (by decide)]; exact h0
    have x1 : xff (fun k => decide ((u1 zm 0 25 (ltr zc 6)).1 2 (0 + k) = (u1 zm 0 25 (ltr zc 6)).1 0 25)) (mQ (u1 zm 0 25 (ltr zc 6)) 12) 0 = fM zc 1 (ltr zc 6) := by
      unfold fM
      rw [em, show mQ (u1 zm 0 25 (ltr zc 6)) 12 = mc from qm, u1_self]
      refine xff_cong (fun j _ hj => ?_)
      rw [u1_ne _ (by decide), Nat.zero_add, (hE.2.2.1 j (by omega)).1]
    have x2 : xff (fun k => decide ((u1 zm 0 25 (ltr zc 6)).1 2 (8 + k) = (u1 zm 0 25 (ltr zc 6)).1 0 25)) (mQ (u1 zm 0 25 (ltr zc 6)) 13) 0 = fD zc 1 (ltr zc 6) := by
      unfold fD
      rw [ed, show mQ (u1 zm 0 25 (ltr zc 6)) 13 = dc from qd, u1_self]
      refine xff_cong (fun j _ hj => ?_)
      rw [u1_ne _ (by decide), (hE.2.2.2.2.2.2.2 j (by omega)).1]
    have l1 : fM zc 1 (ltr zc 6) < 0 ↔ fM zc 1 (ltr zc 6) = (-1) := by unfold fM; exact xff_lt (by omega)
    have l2 : fD zc 1 (ltr zc 6) < 0 ↔ fD zc 1 (ltr zc 6) = (-1) := by unfold fD; exact xff_lt (by omega)
    by_cases d : ¬ fM zc 1 (ltr zc 6) < 0 ∨ ¬ fD zc 1 (ltr zc 6) < 0
    · have eC : cNN zc = (-14) := by unfold cNN; rw [if_pos c, if_pos d]
      refine Or.inr ⟨by rw [eC]; decide, by rw [eC]; decide, ?_⟩
      rw [eC]
      unfold nnZ
      rw [es]
      have k1 := er.mk (z := u1 zm 0 25 (ltr zc 6)) (P := (u1 zm 0 25 (ltr zc 6)).1 0 26 = 0 ∧ hdQ (u1 zm 0 25 (ltr zc 6))) (c := -14) e26 ⟨e26, by
        unfold hdQ
        rw [x1, x2]
        exact d.elim (fun q => Or.inl (fun t => q (l1.mpr t))) (fun q => Or.inr (fun t => q (l2.mpr t)))⟩ (by decide)
      rw [u1_sne _ _ _ (by decide), h.pl] at k1
      exact k1.go
    · have eC : cNN zc = 0 := by unfold cNN; rw [if_pos c, if_neg d]
      refine Or.inl ⟨eC, es, ?_⟩
      unfold nnZ
      rw [es, fi_n (fun q => d (by
        have q2 := q.2
        unfold hdQ at q2
        rw [x1, x2] at q2
        exact q2.elim (fun q => Or.inl (fun t => q (l1.mp t))) (fun q => Or.inr (fun t => q (l2.mp t))))), go_0 e26]
  · have eC : cNN zc = (-11) := by unfold cNN; rw [if_neg c]
    refine Or.inr ⟨by rw [eC]; decide, by rw [eC]; decide, ?_⟩
    rw [eC]
    have k1 := sn_n h0 (Classical.byContradiction (fun q => c (h.nm.mpr q)))
    rw [h.pl] at k1
    unfold nnZ
    exact (k1.fi ..).go
/-- a name that must be known -/
theorem on_R (h : tR n zc zm) (h0 : zm.1 0 26 = 0) {f k : Nat} (hk : k ≤ 8) {pn : Nat → Int32} (hn : ∀ m, m < k → pn m = zm.1 2 (f + m)) :
    (¬ isNm zc ∧ er (-11) (zc.1 14 4) (onZ zm f k)) ∨ (isNm zc ∧ xff (fun m => decide (pn m = ltr zc 6)) k 0 < 0 ∧ er (-13) (zc.1 14 4) (onZ zm f k)) ∨
    (isNm zc ∧ ¬ xff (fun m => decide (pn m = ltr zc 6)) k 0 < 0 ∧ onR zm f k = (xff (fun m => decide (pn m = ltr zc 6)) k 0).toNatClampNeg ∧ onZ zm f k = nqZ (u1 zm 0 25 (ltr zc 6))) := by
  by_cases c : isNm zc
  · have es : snZ zm = u1 zm 0 25 (ltr zc 6) := by rw [h.lt c.1 6]; exact sn_y h0 (h.nm.mp c)
    have e26 : (u1 zm 0 25 (ltr zc 6)).1 0 26 = 0 := by rw [u1_sne _ _ _ (by decide)]; exact h0
    have x1 : onX zm f k = xff (fun m => decide (pn m = ltr zc 6)) k 0 := by
      unfold onX
      rw [es, if_pos e26, u1_self]
      refine xff_cong (fun j _ hj => ?_)
      rw [u1_ne _ (by decide), hn j (by omega)]
    have l1 := xff_lt (p := fun m => decide (pn m = ltr zc 6)) hk
    by_cases d : xff (fun m => decide (pn m = ltr zc 6)) k 0 < 0
    · refine Or.inr (Or.inl ⟨c, d, ?_⟩)
      have k1 := er.mk (z := u1 zm 0 25 (ltr zc 6)) (P := onX zm f k = (-1)) (c := -13) e26 (by rw [x1]; exact l1.mp d) (by decide)
      rw [u1_sne _ _ _ (by decide), h.pl] at k1
      unfold onZ
      rw [es]
      exact k1.go
    · have eo : onZ zm f k = nqZ (u1 zm 0 25 (ltr zc 6)) := by
        unfold onZ
        rw [es, fi_n (fun q => d (l1.mpr (by rw [← x1]; exact q))), go_0 e26]
      refine Or.inr (Or.inr ⟨c, d, ?_, eo⟩)
      unfold onR
      rw [eo, nq_26, if_pos e26, x1]
  · refine Or.inl ⟨c, ?_⟩
    have k1 := sn_n h0 (Classical.byContradiction (fun q => c (h.nm.mpr q)))
    rw [h.pl] at k1
    unfold onZ
    exact (k1.fi ..).go
/-- a figure in its range -/
theorem fg_R (h : tR n zc zm) (h0 : zm.1 0 26 = 0) {a b : Nat} (hb : b ≤ 1000000) (hab : a ≤ b) :
    (cI zc (nI a) (nI b) = 0 ∧ fgZ zm (nI a) (nI b) = zm ∧ fgR zm (nI a) (nI b) = intg zc ∧ ∃ p, a ≤ p ∧ p ≤ b ∧ intg zc = nI p) ∨ (¬ cI zc (nI a) (nI b) = 0 ∧ cI zc (nI a) (nI b) < 0 ∧ er (cI zc (nI a) (nI b)) (zc.1 14 4) (fgZ zm (nI a) (nI b))) := by
  by_cases c : tN zc 3 = 2
  · obtain ⟨g1, g2⟩ := h.fg c hb hab
    have e1 : fiZ zm (¬ zm.1 0 23 = nI 1) (-11) = zm := fi_n (fun q => q (h.k2.mpr c))
    by_cases d : intg zc < nI a ∨ nI b < intg zc
    · have eC : cI zc (nI a) (nI b) = (-12) := by unfold cI; rw [if_pos c, if_pos d]
      refine Or.inr ⟨by rw [eC]; decide, by rw [eC]; decide, ?_⟩
      rw [eC]
      have k1 := er.mk (z := zm) (P := zm.1 0 24 < nI a ∨ ¬ zm.1 0 24 ≤ nI b) (c := -12) h0 (g1.mp d) (by decide)
      rw [h.pl] at k1
      unfold fgZ
      rw [e1]
      exact k1
    · have eC : cI zc (nI a) (nI b) = 0 := by unfold cI; rw [if_pos c, if_neg d]
      have e2 : fgZ zm (nI a) (nI b) = zm := by unfold fgZ; rw [e1, fi_n (fun q => d (g1.mpr q))]
      obtain ⟨g3, g4⟩ := g2 d
      exact Or.inl ⟨eC, e2, by unfold fgR; rw [e2, if_pos h0, g3], g4⟩
  · have eC : cI zc (nI a) (nI b) = (-11) := by unfold cI; rw [if_neg c]
    refine Or.inr ⟨by rw [eC]; decide, by rw [eC]; decide, ?_⟩
    rw [eC]
    have k1 := er.mk (z := zm) (P := ¬ zm.1 0 23 = nI 1) (c := -11) h0 (fun q => c (h.k2.mp q)) (by decide)
    rw [h.pl] at k1
    unfold fgZ
    exact k1.fi ..
theorem rm_er {e p : Int32} {z : xSt} (h : er e p (rm3 z)) : er e p (rmZ z) := by
  have e4 : rm4 z = rm3 z := by unfold rm4; exact if_neg (fun q => h.ne q.1)
  unfold rmZ
  rw [e4, if_neg h.ne]
  exact h
theorem rp_er {e p : Int32} {z : xSt} (h : er e p (rpF z)) : er e p (rpZ z) := by
  unfold rpZ
  rw [if_neg h.ne]
  exact h
/-- member -/
theorem l_mem (h : lR n mc dc Y zc zm) : oK n (rdM zc) (rmZ zm) := by
  obtain ⟨hT, h0, ⟨hE, hI, hY⟩, hz, hg⟩ := h
  obtain ⟨hB, em, ed, eY⟩ := hE.ok hI hY
  obtain ⟨hO, qm, qd, qY⟩ := hI.ok hY
  have h8 : mc ≤ 8 := hI.1.2.1
  have h4 : dc ≤ 4 := hI.1.2.2.2.1
  by_cases c8 : mc < 8
  · have eg : goZ (fiZ zm (mQ zm 12 = 8) (-16)) = nqZ zm := by rw [fi_n (by omega), go_0 h0]
    have hT1 := hT.nx
    have h01 : (nqZ zm).1 0 26 = 0 := by rw [nq_26]; exact h0
    have hE1 := hE.nx (zm := zm) h8 h4
    have hI1 : rI mc dc Y ((nqZ zm).1 2) ((nqZ zm).1 4) := by rw [(nq_fr zm).1 2 (by decide), (nq_fr zm).1 4 (by decide)]; exact hI
    rcases nn_R hT1 h01 hE1 hI1 hY with ⟨k1, k2, k3⟩ | ⟨k1, k2, k3⟩
    · have e3 : rm3 zm = nqZ (u1 (nqZ zm) 0 25 (ltr (nx zc) 6)) := by unfold rm3; rw [eg, k3]
      have eN : rmN zm = ltr (nx zc) 6 := by unfold rmN; rw [eg, k2, u1_self]
      have e326 : (rm3 zm).1 0 26 = 0 := by rw [e3, nq_26, u1_sne _ _ _ (by decide)]; exact h01
      generalize hnm : ltr (nx zc) 6 = nm at *
      have hT2 : tR n (rdM3 (nx zc) mc) (rm3 zm) := by
        rw [e3]
        unfold rdM3
        rw [hnm]
        refine tR.nx (hT1.of ?_ ?_ ?_ ?_)
        · rw [u1_ne _ (by decide)]; unfold stM; rw [ur_ne _ _ (by simp only [oPd]; omega), ur_ne _ _ (by simp only [oKd]; omega), ur_ne _ _ (by simp only [oLf]; omega), ur_ne _ _ (by simp only [oPt]; omega), ur_ne _ _ (by simp only [oM]; omega)]
        · rw [u1_ne _ (by decide)]; unfold stM; rw [ur_ne _ _ (by simp only [oPd]; omega), ur_ne _ _ (by simp only [oKd]; omega), ur_ne _ _ (by simp only [oLf]; omega), ur_ne _ _ (by simp only [oPt]; omega), ur_ne _ _ (by simp only [oM]; omega)]
        · rw [u1_ne _ (by decide)]
        · exact fun k _ _ => u1_sne _ _ _ (by omega)
      have c5 : isW (rdM3 (nx zc) mc) "consent" ↔ ((rm3 zm).1 0 23 = 0 ∧ (rm3 zm).1 0 24 = nI 5) := hT2.w (k := 5) (by decide) rfl
      have r2 : (rm3 zm).1 2 = zm.1 2 := (rm3_fr zm).1 2 (by decide)
      have r4 : (rm3 zm).1 4 = zm.1 4 := (rm3_fr zm).1 4 (by decide)
      -- the books with the new member
      have hE2 : eqB (rdM3 (nx zc) mc) 1 (mc + 1) dc (va_up (va_up (zm.1 2) (0 + mc) nm) 12 (nI (mc + 1))) (zm.1 4) := by
        have o_ : ∀ o, o ≠ 14 → (rdM3 (nx zc) mc).1 o = (u1 (stM (nx zc) 1 mc nm) (oB 1) 3 (nI (mc + 1))).1 o := fun o ho => by unfold rdM3; rw [nx_hi ho, hnm]
        have n14 : ∀ o, o ≠ 14 → (nx zc).1 o = zc.1 o := fun o ho => nx_hi ho
        refine hE.mem (nm := nm) hz c8 h4 (fun o a1 a2 a3 a4 a5 a6 a7 a8 => ?_) (fun k hk => ?_) ?_ ?_ ?_ ?_ ?_ ?_ (fun k hk => ?_)
        · rw [o_ o (by omega), u1_ne _ a3]; unfold stM; rw [ur_ne _ _ a8, ur_ne _ _ a7, ur_ne _ _ a6, ur_ne _ _ a5, ur_ne _ _ a4, n14 o (by omega)]
        · rw [o_ _ (by decide), u1_sne _ _ _ hk]; unfold stM; rw [ur_ne _ _ (by simp only [oPd, oB]; omega), ur_ne _ _ (by simp only [oKd, oB]; omega), ur_ne _ _ (by simp only [oLf, oB]; omega), ur_ne _ _ (by simp only [oPt, oB]; omega), ur_ne _ _ (by simp only [oM, oB]; omega), n14 _ (by decide)]
        · rw [o_ _ (by decide), u1_self]
        · rw [o_ _ (by simp only [oM]; omega), u1_ne _ (by simp only [oM, oB]; omega)]; unfold stM; rw [ur_ne _ _ (by simp only [oPd, oM]; omega), ur_ne _ _ (by simp only [oKd, oM]; omega), ur_ne _ _ (by simp only [oLf, oM]; omega), ur_ne _ _ (by simp only [oPt, oM]; omega), ur_at]
        · rw [o_ _ (by simp only [oPt]; omega), u1_ne _ (by simp only [oPt, oB]; omega)]; unfold stM; rw [ur_ne _ _ (by simp only [oPd, oPt]; omega), ur_ne _ _ (by simp only [oKd, oPt]; omega), ur_ne _ _ (by simp only [oLf, oPt]; omega), ur_at]
        · rw [o_ _ (by simp only [oLf]; omega), u1_ne _ (by simp only [oLf, oB]; omega)]; unfold stM; rw [ur_ne _ _ (by simp only [oPd, oLf]; omega), ur_ne _ _ (by simp only [oKd, oLf]; omega), ur_at]
        · rw [o_ _ (by simp only [oKd]; omega), u1_ne _ (by simp only [oKd, oB]; omega)]; unfold stM; rw [ur_ne _ _ (by simp only [oPd, oKd]; omega), ur_at]
        · rw [o_ _ (by simp only [oPd]; omega), u1_ne _ (by simp only [oPd, oB]; omega)]; unfold stM; rw [ur_at]
        · show (if k = 12 then nI (mc + 1) else if k = 0 + mc then nm else zm.1 2 k) = _
          rw [Nat.zero_add]
      have hI2 : rI (mc + 1) dc Y (va_up (va_up (zm.1 2) (0 + mc) nm) 12 (nI (mc + 1))) (zm.1 4) := hI.cnt (by rw [va_up_self]) (by omega) (by rw [va_up_ne _ _ (by decide), va_up_ne _ _ (by omega)]; exact hI.1.2.2.1) h4
      have hz2 : hiZ (mc + 1) dc (zm.1 4) := hz.mono (by omega) (Nat.le_refl _)
      have f18 : (rdM3 (nx zc) mc).1 18 = zc.1 18 := by
        unfold rdM3; rw [nx_hi (by decide), u1_ne _ (by decide)]; unfold stM; rw [ur_ne _ _ (by simp only [oPd]; omega), ur_ne _ _ (by simp only [oKd]; omega), ur_ne _ _ (by simp only [oLf]; omega), ur_ne _ _ (by simp only [oPt]; omega), ur_ne _ _ (by simp only [oM]; omega), nx_hi (by decide)]
      have e30 : (rm3 zm).1 0 30 = zm.1 0 30 := by rw [e3, nq_k (by omega), u1_sne _ _ _ (by decide), nq_k (by omega)]
      by_cases c : isW (rdM3 (nx zc) mc) "consent"
      · have hi : rmI zm := ⟨e326, c5.mp c⟩
        have e4 : rm4 zm = nqZ (rm3 zm) := by unfold rm4; exact if_pos hi
        have e426 : (rm4 zm).1 0 26 = 0 := by rw [e4, nq_26]; exact e326
        have eZ : rmZ zm = u1 (u1 (u1 (nqZ (rm3 zm)) 2 (0 + mc) nm) 4 (13 + mc) 1) 2 12 (nI (mc + 1)) := by
          unfold rmZ; rw [if_pos e426, e4, qm, eN, if_pos hi]
        have eC : rdM zc = (0, nx (u1 (rdM3 (nx zc) mc) (oM 1 mc) 1 1)) := by unfold rdM; rw [em, if_pos c8, if_pos k1, if_pos c]
        refine Or.inl ⟨by rw [eC], mc + 1, dc, Y, ?_⟩
        rw [eC, eZ]
        have t2 : (u1 (u1 (u1 (nqZ (rm3 zm)) 2 (0 + mc) nm) 4 (13 + mc) 1) 2 12 (nI (mc + 1))).1 2 = va_up (va_up (zm.1 2) (0 + mc) nm) 12 (nI (mc + 1)) := by rw [u1_at, u1_ne _ (by decide), u1_at, (nq_fr _).1 2 (by decide), r2]
        have t4 : (u1 (u1 (u1 (nqZ (rm3 zm)) 2 (0 + mc) nm) 4 (13 + mc) 1) 2 12 (nI (mc + 1))).1 4 = va_up (zm.1 4) (13 + mc) 1 := by rw [u1_ne _ (by decide), u1_at, u1_ne _ (by decide), (nq_fr _).1 4 (by decide), r4]
        refine ⟨?_, ?_, ⟨?_, ?_, hY⟩, ?_, ?_⟩
        · exact (tR.nx (hT2.of (c2 := u1 (rdM3 (nx zc) mc) (oM 1 mc) 1 1) (m2 := rm3 zm) (u1_ne _ (by simp only [oM]; omega)) (u1_ne _ (by simp only [oM]; omega)) rfl (fun _ _ _ => rfl))).of rfl rfl (by rw [u1_ne _ (by decide), u1_ne _ (by decide), u1_ne _ (by decide)]) (fun k _ _ => by rw [u1_ne _ (by decide), u1_ne _ (by decide), u1_ne _ (by decide)])
        · rw [u1_ne _ (by decide), u1_ne _ (by decide), u1_ne _ (by decide), nq_26]; exact e326
        · rw [t2, t4]
          exact (hE2.mb (m := mc) (k := 1) (by omega) (Or.inl rfl) (by omega) h4 1).fr (fun o h1 h2 => nx_hi (by omega)) (by omega) h4
        · rw [t2, t4]
          exact hI2.cn c8 ⟨1, by omega, rfl⟩
        · rw [t4]; exact hz2.cn (by omega) (by omega) 1
        · rw [nx_hi (by decide), u1_ne _ (by simp only [oM]; omega), f18, u1_ne _ (by decide), u1_ne _ (by decide), u1_ne _ (by decide), nq_k (by omega), e30]; exact hg
      · have hi : ¬ rmI zm := fun q => c (c5.mpr q.2)
        have e4 : rm4 zm = rm3 zm := by unfold rm4; exact if_neg hi
        have eZ : rmZ zm = u1 (u1 (u1 (rm3 zm) 2 (0 + mc) nm) 4 (13 + mc) 0) 2 12 (nI (mc + 1)) := by
          unfold rmZ; rw [e4, if_pos e326, qm, eN, if_neg hi]
        have eC : rdM zc = (0, rdM3 (nx zc) mc) := by unfold rdM; rw [em, if_pos c8, if_pos k1, if_neg c]
        refine Or.inl ⟨by rw [eC], mc + 1, dc, Y, ?_⟩
        rw [eC, eZ]
        have t2 : (u1 (u1 (u1 (rm3 zm) 2 (0 + mc) nm) 4 (13 + mc) 0) 2 12 (nI (mc + 1))).1 2 = va_up (va_up (zm.1 2) (0 + mc) nm) 12 (nI (mc + 1)) := by rw [u1_at, u1_ne _ (by decide), u1_at, r2]
        have t4 : (u1 (u1 (u1 (rm3 zm) 2 (0 + mc) nm) 4 (13 + mc) 0) 2 12 (nI (mc + 1))).1 4 = zm.1 4 := by
          rw [u1_ne _ (by decide), u1_at, u1_ne _ (by decide), r4]
          have e0 : zm.1 4 (13 + mc) = 0 := (hz.2.1 mc (Nat.le_refl _) c8).1
          rw [← e0, va_up_id]
        refine ⟨?_, ?_, ⟨?_, ?_, hY⟩, ?_, ?_⟩
        · exact hT2.of rfl rfl (by rw [u1_ne _ (by decide), u1_ne _ (by decide), u1_ne _ (by decide)]) (fun k _ _ => by rw [u1_ne _ (by decide), u1_ne _ (by decide), u1_ne _ (by decide)])
        · rw [u1_ne _ (by decide), u1_ne _ (by decide), u1_ne _ (by decide)]; exact e326
        · rw [t2, t4]; exact hE2
        · rw [t2, t4]; exact hI2
        · rw [t4]; exact hz2
        · rw [f18, u1_ne _ (by decide), u1_ne _ (by decide), u1_ne _ (by decide), e30]; exact hg
    · have eC : rdM zc = (cNN (nx zc), nx zc) := by unfold rdM; rw [em, if_pos c8, if_neg k1]
      refine Or.inr (Or.inl ⟨by rw [eC]; exact k2, ?_⟩)
      rw [eC]
      refine rm_er ?_
      unfold rm3
      rw [eg]
      exact k3
  · have eC : rdM zc = ((-16), zc) := by unfold rdM; rw [em, if_neg c8]
    refine Or.inr (Or.inl ⟨by rw [eC]; exact (by decide : (-16 : Int32) < 0), ?_⟩)
    rw [eC]
    refine rm_er ?_
    have k1 := er.mk (z := zm) (P := mQ zm 12 = 8) (c := -16) h0 (by omega) (by decide)
    rw [hT.pl] at k1
    unfold rm3
    exact k1.go.nn
/-- section -/
theorem l_sec (h : lR n mc dc Y zc zm) : oK n (rdP zc) (rpZ zm) := by
  obtain ⟨hT, h0, ⟨hE, hI, hY⟩, hz, hg⟩ := h
  obtain ⟨hB, em, ed, eY⟩ := hE.ok hI hY
  obtain ⟨hO, qm, qd, qY⟩ := hI.ok hY
  have h8 : mc ≤ 8 := hI.1.2.1
  have h4 : dc ≤ 4 := hI.1.2.2.2.1
  by_cases cY : 0 < Y
  · have eC : rdP zc = ((-15), zc) := by unfold rdP; rw [eY, if_pos cY]
    refine Or.inr (Or.inl ⟨by rw [eC]; exact (by decide : (-15 : Int32) < 0), ?_⟩)
    rw [eC]
    refine rp_er ?_
    have k1 := er.mk (z := zm) (P := 0 < yQ zm) (c := -15) h0 (by omega) (by decide)
    rw [hT.pl] at k1
    unfold rpF
    exact (k1.fi ..).go.nn
  · have ef : fiZ zm (0 < yQ zm) (-15) = zm := fi_n (by omega)
    by_cases c4 : dc < 4
    · have eg : goZ (fiZ (fiZ zm (0 < yQ zm) (-15)) (mQ zm 13 = 4) (-16)) = nqZ zm := by rw [ef, fi_n (by omega), go_0 h0]
      have hT1 := hT.nx
      have h01 : (nqZ zm).1 0 26 = 0 := by rw [nq_26]; exact h0
      have hE1 := hE.nx (zm := zm) h8 h4
      have hI1 : rI mc dc Y ((nqZ zm).1 2) ((nqZ zm).1 4) := by rw [(nq_fr zm).1 2 (by decide), (nq_fr zm).1 4 (by decide)]; exact hI
      rcases nn_R hT1 h01 hE1 hI1 hY with ⟨k1, k2, k3⟩ | ⟨k1, k2, k3⟩
      · have e3 : rpF zm = nqZ (u1 (nqZ zm) 0 25 (ltr (nx zc) 6)) := by unfold rpF; rw [eg, k3]
        have eN : rpN zm = ltr (nx zc) 6 := by unfold rpN; rw [eg, k2, u1_self]
        have e326 : (rpF zm).1 0 26 = 0 := by rw [e3, nq_26, u1_sne _ _ _ (by decide)]; exact h01
        generalize hnm : ltr (nx zc) 6 = nm at *
        have r2 : (rpF zm).1 2 = zm.1 2 := (rpF_fr zm).1 2 (by decide)
        have r4 : (rpF zm).1 4 = zm.1 4 := (rpF_fr zm).1 4 (by decide)
        have eZ : rpZ zm = u1 (u1 (rpF zm) 2 (8 + dc) nm) 2 13 (nI (dc + 1)) := by unfold rpZ; rw [if_pos e326, qd, eN]
        have eC : rdP zc = (0, nx (u1 (stD (nx zc) 1 dc nm) (oB 1) 4 (nI (dc + 1)))) := by unfold rdP; rw [eY, if_neg cY, ed, if_pos c4, if_pos k1, hnm]
        have hT2 : tR n (nx (u1 (stD (nx zc) 1 dc nm) (oB 1) 4 (nI (dc + 1)))) (rpF zm) := by
          rw [e3]
          refine tR.nx (hT1.of ?_ ?_ ?_ ?_)
          · rw [u1_ne _ (by decide)]; unfold stD; rw [ur_ne _ _ (by simp only [oD]; omega)]
          · rw [u1_ne _ (by decide)]; unfold stD; rw [ur_ne _ _ (by simp only [oD]; omega)]
          · rw [u1_ne _ (by decide)]
          · exact fun k _ _ => u1_sne _ _ _ (by omega)
        refine Or.inl ⟨by rw [eC], mc, dc + 1, Y, ?_⟩
        rw [eC, eZ]
        have t2 : (u1 (u1 (rpF zm) 2 (8 + dc) nm) 2 13 (nI (dc + 1))).1 2 = va_up (va_up (zm.1 2) (8 + dc) nm) 13 (nI (dc + 1)) := by rw [u1_at, u1_at, r2]
        have t4 : (u1 (u1 (rpF zm) 2 (8 + dc) nm) 2 13 (nI (dc + 1))).1 4 = zm.1 4 := by rw [u1_ne _ (by decide), u1_ne _ (by decide), r4]
        refine ⟨?_, ?_, ⟨?_, ?_, hY⟩, ?_, ?_⟩
        · exact hT2.of rfl rfl (by rw [u1_ne _ (by decide), u1_ne _ (by decide)]) (fun k _ _ => by rw [u1_ne _ (by decide), u1_ne _ (by decide)])
        · rw [u1_ne _ (by decide), u1_ne _ (by decide)]; exact e326
        · rw [t2, t4]
          have o_ : ∀ o, o ≠ 14 → (nx (u1 (stD (nx zc) 1 dc nm) (oB 1) 4 (nI (dc + 1)))).1 o = (u1 (stD (nx zc) 1 dc nm) (oB 1) 4 (nI (dc + 1))).1 o := fun o ho => nx_hi ho
          refine hE.sec (nm := nm) hz h8 c4 (fun o a1 a2 a3 a4 => ?_) (fun k hk => ?_) ?_ ?_ (fun k hk => ?_)
          · rw [o_ o (by omega), u1_ne _ a3]; unfold stD; rw [ur_ne _ _ a4, nx_hi (by omega)]
          · rw [o_ _ (by decide), u1_sne _ _ _ hk]; unfold stD; rw [ur_ne _ _ (by simp only [oD, oB]; omega), nx_hi (by decide)]
          · rw [o_ _ (by decide), u1_self]
          · rw [o_ _ (by simp only [oD]; omega), u1_ne _ (by simp only [oD, oB]; omega)]; unfold stD; rw [ur_at]
          · rfl
        · rw [t2, t4]
          exact hI.cnt (by rw [va_up_ne _ _ (by decide), va_up_ne _ _ (by omega)]; exact hI.1.1) h8 (by rw [va_up_self]) (by omega)
        · rw [t4]; exact hz.mono (Nat.le_refl _) (by omega)
        · rw [nx_hi (by decide), u1_ne _ (by decide)]
          unfold stD
          rw [ur_ne _ _ (by simp only [oD]; omega), nx_hi (by decide), u1_ne _ (by decide), u1_ne _ (by decide), e3, nq_k (by omega), u1_sne _ _ _ (by decide), nq_k (by omega)]
          exact hg
      · have eC : rdP zc = (cNN (nx zc), nx zc) := by unfold rdP; rw [eY, if_neg cY, ed, if_pos c4, if_neg k1]
        refine Or.inr (Or.inl ⟨by rw [eC]; exact k2, ?_⟩)
        rw [eC]
        refine rp_er ?_
        unfold rpF
        rw [eg]
        exact k3
    · have eC : rdP zc = ((-16), zc) := by unfold rdP; rw [eY, if_neg cY, ed, if_neg c4]
      refine Or.inr (Or.inl ⟨by rw [eC]; exact (by decide : (-16 : Int32) < 0), ?_⟩)
      rw [eC]
      refine rp_er ?_
      have k1 := er.mk (z := zm) (P := mQ zm 13 = 4) (c := -16) h0 (by omega) (by decide)
      rw [hT.pl] at k1
      unfold rpF
      rw [ef]
      exact k1.go.nn
end LD5
