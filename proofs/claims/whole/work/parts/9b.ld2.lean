/-! A TEXT IS LOADED ALIKE: the tokens -/
def kM (k : Nat) : Int32 := if k = 0 then nI 4 else if k = 1 then nI 0 else if k = 2 then nI 1 else if k = 3 then nI 2 else if k = 4 then nI 3 else nI 5
theorem kM_t : ∀ k, k < 6 → (kM k = nI 4 ↔ k = 0) ∧ (kM k = 0 ↔ k = 1) ∧ (kM k = nI 1 ↔ k = 2) ∧ (kM k = nI 2 ↔ k = 3) ∧ (kM k = nI 3 ↔ k = 4) := by decide
def tR (n : Nat) (zc zm : xSt) : Prop :=
  (tOk zc ∧ zOk zm ∧ tN zc 2 = n ∧ sQ zm = n ∧ n ≤ 900) ∧ (∀ j, j < n → byR (zc.1 15 j) (zm.1 1 j)) ∧ (tN zc 5 = aQ zm ∧ tN zc 4 = pQ zm) ∧ (tN zc 3 < 6 ∧ zm.1 0 23 = kM (tN zc 3)) ∧
  (tN zc 3 = 1 → zm.1 0 24 = wdQ (zm.1 1) (pQ zm) (aQ zm) 71 0 0 ∧ ∀ j, pQ zm ≤ j → j < aQ zm → zc.1 15 j = zm.1 1 j) ∧ (tN zc 3 = 2 → nR (intg zc) (zm.1 0 24))
theorem tR.of {n : Nat} {zc zm c2 m2 : xSt} (h : tR n zc zm) (h1 : c2.1 14 = zc.1 14) (h2 : c2.1 15 = zc.1 15) (h3 : m2.1 1 = zm.1 1) (h4 : ∀ k, 20 ≤ k → k ≤ 24 → m2.1 0 k = zm.1 0 k) : tR n c2 m2 := by
  obtain ⟨⟨a1, a2, a3⟩, a4⟩ := h
  have b1 : tOk c2 := a1.of h1
  have b2 : zOk m2 := a2.of h4
  refine ⟨⟨b1, b2, ?_⟩, ?_⟩
  · unfold tN sQ at a3 ⊢
    rw [h1, h4 20 (by omega) (by omega)]; exact a3
  · unfold intg tN pQ aQ at a4 ⊢
    rw [h1, h2, h3, h4 21 (by omega) (by omega), h4 22 (by omega) (by omega), h4 23 (by omega) (by omega), h4 24 (by omega) (by omega)]
    exact a4
theorem nx_t {z : xSt} (h : tPre z) : tN (nx z) 4 = nxS z ∧ tN (nx z) 5 = nxE z ∧ tN (nx z) 3 = nxK z := by
  obtain ⟨h1, h2, h3, h4⟩ := nx_b h
  have h9 := h.2.2.2
  exact ⟨by show (nI (nxS z)).toNatClampNeg = _; exact nI_clamp (by omega), by show (nI (nxE z)).toNatClampNeg = _; exact nI_clamp (by omega), by show (nI (nxK z)).toNatClampNeg = _; exact nI_clamp (by omega)⟩
theorem rq_f {z : xSt} {a p : Nat} {t v : Int32} (ha : a ≤ 900) (hp : p ≤ 900) : aQ (RQr z (nI a) (nI p) t v) = a ∧ pQ (RQr z (nI a) (nI p) t v) = p ∧ (RQr z (nI a) (nI p) t v).1 0 23 = t ∧ (RQr z (nI a) (nI p) t v).1 0 24 = v ∧ (RQr z (nI a) (nI p) t v).1 1 = z.1 1 :=
  ⟨by show (nI a).toNatClampNeg = _; exact nI_clamp (by omega), by show (nI p).toNatClampNeg = _; exact nI_clamp (by omega), rfl, rfl, (rq_fr ..).1 1 (by decide)⟩
theorem nx_tR {n : Nat} {zc zm : xSt} (hP : tPre zc) (hZ : zPr zm) (e2 : tN zc 2 = n) (es : sQ zm = n) (hn : n ≤ 900) (ea : tN zc 5 = aQ zm) (hb : ∀ j, j < n → byR (zc.1 15 j) (zm.1 1 j)) : tR n (nx zc) (nqZ zm) := by
  obtain ⟨t4, t5, t3⟩ := nx_t hP
  obtain ⟨n1, n2, n3, n4⟩ := nx_b hP
  rw [e2] at n2
  have hle : aQ zm ≤ n := by rw [← es]; exact hZ.2.2.1
  have eS : nqS zm = nxS zc := by
    unfold nqS nxS
    rw [es, e2, ea]
    exact (ws_eq hb (n - aQ zm) (aQ zm) (by omega)).symm
  have f15 : (nx zc).1 15 = zc.1 15 := nx_hi (by decide)
  have r1 : (nqZ zm).1 1 = zm.1 1 := (nq_fr zm).1 1 (by decide)
  have s20 : sQ (nqZ zm) = n := by unfold sQ; rw [nq_k (Or.inl (by decide))]; exact es
  refine ⟨⟨nx_ok hP, nq_ok hZ, by rw [nx_2]; exact e2, s20, hn⟩, by rw [f15, r1]; exact hb, ?_⟩
  have eI : intg (nx zc) = itg (zc.1 15) (nxE zc - nxS zc) (nxS zc) (nI 0) := by unfold intg; rw [f15, t4, t5]
  rw [eI, t5, t4, t3, f15, r1]
  by_cases h : nxS zc < n
  · have eC : nqC zm = zm.1 1 (nxS zc) := by unfold nqC; rw [eS, es]; exact if_pos h
    have hm1 : ¬ nqC zm = (-1) := by rw [eC]; exact by_m1 (hb _ h)
    have hk : nxK zc = kS (zc.1 15 (nxS zc)) := by unfold nxK; rw [e2, if_pos h]
    have hkk := by_k (hb _ h)
    by_cases c1 : nxK zc = 1
    · have hs : iSm (nqC zm) := by rw [eC]; exact (kS_1 _).mp (by rw [← hkk, ← hk]; exact c1)
      have hE : nxE zc = rnK (zc.1 15) 1 (n - (nxS zc + 1)) (nxS zc + 1) := by unfold nxE; rw [e2, if_pos h, if_pos (Or.inl c1), c1]
      have hW : nqW zm = nxE zc := by
        unfold nqW
        rw [eS, es, smQ_s (k := n - (nxS zc + 1)) (by omega), if_pos (show iSm (hQ (zm.1 1) n (nxS zc)) by rw [show hQ (zm.1 1) n (nxS zc) = zm.1 1 (nxS zc) from if_pos h, ← eC]; exact hs), hE]
        exact (sm_eq hb _ _ (by omega)).symm
      have eq : nqZ zm = RQr zm (nI (nxE zc)) (nI (nxS zc)) 0 (wdQ (zm.1 1) (nxS zc) (nxE zc) 71 0 0) := by
        unfold nqZ
        rw [if_neg hm1, if_pos hs, hW, eS]
      obtain ⟨q1, q2, q3, q4, -⟩ := rq_f (z := zm) (a := nxE zc) (p := nxS zc) (t := 0) (v := wdQ (zm.1 1) (nxS zc) (nxE zc) 71 0 0) (by omega) (by omega)
      rw [eq, q1, q2, q3, q4]
      refine ⟨⟨rfl, rfl⟩, ⟨n3, by rw [c1]; rfl⟩, fun _ => ⟨rfl, fun j h1 h2 => ?_⟩, fun q => absurd (c1.symm.trans q) (by decide)⟩
      refine by_eq (hb j (by omega)) ?_
      by_cases e : j = nxS zc
      · rw [e, ← hk]; exact c1
      · rw [hE] at h2
        exact rnK_all _ _ j (by omega) h2
    · have hs : ¬ iSm (nqC zm) := fun q => c1 (by rw [hk, hkk]; rw [eC] at q; exact (kS_1 _).mpr q)
      by_cases c2 : nxK zc = 2
      · have hd : iDg (nqC zm) := by rw [eC]; exact (kS_2 _).mp (by rw [← hkk, ← hk]; exact c2)
        have hE : nxE zc = rnK (zc.1 15) 2 (n - (nxS zc + 1)) (nxS zc + 1) := by unfold nxE; rw [e2, if_pos h, if_pos (Or.inr c2), c2]
        have hE2 : nxE zc = rnK (zc.1 15) 2 (n - nxS zc) (nxS zc) := by rw [rnK_s (k := n - (nxS zc + 1)) (by omega), if_pos (by rw [← hk]; exact c2)]; exact hE
        have hD : (nqD zm).1 = nxE zc := by
          unfold nqD
          rw [eS, es, hE2]
          exact (dg_eq hb _ _ _ (by omega)).symm
        have hV : nR (itg (zc.1 15) (nxE zc - nxS zc) (nxS zc) (nI 0)) (nqD zm).2 := by
          unfold nqD
          rw [eS, es, hE2]
          exact dg_val hb _ _ _ _ (by omega) ⟨0, 0, rfl, rfl, by omega, by omega, Or.inl rfl⟩
        have eq : nqZ zm = RQr zm (nI (nxE zc)) (nI (nxS zc)) (nI 1) (nqD zm).2 := by
          unfold nqZ
          rw [if_neg hm1, if_neg hs, if_pos hd, hD, eS]
        obtain ⟨q1, q2, q3, q4, -⟩ := rq_f (z := zm) (a := nxE zc) (p := nxS zc) (t := nI 1) (v := (nqD zm).2) (by omega) (by omega)
        rw [eq, q1, q2, q3, q4]
        exact ⟨⟨rfl, rfl⟩, ⟨n3, by rw [c2]; rfl⟩, fun q => absurd q c1, fun _ => hV⟩
      · have hd : ¬ iDg (nqC zm) := fun q => c2 (by rw [hk, hkk]; rw [eC] at q; exact (kS_2 _).mpr q)
        have hE : nxE zc = nxS zc + 1 := by unfold nxE; rw [e2, if_pos h, if_neg (fun q => q.elim c1 c2)]
        have eq : nqZ zm = RQr zm (nI (nxS zc + 1)) (nI (nxS zc)) (if nqC zm = nI 59 then 2 else if nqC zm = nI 45 then 3 else 5) (zm.1 0 24) := by
          unfold nqZ
          rw [if_neg hm1, if_neg hs, if_neg hd, eS]
        obtain ⟨q1, q2, q3, q4, -⟩ := rq_f (z := zm) (a := nxS zc + 1) (p := nxS zc) (t := if nqC zm = nI 59 then 2 else if nqC zm = nI 45 then 3 else 5) (v := zm.1 0 24) (by omega) (by omega)
        rw [eq, q1, q2, q3, q4, hE]
        refine ⟨⟨rfl, rfl⟩, ⟨n3, ?_⟩, fun q => absurd q c1, fun q => absurd q c2⟩
        have hy : nxK zc = kS (nqC zm) := by rw [hk, hkk, eC]
        rw [hy]
        unfold kS
        rw [if_neg hs, if_neg hd]
        split
        · rfl
        · split <;> rfl
  · have hk : nxK zc = 0 := by unfold nxK; rw [e2, if_neg h]
    have hE : nxE zc = nxS zc := by unfold nxE; rw [e2, if_neg h]
    have eq : nqZ zm = RQr zm (nI (nxS zc)) (nI (nxS zc)) 4 (zm.1 0 24) := by
      unfold nqZ
      rw [if_pos (show nqC zm = (-1) by unfold nqC; rw [eS, es]; exact if_neg h), eS]
    obtain ⟨q1, q2, q3, q4, -⟩ := rq_f (z := zm) (a := nxS zc) (p := nxS zc) (t := 4) (v := zm.1 0 24) (by omega) (by omega)
    rw [eq, q1, q2, q3, q4, hE, hk]
    exact ⟨⟨rfl, rfl⟩, ⟨by decide, rfl⟩, fun q => absurd q (by decide), fun q => absurd q (by decide)⟩
theorem tR.nx {n : Nat} {zc zm : xSt} (h : tR n zc zm) : tR n (nx zc) (nqZ zm) := nx_tR h.1.1.pre h.1.2.1.1 h.1.2.2.1 h.1.2.2.2.1 h.1.2.2.2.2 h.2.2.1.1 h.2.1
theorem k11_of {k : Nat} (h : k < 11) : k = 0 ∨ k = 1 ∨ k = 2 ∨ k = 3 ∨ k = 4 ∨ k = 5 ∨ k = 6 ∨ k = 7 ∨ k = 8 ∨ k = 9 ∨ k = 10 := by omega
theorem lw7_of {p a : Nat} (h : p + 7 = a) (h2 : a - p ≤ 6) : False := by omega
section LD2
variable {n : Nat} {zc zm : xSt}
theorem tR.k0 (h : tR n zc zm) : zm.1 0 23 = nI 4 ↔ tN zc 3 = 0 := by rw [h.2.2.2.1.2]; exact (kM_t _ h.2.2.2.1.1).1
theorem tR.k1 (h : tR n zc zm) : zm.1 0 23 = 0 ↔ tN zc 3 = 1 := by rw [h.2.2.2.1.2]; exact (kM_t _ h.2.2.2.1.1).2.1
theorem tR.k2 (h : tR n zc zm) : zm.1 0 23 = nI 1 ↔ tN zc 3 = 2 := by rw [h.2.2.2.1.2]; exact (kM_t _ h.2.2.2.1.1).2.2.1
theorem tR.k3 (h : tR n zc zm) : zm.1 0 23 = nI 2 ↔ tN zc 3 = 3 := by rw [h.2.2.2.1.2]; exact (kM_t _ h.2.2.2.1.1).2.2.2.1
theorem tR.k4 (h : tR n zc zm) : zm.1 0 23 = nI 3 ↔ tN zc 3 = 4 := by rw [h.2.2.2.1.2]; exact (kM_t _ h.2.2.2.1.1).2.2.2.2
theorem tR.pl (h : tR n zc zm) : zm.1 0 22 = zc.1 14 4 := by rw [h.1.2.1.2.1, h.1.1.2.2.1, h.2.2.1.2]
theorem tR.le (h : tR n zc zm) : pQ zm ≤ aQ zm := h.1.2.1.2.2.1
/-- a word of the format -/
theorem tR.w (h : tR n zc zm) {k : Nat} (hk : k < 11) {tx : String} (htx : tX k = tx) : isW zc tx ↔ (zm.1 0 23 = 0 ∧ zm.1 0 24 = nI k) := by
  rw [← htx]
  obtain ⟨t1, t2⟩ := tX_t k hk
  have hle := h.le
  constructor
  · rintro ⟨c1, c2, c3⟩
    obtain ⟨w1, w2⟩ := h.2.2.2.2.1 c1
    refine ⟨h.k1.mpr c1, ?_⟩
    rw [w1]
    refine (wd_iff hk).mpr ?_
    rw [h.2.2.1.1, h.2.2.1.2, t1] at c2
    refine ⟨by have := (lW_ex k hk).1; omega, fun j hj => ?_⟩
    have c4 := c3 j (by rw [t1]; exact hj)
    rw [h.2.2.1.2, w2 _ (by omega) (by omega), t2 j hj] at c4
    exact c4
  · rintro ⟨c1, c2⟩
    have c1 := h.k1.mp c1
    obtain ⟨w1, w2⟩ := h.2.2.2.2.1 c1
    rw [w1] at c2
    obtain ⟨m1, m2⟩ := (wd_iff hk).mp c2
    refine ⟨c1, by rw [h.2.2.1.1, h.2.2.1.2, t1]; omega, fun j hj => ?_⟩
    rw [t1] at hj
    rw [h.2.2.1.2, w2 _ (by omega) (by omega), t2 j hj]
    exact m2 j hj
theorem tR.nm (h : tR n zc zm) : isNm zc ↔ ¬ (¬ zm.1 0 23 = 0 ∨ ¬ zm.1 0 24 = (-1) ∨ ¬ aQ zm - pQ zm ≤ 6) := by
  have q0 := h.w (k := 0) (tx := "member") (by decide) rfl
  have q2 := h.w (k := 2) (tx := "trade") (by decide) rfl
  have q3 := h.w (k := 3) (tx := "close") (by decide) rfl
  have q4 := h.w (k := 4) (tx := "set") (by decide) rfl
  have q6 := h.w (k := 6) (tx := "cash") (by decide) rfl
  have q8 := h.w (k := 8) (tx := "years") (by decide) rfl
  have q9 := h.w (k := 9) (tx := "keep") (by decide) rfl
  have q10 := h.w (k := 10) (tx := "policy") (by decide) rfl
  constructor
  · rintro ⟨c1, c2, n0, n2, n3, n4, n6, n8, n9, n10⟩ hh
    have k1 := h.k1.mpr c1
    rw [h.2.2.1.1, h.2.2.1.2] at c2
    rcases hh with a | a | a
    · exact a k1
    · refine a ?_
      obtain ⟨w1, w2⟩ := h.2.2.2.2.1 c1
      rw [w1]
      refine wd_neg.mpr (fun k hk m => ?_)
      have e : zm.1 0 24 = nI k := w1.trans ((wd_iff hk).mpr m)
      have m1 := m.1
      rcases k11_of hk with rfl | rfl | rfl | rfl | rfl | rfl | rfl | rfl | rfl | rfl | rfl
      · exact n0 (q0.mpr ⟨k1, e⟩)
      · exact lw7_of m1 c2
      · exact n2 (q2.mpr ⟨k1, e⟩)
      · exact n3 (q3.mpr ⟨k1, e⟩)
      · exact n4 (q4.mpr ⟨k1, e⟩)
      · exact lw7_of m1 c2
      · exact n6 (q6.mpr ⟨k1, e⟩)
      · exact lw7_of m1 c2
      · exact n8 (q8.mpr ⟨k1, e⟩)
      · exact n9 (q9.mpr ⟨k1, e⟩)
      · exact n10 (q10.mpr ⟨k1, e⟩)
    · exact a c2
  · intro hh
    have c1 : zm.1 0 23 = 0 := Classical.byContradiction (fun q => hh (Or.inl q))
    have c2 : zm.1 0 24 = (-1) := Classical.byContradiction (fun q => hh (Or.inr (Or.inl q)))
    have c3 : aQ zm - pQ zm ≤ 6 := Classical.byContradiction (fun q => hh (Or.inr (Or.inr q)))
    have no : ∀ (k : Nat) (tx : String), k < 11 → tX k = tx → ¬ isW zc tx := fun k tx hk ht q => by
      have e := ((h.w hk ht).mp q).2
      rw [c2] at e
      exact absurd (show nI k < 0 by rw [← e]; decide) (nI_pos (by omega))
    exact ⟨h.k1.mp c1, by rw [h.2.2.1.1, h.2.2.1.2]; exact c3, no 0 _ (by decide) rfl, no 2 _ (by decide) rfl, no 3 _ (by decide) rfl, no 4 _ (by decide) rfl, no 6 _ (by decide) rfl, no 8 _ (by decide) rfl, no 9 _ (by decide) rfl, no 10 _ (by decide) rfl⟩
theorem tR.lt (h : tR n zc zm) (hk : tN zc 3 = 1) : ∀ k, ltr zc k = ltQ zm k
  | 0 => rfl
  | k + 1 => by
    have e := tR.lt h hk k
    have hc : tN zc 4 + k < tN zc 5 ↔ pQ zm + k < aQ zm := by rw [h.2.2.1.1, h.2.2.1.2]
    by_cases c : pQ zm + k < aQ zm
    · rw [ltr_y (hc.mpr c), ltQ_y c, e, h.2.2.1.2, (h.2.2.2.2.1 hk).2 _ (by omega) c]
    · rw [ltr_n (fun q => c (hc.mp q)), ltQ_n c, e]
/-- a figure -/
theorem tR.fg (h : tR n zc zm) (hk : tN zc 3 = 2) {a b : Nat} (hb : b ≤ 1000000) (hab : a ≤ b) : ((intg zc < nI a ∨ nI b < intg zc) ↔ (zm.1 0 24 < nI a ∨ ¬ zm.1 0 24 ≤ nI b)) ∧ (¬ (intg zc < nI a ∨ nI b < intg zc) → intg zc = zm.1 0 24 ∧ ∃ p, a ≤ p ∧ p ≤ b ∧ intg zc = nI p) := by
  obtain ⟨p, q, e1, e2, h1, h2, h3⟩ := h.2.2.2.2.2 hk
  rw [e1, e2, nI_ltI (by omega) (by omega), nI_ltI (by omega) (by omega), nI_ltI (by omega) (by omega), nI_leI (by omega) (by omega)]
  refine ⟨by omega, fun c => ?_⟩
  have : p = q := by omega
  exact ⟨by rw [this], p, by omega, by omega, rfl⟩
end LD2
