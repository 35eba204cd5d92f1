/-! A TEXT IS LOADED ALIKE: close -/
section LD7
variable {n mc dc Y : Nat} {zc zm : xSt}
theorem rcN_o {z : xSt} {o : Nat} (h : o ≠ 14) : (rcN z).1 o = z.1 o := by unfold rcN; split; exact nx_hi h; rfl
theorem rcS_o {z : xSt} {d o : Nat} (h : o ≠ 14) (h2 : o ≠ 17) : (rcS z d).2.1 o = z.1 o := by
  unfold rcS
  split
  · show (nx (u1 (rcN z) 17 d _)).1 o = _
    rw [nx_hi h, u1_ne _ h2, rcN_o h]
  · exact rcN_o h
theorem rcL_o : ∀ {k d : Nat} {z : xSt} {o : Nat}, o ≠ 14 → o ≠ 17 → (rcL k d z).2.1 o = z.1 o
  | 0, _, _, _, _, _ => rfl
  | k + 1, d, z, o, h, h2 => by
    rw [rcL_s rfl]
    split
    · rw [rcL_o h h2, rcS_o h h2]
    · exact rcS_o h h2
theorem rkL_er {e p : Int32} {s : xSt} (h : er e p s) (k d : Nat) : rkL k d s = s := by
  cases k with
  | zero => rfl
  | succ k => rw [rkL_s rfl, if_neg h.ne]
theorem er.zQ {e p : Int32} {z : xSt} (h : er e p z) (a b c d : Int32) : er e p (zQ z a b c d) := by
  unfold er
  rw [zQ_o (by decide)]
  exact h
/-- the results of a closing are read alike -/
theorem rk_R : ∀ (k d : Nat) (y s : xSt), tR n y s → s.1 0 26 = 0 → (∀ e, e < d → y.1 17 e = s.1 10 e ∧ -1000000 ≤ (s.1 10 e).toInt ∧ (s.1 10 e).toInt ≤ 1000000) →
    ((rcL k d y).1 = 0 ∧ tR n (rcL k d y).2 (rkL k d s) ∧ (rkL k d s).1 0 26 = 0 ∧ ∀ e, e < d + k → (rcL k d y).2.1 17 e = (rkL k d s).1 10 e ∧ -1000000 ≤ ((rkL k d s).1 10 e).toInt ∧ ((rkL k d s).1 10 e).toInt ≤ 1000000) ∨
    (¬ (rcL k d y).1 = 0 ∧ (rcL k d y).1 < 0 ∧ er (rcL k d y).1 ((rcL k d y).2.1 14 4) (rkL k d s))
  | 0, d, y, s, hT, h0, hr => Or.inl ⟨rfl, hT, h0, hr⟩
  | k + 1, d, y, s, hT, h0, hr => by
    rw [rcL_s rfl, rkL_s rfl, if_pos h0]
    have hT1 : tR n (rcN y) (rc1 s) := by
      unfold rcN rc1
      by_cases c : tN y 3 = 4
      · rw [if_pos c, if_pos (hT.k4.mpr c)]; exact hT.nx
      · rw [if_neg c, if_neg (fun q => c (hT.k4.mp q))]; exact hT
    have h01 : (rc1 s).1 0 26 = 0 := by rw [rc1_26]; exact h0
    rcases fg_RA hT1 h01 (a := 0) (b := 1000000) (A := 0) (B := 1000000) rfl rfl (by omega) (by omega) with ⟨i1, i2, i3, p, p1, p2, ep⟩ | ⟨i1, i2, i3⟩
    · have eW : rcW s = (if tN y 3 = 4 then -intg (rcN y) else intg (rcN y)) := by
        unfold rcW rcV
        rw [i3]
        by_cases c : tN y 3 = 4
        · rw [if_pos c, if_pos (hT.k4.mpr c)]
        · rw [if_neg c, if_neg (fun q => c (hT.k4.mp q))]
      have eS : rcS y d = (0, nx (u1 (rcN y) 17 d (rcW s))) := by unfold rcS; rw [if_pos i1, eW]
      have eK : rkS s d = nqZ (u1 (rc1 s) 10 d (rcW s)) := by unfold rkS rcU; rw [i2]; exact go_0 (by rw [u1_ne _ (by decide)]; exact h01)
      have hb : -1000000 ≤ (rcW s).toInt ∧ (rcW s).toInt ≤ 1000000 := by
        rw [eW, ep]
        split
        · rw [← Int32.zero_sub, show (0 : Int32) = nI 0 from rfl, nI_subI (by omega) (by omega)]; omega
        · rw [nI_toInt (by omega)]; omega
      rw [eS, eK, if_pos rfl]
      have hs10 : (rc1 s).1 10 = s.1 10 := (rc1_fr s).1 10 (by decide)
      have hy17 : (rcN y).1 17 = y.1 17 := rcN_o (by decide)
      have hT2 : tR n (nx (u1 (rcN y) 17 d (rcW s))) (nqZ (u1 (rc1 s) 10 d (rcW s))) := tR.nx (hT1.of (u1_ne _ (by decide)) (u1_ne _ (by decide)) (u1_ne _ (by decide)) (fun k _ _ => by rw [u1_ne _ (by decide)]))
      have hh := rk_R k (d + 1) (nx (u1 (rcN y) 17 d (rcW s))) (nqZ (u1 (rc1 s) 10 d (rcW s))) hT2 (by rw [nq_26, u1_ne _ (by decide)]; exact h01) (fun e he => by
        rw [nx_hi (by decide), (nq_fr _).1 10 (by decide), u1_rd2, u1_rd2, hs10, hy17]
        by_cases c : e = d
        · rw [if_pos c, if_pos c]; exact ⟨rfl, hb⟩
        · rw [if_neg c, if_neg c]; exact hr e (by omega))
      rw [show d + (k + 1) = d + 1 + k by omega]
      exact hh
    · have eS : rcS y d = (cI (rcN y) 0 1000000, rcN y) := by unfold rcS; rw [if_neg i1]
      have eK : er (cI (rcN y) 0 1000000) ((rcN y).1 14 4) (rkS s d) := by unfold rkS rcU; exact (i3.u _ (Or.inl (by decide))).go
      rw [eS, if_neg i1, rkL_er eK]
      exact Or.inr ⟨i1, i2, eK⟩
/-- close -/
theorem l_clo (h : lR n mc dc Y zc zm) : oK n (rdC zc) (rcX zm) ∧ ((rc3 zm).1 0 26 = 0 → clOk (rc3 zm)) := by
  obtain ⟨hT, h0, ⟨hE, hI, hY⟩, hz, hg⟩ := h
  obtain ⟨hB, em, ed, eY⟩ := hE.ok hI hY
  obtain ⟨hO, qm, qd, qY⟩ := hI.ok hY
  have h8 : mc ≤ 8 := hI.1.2.1
  have h4 : dc ≤ 4 := hI.1.2.2.2.1
  by_cases cY : Y < 24
  · have e0 : rc0 zm = zQ (nqZ zm) 0 0 0 0 := by unfold rc0; rw [fi_n (by omega), go_0 h0]
    have hT0 : tR n (nx zc) (zQ (nqZ zm) 0 0 0 0) := hT.nx.of rfl rfl (zQ_o (by decide)) (fun k _ _ => by rw [zQ_o (by decide)])
    have h00 : (zQ (nqZ zm) 0 0 0 0).1 0 26 = 0 := by rw [zQ_o (by decide), nq_26]; exact h0
    have e2 : rc2 zm = rkL dc 0 (zQ (nqZ zm) 0 0 0 0) := by unfold rc2; rw [qd, e0]
    have f2 : frC zm (rc2 zm) := rc2_fr zm
    have f30 : (rc2 zm).1 0 30 = zm.1 0 30 := by
      rw [e2]
      exact ((fR_rkL (j := 26) (z := zm) ((fR.r0.nq).zQ 0 0 0 0)).2 30 (by omega) (by omega))
    have fL : ∀ o, o ≠ 14 → o ≠ 17 → (rcL dc 0 (nx zc)).2.1 o = zc.1 o := fun o h1 h2 => by rw [rcL_o h1 h2, nx_hi h1]
    rcases rk_R dc 0 (nx zc) (zQ (nqZ zm) 0 0 0 0) hT0 h00 (fun e he => absurd he (Nat.not_lt_zero e)) with ⟨k1, k2, k3, k4⟩ | ⟨k1, k2, k3⟩
    · rw [← e2] at k2 k3 k4
      have eC : rdC zc = (0, clos (rcL dc 0 (nx zc)).2 1 17 mc dc Y) := by unfold rdC; rw [eY, if_pos cY, ed, if_pos k1, em]
      have c14 : (clos (rcL dc 0 (nx zc)).2 1 17 mc dc Y).1 14 = (rcL dc 0 (nx zc)).2.1 14 := frB.clos h8 h4 14 (by omega) (by omega)
      have c15 : (clos (rcL dc 0 (nx zc)).2 1 17 mc dc Y).1 15 = (rcL dc 0 (nx zc)).2.1 15 := frB.clos h8 h4 15 (by omega) (by omega)
      have c18 : (clos (rcL dc 0 (nx zc)).2 1 17 mc dc Y).1 18 = (rcL dc 0 (nx zc)).2.1 18 := frB.clos h8 h4 18 (by omega) (by omega)
      rw [eC]
      have l18 := fL 18 (by decide) (by decide)
      have hE2 : eqB (rcL dc 0 (nx zc)).2 1 mc dc ((rc2 zm).1 2) ((rc2 zm).1 4) := by
        rw [f2 2 (by decide) (by decide), f2 4 (by decide) (by decide)]
        exact hE.fr (fun o h1 h2 => fL o (by omega) (by omega)) h8 h4
      have hI2 : rI mc dc Y ((rc2 zm).1 2) ((rc2 zm).1 4) := by rw [f2 2 (by decide) (by decide), f2 4 (by decide) (by decide)]; exact hI
      have hz2 : hiZ mc dc ((rc2 zm).1 4) := by rw [f2 4 (by decide) (by decide)]; exact hz
      have qd2 : mQ (rc2 zm) 13 = dc := by unfold mQ; rw [f2 2 (by decide) (by decide)]; exact qd
      generalize (rcL dc 0 (nx zc)).2 = yL at *
      by_cases c : tN yL 3 = 3
      · have e3 : rc3 zm = rc2 zm := by unfold rc3; exact fi_n (not_not_intro (k2.k3.mpr c))
        have eX : rcX zm = clQ (rc2 zm) := by unfold rcX; rw [e3, if_pos k3]
        obtain ⟨cE, cI_⟩ := clos_eq (oR := 17) (Or.inr (by omega)) hE2 hI2 cY (fun d hd => k4 d (by omega))
        have cz := clQ_hi hI2 cY hz2
        refine ⟨Or.inl ⟨rfl, mc, dc, Y + 1, ?_⟩, fun _ => ?_⟩
        · rw [eX]
          have t2 : (clQ (rc2 zm)).1 2 = (rc2 zm).1 2 := clQ_2
          refine ⟨?_, ?_, ⟨by rw [t2]; exact cE, by rw [t2]; exact cI_, by omega⟩, cz, ?_⟩
          · exact k2.of c14 c15 (by rw [clQ_oo (by decide), daL_o (by decide) (by decide) (by decide)]) (fun k _ _ => clQ_0 (by omega))
          · rw [clQ_0 (by decide)]; exact k3
          · show gvR ((clos yL 1 17 mc dc Y).1 18) _
            rw [c18, l18, clQ_0 (by decide), f30]; exact hg
        · rw [e3]
          exact ⟨by rw [qd2]; exact shD_all hI2 (fun d hd => (k4 d (by omega)).2), lvO_of hI2⟩
      · have k5 := er.mk (z := rc2 zm) (P := ¬ (rc2 zm).1 0 23 = nI 2) (c := -11) k3 (fun q => c (k2.k3.mp q)) neg11
        rw [k2.pl] at k5
        have k6 : er (-11) (yL.1 14 4) (rc3 zm) := by unfold rc3; exact k5
        have eX : rcX zm = rc3 zm := by unfold rcX; exact if_neg k6.ne
        refine ⟨Or.inr (Or.inr ⟨rfl, ?_, ?_⟩), fun q => absurd q k6.ne⟩
        · show ¬ tN (clos yL 1 17 mc dc Y) 3 = 3
          unfold tN
          rw [c14]
          exact c
        · show er (-11) ((clos yL 1 17 mc dc Y).1 14 4) _
          rw [eX, c14]; exact k6
    · rw [← e2] at k3
      have eC : rdC zc = rcL dc 0 (nx zc) := by unfold rdC; rw [eY, if_pos cY, ed, if_neg k1]
      have k6 : er (rcL dc 0 (nx zc)).1 ((rcL dc 0 (nx zc)).2.1 14 4) (rc3 zm) := by unfold rc3; exact k3.fi ..
      have eX : rcX zm = rc3 zm := by unfold rcX; exact if_neg k6.ne
      refine ⟨Or.inr (Or.inl ?_), fun q => absurd q k6.ne⟩
      rw [eC, eX]
      exact ⟨k2, k6⟩
  · have eC : rdC zc = ((-16), zc) := by unfold rdC; rw [eY, if_neg cY]
    have k1 := er.mk (z := zm) (P := yQ zm = 24) (c := -16) h0 (by omega) neg16
    rw [hT.pl] at k1
    have k2 : er (-16) (zc.1 14 4) (rc0 zm) := by unfold rc0; exact k1.go.zQ ..
    have k3 : er (-16) (zc.1 14 4) (rc2 zm) := by unfold rc2; rw [rkL_er k2]; exact k2
    have k6 : er (-16) (zc.1 14 4) (rc3 zm) := by unfold rc3; exact k3.fi ..
    have eX : rcX zm = rc3 zm := by unfold rcX; exact if_neg k6.ne
    refine ⟨Or.inr (Or.inl ?_), fun q => absurd q k6.ne⟩
    rw [eC, eX]
    exact ⟨neg16, k6⟩
end LD7
