/-! A TEXT IS LOADED ALIKE: trade, set, close -/
theorem neg13 : ((-13) : Int32) < 0 := by decide
theorem neg11 : ((-11) : Int32) < 0 := by decide
theorem neg14 : ((-14) : Int32) < 0 := by decide
theorem neg16 : ((-16) : Int32) < 0 := by decide
section LD6
variable {n mc dc Y : Nat} {zc zm : xSt}
theorem fg_RA (h : tR n zc zm) (h0 : zm.1 0 26 = 0) {a b : Nat} {A B : Int32} (hA : A = nI a) (hB : B = nI b) (hb : b ≤ 1000000) (hab : a ≤ b) :
    (cI zc A B = 0 ∧ fgZ zm A B = zm ∧ fgR zm A B = intg zc ∧ ∃ p, a ≤ p ∧ p ≤ b ∧ intg zc = nI p) ∨ (¬ cI zc A B = 0 ∧ cI zc A B < 0 ∧ er (cI zc A B) (zc.1 14 4) (fgZ zm A B)) := by
  rw [hA, hB]; exact fg_R h h0 hb hab
theorem rt_er4 {e p : Int32} {z : xSt} (h : er e p (rt4 z)) : er e p (rtZ z) := by
  have h5 : er e p (rt5 z) := by unfold rt5; exact h.fi ..
  have e6 : rt6 z = rt5 z := by unfold rt6; exact if_neg h5.ne
  unfold rtZ
  rw [e6]
  exact h5.go
/-- trade -/
theorem l_trd (h : lR n mc dc Y zc zm) : oK n (rdT1 (nx zc)) (rtZ zm) := by
  obtain ⟨hT, h0, ⟨hE, hI, hY⟩, hz, hg⟩ := h
  obtain ⟨hB, em, ed, eY⟩ := hE.ok hI hY
  obtain ⟨hO, qm, qd, qY⟩ := hI.ok hY
  have h8 : mc ≤ 8 := hI.1.2.1
  have h4 : dc ≤ 4 := hI.1.2.2.2.1
  have eg : goZ zm = nqZ zm := go_0 h0
  have hT1 := hT.nx
  have h01 : (nqZ zm).1 0 26 = 0 := by rw [nq_26]; exact h0
  have e3 : bN (nx zc) 1 3 = mc := nx_bN.trans em
  have r12 : (nqZ zm).1 2 = zm.1 2 := (nq_fr zm).1 2 (by decide)
  have r14 : (nqZ zm).1 4 = zm.1 4 := (nq_fr zm).1 4 (by decide)
  have eX : fM (nx zc) 1 (ltr (nx zc) 6) = xff (fun m => decide ((nx zc).1 (oM 1 m) 0 = ltr (nx zc) 6)) mc 0 := by unfold fM; rw [e3]
  rcases on_R (f := 0) (k := mc) hT1 h01 h8 (pn := fun m => (nx zc).1 (oM 1 m) 0) (fun m hm => by
      show (nx zc).1 (oM 1 m) 0 = _
      rw [nx_hi (by unfold oM; omega), r12, Nat.zero_add, (hE.2.2.1 m hm).1]) with ⟨k1, k2⟩ | ⟨k1, k2, k3⟩ | ⟨k1, k2, k3, k4⟩
  · have eC : rdT1 (nx zc) = ((-11), nx zc) := by unfold rdT1; rw [if_neg k1]
    refine Or.inr (Or.inl ?_)
    rw [eC]
    refine ⟨neg11, rt_er4 ?_⟩
    unfold rt4
    rw [eg, qm]
    exact (k2.on ..).fg ..
  · have eC : rdT1 (nx zc) = ((-13), nx zc) := by unfold rdT1; rw [if_pos k1, eX, if_pos k2]
    refine Or.inr (Or.inl ?_)
    rw [eC]
    refine ⟨neg13, rt_er4 ?_⟩
    unfold rt4
    rw [eg, qm]
    exact (k3.on ..).fg ..
  · have hM := (xff_k h8 k2).2
    have eC : rdT1 (nx zc) = rdT2 (nx (nx zc)) (xff (fun m => decide ((nx zc).1 (oM 1 m) 0 = ltr (nx zc) 6)) mc 0).toNatClampNeg := by unfold rdT1; rw [if_pos k1, eX, if_neg k2]
    have eM : rtM zm = (xff (fun m => decide ((nx zc).1 (oM 1 m) 0 = ltr (nx zc) 6)) mc 0).toNatClampNeg := by unfold rtM; rw [eg, qm]; exact k3
    generalize (xff (fun m => decide ((nx zc).1 (oM 1 m) 0 = ltr (nx zc) 6)) mc 0).toNatClampNeg = m at hM eC eM k3
    generalize ltr (nx zc) 6 = nm1 at k4
    have hT2 : tR n (nx (nx zc)) (nqZ (u1 (nqZ zm) 0 25 nm1)) := tR.nx (hT1.of rfl rfl (by rw [u1_ne _ (by decide)]) (fun k _ _ => u1_sne _ _ _ (by omega)))
    have h02 : (nqZ (u1 (nqZ zm) 0 25 nm1)).1 0 26 = 0 := by rw [nq_26, u1_sne _ _ _ (by decide)]; exact h01
    have r22 : (nqZ (u1 (nqZ zm) 0 25 nm1)).1 2 = zm.1 2 := by rw [(nq_fr _).1 2 (by decide), u1_ne _ (by decide), r12]
    have r24 : (nqZ (u1 (nqZ zm) 0 25 nm1)).1 4 = zm.1 4 := by rw [(nq_fr _).1 4 (by decide), u1_ne _ (by decide), r14]
    have r230 : (nqZ (u1 (nqZ zm) 0 25 nm1)).1 0 30 = zm.1 0 30 := by rw [nq_k (by omega), u1_sne _ _ _ (by decide), nq_k (by omega)]
    have s2 : ∀ o, o ≠ 14 → (nx (nx zc)).1 o = zc.1 o := fun o ho => by rw [nx_hi ho, nx_hi ho]
    have e4 : bN (nx (nx zc)) 1 4 = dc := nx_bN.trans (nx_bN.trans ed)
    generalize nqZ (u1 (nqZ zm) 0 25 nm1) = z2 at k4 hT2 h02 r22 r24 r230
    generalize nx (nx zc) = y2 at eC hT2 s2 e4
    have eX2 : fD y2 1 (ltr y2 6) = xff (fun d => decide (y2.1 (oD 1 d) 0 = ltr y2 6)) dc 0 := by unfold fD; rw [e4]
    have e42 : rt4 zm = fgZ (onZ z2 8 dc) 1 100000 := by unfold rt4; rw [eg, qm, k4, qd]
    rcases on_R (f := 8) (k := dc) hT2 h02 (by omega) (pn := fun d => y2.1 (oD 1 d) 0) (fun d hd => by
        show y2.1 (oD 1 d) 0 = _
        rw [s2 _ (by unfold oD; omega), r22, (hE.2.2.2.2.2.2.2 d hd).1]) with ⟨j1, j2⟩ | ⟨j1, j2, j3⟩ | ⟨j1, j2, j3, j4⟩
    · have eC2 : rdT2 y2 m = ((-11), y2) := by unfold rdT2; rw [if_neg j1]
      refine Or.inr (Or.inl ?_)
      rw [eC, eC2]
      refine ⟨neg11, rt_er4 ?_⟩
      rw [e42]
      exact j2.fg ..
    · have eC2 : rdT2 y2 m = ((-13), y2) := by unfold rdT2; rw [if_pos j1, eX2, if_pos j2]
      refine Or.inr (Or.inl ?_)
      rw [eC, eC2]
      refine ⟨neg13, rt_er4 ?_⟩
      rw [e42]
      exact j3.fg ..
    · have hD := (xff_k (by omega) j2).2
      have eC2 : rdT2 y2 m = rdT3 (nx y2) m (xff (fun d => decide (y2.1 (oD 1 d) 0 = ltr y2 6)) dc 0).toNatClampNeg := by unfold rdT2; rw [if_pos j1, eX2, if_neg j2]
      have eD : rtD zm = (xff (fun d => decide (y2.1 (oD 1 d) 0 = ltr y2 6)) dc 0).toNatClampNeg := by unfold rtD; rw [eg, qm, k4, qd]; exact j3
      generalize (xff (fun d => decide (y2.1 (oD 1 d) 0 = ltr y2 6)) dc 0).toNatClampNeg = d at hD eC2 eD j3
      generalize ltr y2 6 = nm2 at j4
      have hT3 : tR n (nx y2) (nqZ (u1 z2 0 25 nm2)) := tR.nx (hT2.of rfl rfl (by rw [u1_ne _ (by decide)]) (fun k _ _ => u1_sne _ _ _ (by omega)))
      have h03 : (nqZ (u1 z2 0 25 nm2)).1 0 26 = 0 := by rw [nq_26, u1_sne _ _ _ (by decide)]; exact h02
      have r32 : (nqZ (u1 z2 0 25 nm2)).1 2 = zm.1 2 := by rw [(nq_fr _).1 2 (by decide), u1_ne _ (by decide), r22]
      have r34 : (nqZ (u1 z2 0 25 nm2)).1 4 = zm.1 4 := by rw [(nq_fr _).1 4 (by decide), u1_ne _ (by decide), r24]
      have r330 : (nqZ (u1 z2 0 25 nm2)).1 0 30 = zm.1 0 30 := by rw [nq_k (by omega), u1_sne _ _ _ (by decide), r230]
      have s3 : ∀ o, o ≠ 14 → (nx y2).1 o = zc.1 o := fun o ho => by rw [nx_hi ho, s2 o ho]
      rw [j4] at e42
      have eA : rtA zm = fgR (nqZ (u1 z2 0 25 nm2)) 1 100000 := by unfold rtA; rw [eg, qm, k4, qd, j4]
      generalize nqZ (u1 z2 0 25 nm2) = z3 at e42 eA hT3 h03 r32 r34 r330
      generalize nx y2 = y3 at eC2 hT3 s3
      rcases fg_RA hT3 h03 (a := 1) (b := 100000) (A := 1) (B := 100000) rfl rfl (by omega) (by omega) with ⟨i1, i2, i3, p, p1, p2, ep⟩ | ⟨i1, i2, i3⟩
      · rw [i2] at e42
        rw [i3, ep] at eA
        obtain ⟨q, hq, eq⟩ := (hI.2.2.2.1 m d (by omega) (by omega)).1
        have eP : y3.1 (oPt 1 m) d = nI q := by rw [s3 _ (by unfold oPt; omega), hE.2.2.2.1 m d hM (by omega)]; exact eq
        have eS : y3.1 (oPt 1 m) d + intg y3 = nI (q + p) := by rw [eP, ep, nI_add]
        have eR : (rt4 zm).1 4 (29 + 4 * rtM zm + rtD zm) + rtA zm = nI (q + p) := by rw [e42, eM, eD, eA, r34, eq, nI_add]
        by_cases c : nI (q + p) ≤ nI 1000000
        · have c2 : q + p ≤ 1000000 := (nI_leI (by omega) (by omega)).mp c
          have eC3 : rdT3 y3 m d = (0, nx (u1 y3 (oPt 1 m) d (nI (q + p)))) := by unfold rdT3; rw [if_pos i1, eS, if_pos c]
          have e5 : rt5 zm = z3 := by unfold rt5; rw [eR, fi_n (fun q => q.2 c), e42]
          have e6 : rt6 zm = u1 z3 4 (29 + 4 * m + d) (nI (q + p)) := by
            have e7 : (rt5 zm).1 4 (29 + 4 * rtM zm + rtD zm) + rtA zm = nI (q + p) := by rw [e5, ← e42]; exact eR
            unfold rt6
            rw [e7, e5, if_pos h03, eM, eD]
          have e8 : rtZ zm = nqZ (u1 z3 4 (29 + 4 * m + d) (nI (q + p))) := by unfold rtZ; rw [e6]; exact go_0 (by rw [u1_ne _ (by decide)]; exact h03)
          refine Or.inl ?_
          rw [eC, eC2, eC3, e8]
          refine ⟨rfl, mc, dc, Y, ?_⟩
          have t2 : (nqZ (u1 z3 4 (29 + 4 * m + d) (nI (q + p)))).1 2 = zm.1 2 := by rw [(nq_fr _).1 2 (by decide), u1_ne _ (by decide), r32]
          have t4 : (nqZ (u1 z3 4 (29 + 4 * m + d) (nI (q + p)))).1 4 = va_up (zm.1 4) (29 + 4 * m + d) (nI (q + p)) := by rw [(nq_fr _).1 4 (by decide), u1_at, r34]
          refine ⟨?_, ?_, ⟨?_, ?_, hY⟩, ?_, ?_⟩
          · exact tR.nx (hT3.of (u1_ne _ (by unfold oPt; omega)) (u1_ne _ (by unfold oPt; omega)) (u1_ne _ (by decide)) (fun k _ _ => by rw [u1_ne _ (by decide)]))
          · rw [nq_26, u1_ne _ (by decide)]; exact h03
          · rw [t2, t4]
            exact (hE.pt hM (by omega) h8 h4 (nI (q + p))).fr (fun o h1 h2 => by
              show (nx (u1 y3 (oPt 1 m) d (nI (q + p)))).1 o = _
              rw [nx_hi (by omega)]
              by_cases co : o = oPt 1 m
              · rw [co, u1_at, u1_at, s3 _ (by unfold oPt; omega)]
              · rw [u1_ne _ co, u1_ne _ co, s3 _ (by omega)]) h8 h4
          · rw [t2, t4]; exact hI.pt (by omega) (by omega) c2 (hz.1 m (by omega))
          · rw [t4]; exact hz.up h8 (Or.inr ⟨m, d, hM, by omega, rfl⟩)
          · show gvR ((nx (u1 y3 (oPt 1 m) d (nI (q + p)))).1 18) _
            rw [nx_hi (by decide), u1_ne _ (by unfold oPt; omega), s3 _ (by decide), nq_k (by omega), u1_ne _ (by decide), r330]; exact hg
        · have eC3 : rdT3 y3 m d = ((-16), y3) := by unfold rdT3; rw [if_pos i1, eS, if_neg c]
          refine Or.inr (Or.inl ?_)
          rw [eC, eC2, eC3]
          refine ⟨neg16, ?_⟩
          have k5 : er (-16) (y3.1 14 4) (rt5 zm) := by
            have k6 := er.mk (z := rt4 zm) (P := (rt4 zm).1 0 26 = 0 ∧ ¬ (rt4 zm).1 4 (29 + 4 * rtM zm + rtD zm) + rtA zm ≤ nI 1000000) (c := -16) (by rw [e42]; exact h03) ⟨by rw [e42]; exact h03, by rw [eR]; exact c⟩ neg16
            have pl : (rt4 zm).1 0 22 = y3.1 14 4 := by rw [e42]; exact hT3.pl
            rw [pl] at k6
            unfold rt5
            exact k6
          have e6 : rt6 zm = rt5 zm := by unfold rt6; exact if_neg k5.ne
          unfold rtZ
          rw [e6]
          exact k5.go
      · have eC3 : rdT3 y3 m d = (cI y3 1 100000, y3) := by unfold rdT3; rw [if_neg i1]
        refine Or.inr (Or.inl ?_)
        rw [eC, eC2, eC3]
        refine ⟨i2, rt_er4 ?_⟩
        rw [e42]
        exact i3
/-- which setting -/
theorem stA_R {y1 : xSt} (h : tR n y1 (goZ zm)) (hz : zOk zm) (h0 : (goZ zm).1 0 26 = 0) : (rsI zm → stA y1 = nI (rsK zm)) ∧ (¬ rsI zm → stA y1 = (-1)) := by
  constructor
  · intro hi
    obtain ⟨k, k6, k10, e⟩ := rsK_v hz hi
    have eK : rsK zm = k - 6 := by
      unfold rsK
      rw [if_pos hi, e]
      show (nI k).toNatClampNeg - 6 = _
      rw [nI_clamp (by omega)]
    have no : ∀ (j : Nat) (tx : String), j < 11 → tX j = tx → j ≠ k → ¬ isW y1 tx := fun j tx hj ht hne q => by
      have e2 := ((h.w hj ht).mp q).2
      rw [e] at e2
      exact hne ((nI_eq (by omega) (by omega)).mp e2).symm
    have yes : ∀ (tx : String), tX k = tx → isW y1 tx := fun tx ht => (h.w (by omega) ht).mpr ⟨hi.2.1, e⟩
    rw [eK]
    unfold stA
    rcases (show k = 6 ∨ k = 7 ∨ k = 8 ∨ k = 9 ∨ k = 10 by omega) with rfl | rfl | rfl | rfl | rfl
    · rw [if_pos (yes "cash" rfl)]; rfl
    · rw [if_neg (no 6 "cash" (by decide) rfl (by decide)), if_pos (yes "reserve" rfl)]; rfl
    · rw [if_neg (no 6 "cash" (by decide) rfl (by decide)), if_neg (no 7 "reserve" (by decide) rfl (by decide)), if_pos (yes "years" rfl)]; rfl
    · rw [if_neg (no 6 "cash" (by decide) rfl (by decide)), if_neg (no 7 "reserve" (by decide) rfl (by decide)), if_neg (no 8 "years" (by decide) rfl (by decide)), if_pos (yes "keep" rfl)]; rfl
    · rw [if_neg (no 6 "cash" (by decide) rfl (by decide)), if_neg (no 7 "reserve" (by decide) rfl (by decide)), if_neg (no 8 "years" (by decide) rfl (by decide)), if_neg (no 9 "keep" (by decide) rfl (by decide)), if_pos (yes "policy" rfl)]; rfl
  · intro hi
    have no : ∀ (j : Nat) (tx : String), 6 ≤ j → j < 11 → tX j = tx → ¬ isW y1 tx := fun j tx h6 hj ht q => by
      have e2 := (h.w hj ht).mp q
      refine hi ⟨h0, e2.1, ?_⟩
      rw [e2.2]
      exact nI_nlt h6 (by omega)
    unfold stA
    rw [if_neg (no 6 "cash" (by decide) (by decide) rfl), if_neg (no 7 "reserve" (by decide) (by decide) rfl), if_neg (no 8 "years" (by decide) (by decide) rfl), if_neg (no 9 "keep" (by decide) (by decide) rfl), if_neg (no 10 "policy" (by decide) (by decide) rfl)]
theorem xl_n {k : Nat} (h : k < 5) : ∃ a b : Nat, xLea k = nI a ∧ xGre k = nI b ∧ a ≤ b ∧ b ≤ 1000000 := by
  rcases (show k = 0 ∨ k = 1 ∨ k = 2 ∨ k = 3 ∨ k = 4 by omega) with rfl | rfl | rfl | rfl | rfl
  · exact ⟨20, 100, rfl, rfl, by omega, by omega⟩
  · exact ⟨0, 50, rfl, rfl, by omega, by omega⟩
  · exact ⟨1, 10, rfl, rfl, by omega, by omega⟩
  · exact ⟨0, 20, rfl, rfl, by omega, by omega⟩
  · exact ⟨0, 2, rfl, rfl, by omega, by omega⟩
theorem rs_er4 {e p : Int32} {z : xSt} (h : er e p (rs4 z)) : er e p (rsZ z) := by
  have h6 : er e p (rs6 z) := by unfold rs6; exact h.go.fg ..
  unfold rsZ rs7
  exact (h6.u _ (Or.inl (by decide))).go
theorem rs_er3 {e p : Int32} {z : xSt} (h : er e p (rs3 z)) : er e p (rsZ z) := rs_er4 (by unfold rs4; exact h.u _ (Or.inr (by decide)))
theorem gvR.up {g : Nat → Int32} {x : Int32} (h : gvR g x) {k : Nat} (hk : k < 5) : gvR (va_up g k 1) (x ||| (nI 1 <<< (nI k &&& 31))) := by
  obtain ⟨b, hb, e, h1⟩ := h
  obtain ⟨t1, t2, t3⟩ := gv_t b hb k hk
  refine ⟨b ||| (1 <<< k), t1, by rw [e]; exact t2, fun j hj => ?_⟩
  rw [t3 j hj]
  by_cases c : j = k
  · rw [c, va_up_self]
    exact ⟨fun q => absurd q (by decide), fun q => absurd (Or.inl rfl) q⟩
  · rw [va_up_ne _ _ c, h1 j hj]
    exact ⟨fun q t => t.elim c q, fun q t => q (Or.inr t)⟩
/-- set -/
theorem l_set (h : lR n mc dc Y zc zm) : oK n (rdZ1 (nx zc)) (rsZ zm) := by
  obtain ⟨hT, h0, ⟨hE, hI, hY⟩, hz, hg⟩ := h
  have h8 : mc ≤ 8 := hI.1.2.1
  have h4 : dc ≤ 4 := hI.1.2.2.2.1
  have eg : goZ zm = nqZ zm := go_0 h0
  have hT1 := hT.nx
  have h01 : (nqZ zm).1 0 26 = 0 := by rw [nq_26]; exact h0
  have hk5 := rsK_lt hT.1.2.1
  obtain ⟨sa, sb⟩ := stA_R (zm := zm) (y1 := nx zc) (by rw [eg]; exact hT1) hT.1.2.1 (by rw [eg]; exact h01)
  by_cases c : rsI zm
  · have eA := sa c
    have e2 : rs2 zm = nqZ zm := by unfold rs2; rw [fi_n (not_not_intro c), eg]
    have n1 : ¬ stA (nx zc) < 0 := by rw [eA]; exact nI_pos (by omega)
    have ck_ : (stA (nx zc)).toNatClampNeg = rsK zm := by rw [eA]; exact nI_clamp (by omega)
    have e30 : (nqZ zm).1 0 30 = zm.1 0 30 := nq_k (by omega)
    have hg0 := hg
    obtain ⟨b, hb, eb, hgk⟩ := hg
    have hgk := hgk (rsK zm) hk5
    by_cases d : (nx zc).1 18 (rsK zm) = 0
    · have d2 : ¬ ((rs2 zm).1 0 30 >>> (nI (rsK zm) &&& 31) &&& nI 1 = nI 1) := by rw [e2, e30, eb]; exact hgk.mp (by rw [nx_hi (by decide)] at d; exact d)
      have e3 : rs3 zm = nqZ zm := by unfold rs3; rw [fi_n d2, e2]
      have e4 : rs4 zm = u1 (nqZ zm) 0 30 (zm.1 0 30 ||| (nI 1 <<< (nI (rsK zm) &&& 31))) := by unfold rs4; rw [e3, e30]
      have e4g : goZ (rs4 zm) = nqZ (u1 (nqZ zm) 0 30 (zm.1 0 30 ||| (nI 1 <<< (nI (rsK zm) &&& 31)))) := by rw [e4]; exact go_0 (by rw [u1_sne _ _ _ (by decide)]; exact h01)
      have eC : rdZ1 (nx zc) = rdZ2 (nx (u1 (nx zc) 18 (rsK zm) 1)) (rsK zm) := by unfold rdZ1; rw [if_neg n1, ck_, if_pos d]
      have hT2 : tR n (nx (u1 (nx zc) 18 (rsK zm) 1)) (nqZ (u1 (nqZ zm) 0 30 (zm.1 0 30 ||| (nI 1 <<< (nI (rsK zm) &&& 31))))) := tR.nx (hT1.of (u1_ne _ (by decide)) (u1_ne _ (by decide)) (u1_ne _ (by decide)) (fun k _ _ => u1_sne _ _ _ (by omega)))
      have h02 : (nqZ (u1 (nqZ zm) 0 30 (zm.1 0 30 ||| (nI 1 <<< (nI (rsK zm) &&& 31))))).1 0 26 = 0 := by rw [nq_26, u1_sne _ _ _ (by decide)]; exact h01
      have r22 : (nqZ (u1 (nqZ zm) 0 30 (zm.1 0 30 ||| (nI 1 <<< (nI (rsK zm) &&& 31))))).1 2 = zm.1 2 := by rw [(nq_fr _).1 2 (by decide), u1_ne _ (by decide), (nq_fr _).1 2 (by decide)]
      have r24 : (nqZ (u1 (nqZ zm) 0 30 (zm.1 0 30 ||| (nI 1 <<< (nI (rsK zm) &&& 31))))).1 4 = zm.1 4 := by rw [(nq_fr _).1 4 (by decide), u1_ne _ (by decide), (nq_fr _).1 4 (by decide)]
      have r230 : (nqZ (u1 (nqZ zm) 0 30 (zm.1 0 30 ||| (nI 1 <<< (nI (rsK zm) &&& 31))))).1 0 30 = zm.1 0 30 ||| (nI 1 <<< (nI (rsK zm) &&& 31)) := by rw [nq_k (by omega), u1_self]
      have s2 : ∀ o, o ≠ 14 → o ≠ 18 → (nx (u1 (nx zc) 18 (rsK zm) 1)).1 o = zc.1 o := fun o h1 h2 => by rw [nx_hi h1, u1_ne _ h2, nx_hi h1]
      have s18 : (nx (u1 (nx zc) 18 (rsK zm) 1)).1 18 = va_up (zc.1 18) (rsK zm) 1 := by rw [nx_hi (by decide), u1_at, nx_hi (by decide)]
      have e6 : rs6 zm = fgZ (nqZ (u1 (nqZ zm) 0 30 (zm.1 0 30 ||| (nI 1 <<< (nI (rsK zm) &&& 31))))) (xLea (rsK zm)) (xGre (rsK zm)) := by unfold rs6; rw [e4g]
      have eV : rsV zm = fgR (nqZ (u1 (nqZ zm) 0 30 (zm.1 0 30 ||| (nI 1 <<< (nI (rsK zm) &&& 31))))) (xLea (rsK zm)) (xGre (rsK zm)) := by unfold rsV; rw [e4g]
      generalize nqZ (u1 (nqZ zm) 0 30 (zm.1 0 30 ||| (nI 1 <<< (nI (rsK zm) &&& 31)))) = z2 at hT2 h02 r22 r24 r230 e6 eV
      generalize nx (u1 (nx zc) 18 (rsK zm) 1) = y2 at eC hT2 s2 s18
      obtain ⟨la, lb, l1, l2, l3, l4⟩ := xl_n hk5
      rcases fg_RA hT2 h02 l1 l2 l4 l3 with ⟨i1, i2, i3, p, p1, p2, ep⟩ | ⟨i1, i2, i3⟩
      · rw [i2] at e6
        rw [i3] at eV
        have eC2 : rdZ2 y2 (rsK zm) = (0, nx (u1 y2 (oSt 1) (rsK zm) (intg y2))) := by unfold rdZ2; rw [if_pos i1]
        have e7 : rsZ zm = nqZ (u1 z2 4 (0 + rsK zm) (intg y2)) := by unfold rsZ rs7; rw [e6, eV]; exact go_0 (by rw [u1_ne _ (by decide)]; exact h02)
        refine Or.inl ?_
        rw [eC, eC2, e7, Nat.zero_add]
        refine ⟨rfl, mc, dc, Y, ?_⟩
        have t2 : (nqZ (u1 z2 4 (rsK zm) (intg y2))).1 2 = zm.1 2 := by rw [(nq_fr _).1 2 (by decide), u1_ne _ (by decide), r22]
        have t4 : (nqZ (u1 z2 4 (rsK zm) (intg y2))).1 4 = va_up (zm.1 4) (rsK zm) (intg y2) := by rw [(nq_fr _).1 4 (by decide), u1_at, r24]
        refine ⟨?_, ?_, ⟨?_, ?_, hY⟩, ?_, ?_⟩
        · exact tR.nx (hT2.of (u1_ne _ (by unfold oSt; omega)) (u1_ne _ (by unfold oSt; omega)) (u1_ne _ (by decide)) (fun k _ _ => by rw [u1_ne _ (by decide)]))
        · rw [nq_26, u1_ne _ (by decide)]; exact h02
        · rw [t2, t4]
          exact (hE.st hk5 h8 h4 (intg y2)).fr (fun o h1 h2 => by
            show (nx (u1 y2 (oSt 1) (rsK zm) (intg y2))).1 o = _
            rw [nx_hi (by omega)]
            by_cases co : o = oSt 1
            · rw [co, u1_at, u1_at, s2 _ (by unfold oSt; omega) (by unfold oSt; omega)]
            · rw [u1_ne _ co, u1_ne _ co, s2 _ (by omega) (by omega)]) h8 h4
        · rw [t2, t4]
          exact hI.st hk5 (by rw [l1, ep]; exact nI_le p1 (by omega)) (by rw [l2, ep]; exact nI_le p2 (by omega))
        · rw [t4]; exact hz.up h8 (Or.inl hk5)
        · show gvR ((nx (u1 y2 (oSt 1) (rsK zm) (intg y2))).1 18) _
          rw [nx_hi (by decide), u1_ne _ (by unfold oSt; omega), s18, nq_k (by omega), u1_ne _ (by decide), r230]
          exact hg0.up hk5
      · have eC2 : rdZ2 y2 (rsK zm) = (cI y2 (xLea (rsK zm)) (xGre (rsK zm)), y2) := by unfold rdZ2; rw [if_neg i1]
        refine Or.inr (Or.inl ?_)
        rw [eC, eC2]
        refine ⟨i2, ?_⟩
        rw [← e6] at i3
        unfold rsZ rs7
        exact (i3.u _ (Or.inl (by decide))).go
    · have d2 : (rs2 zm).1 0 30 >>> (nI (rsK zm) &&& 31) &&& nI 1 = nI 1 := by
        rw [e2, e30, eb]
        exact Classical.byContradiction (fun q => d (by rw [nx_hi (by decide)]; exact hgk.mpr q))
      have eC : rdZ1 (nx zc) = ((-14), nx zc) := by unfold rdZ1; rw [if_neg n1, ck_, if_neg d]
      refine Or.inr (Or.inl ?_)
      rw [eC]
      refine ⟨neg14, rs_er3 ?_⟩
      have k1 := er.mk (z := rs2 zm) (P := (rs2 zm).1 0 30 >>> (nI (rsK zm) &&& 31) &&& nI 1 = nI 1) (c := -14) (by rw [e2]; exact h01) d2 neg14
      have pl : (rs2 zm).1 0 22 = (nx zc).1 14 4 := by rw [e2]; exact hT1.pl
      rw [pl] at k1
      unfold rs3
      exact k1
  · have eA := sb c
    have eC : rdZ1 (nx zc) = ((-11), nx zc) := by unfold rdZ1; rw [eA, if_pos (by decide)]
    refine Or.inr (Or.inl ?_)
    rw [eC]
    refine ⟨neg11, rs_er3 ?_⟩
    have k1 := er.mk (z := goZ zm) (P := ¬ rsI zm) (c := -11) (by rw [eg]; exact h01) c neg11
    have pl : (goZ zm).1 0 22 = (nx zc).1 14 4 := by rw [eg]; exact hT1.pl
    rw [pl] at k1
    have k2 : er (-11) ((nx zc).1 14 4) (rs2 zm) := by unfold rs2; exact k1
    unfold rs3
    exact k2.fi ..
end LD6
