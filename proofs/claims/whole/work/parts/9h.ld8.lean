/-! A TEXT IS LOADED ALIKE: any statement, all of them, load -/
def row00 : Nat → Int32 := fun j => if j = 3 then 3 else if j = 2 then 5 else if j = 1 then 10 else if j = 0 then 25 else 0
theorem row00_0 {j : Nat} (h : 4 ≤ j) : row00 j = 0 := by unfold row00; rw [if_neg (by omega), if_neg (by omega), if_neg (by omega), if_neg (by omega)]
theorem nbk_4 (z : xSt) : (nbk z).1 4 = row00 := by
  unfold nbk
  rw [u1_at, u1_at, u1_at, u1_at, ur_at]
  rfl
theorem nbk_2 (z : xSt) : (nbk z).1 2 = fun _ => 0 := by
  unfold nbk
  rw [u1_ne _ (by decide), u1_ne _ (by decide), u1_ne _ (by decide), u1_ne _ (by decide), ur_ne _ _ (by decide), ur_at]
theorem nbk_o {z : xSt} {o : Nat} (h : o ≠ 2 ∧ o ≠ 4) : (nbk z).1 o = z.1 o := by
  unfold nbk
  rw [u1_ne _ h.2, u1_ne _ h.2, u1_ne _ h.2, u1_ne _ h.2, ur_ne _ _ h.2, ur_ne _ _ h.1]
theorem rI_00 : rI 0 0 0 (fun _ => 0) row00 := by
  refine ⟨⟨rfl, by omega, rfl, by omega, rfl⟩, ⟨⟨25, by omega, by omega, rfl⟩, ⟨10, by omega, rfl⟩, ⟨5, by omega, by omega, rfl⟩, ⟨3, by omega, rfl⟩, ⟨0, by omega, rfl⟩⟩, fun m hm => ?_, fun m d hm hd => ?_, fun m y hm hy => ?_, fun d hd => ?_⟩
  · rw [row00_0 (by omega), row00_0 (by omega), row00_0 (by omega)]
    exact ⟨⟨0, by omega, rfl⟩, ⟨0, by omega, rfl⟩, ⟨0, by omega, rfl⟩, fun h => absurd h (by decide)⟩
  · rw [row00_0 (j := 29 + 4 * m + d) (by omega)]
    exact ⟨⟨0, by omega, rfl⟩, fun _ => rfl⟩
  · rw [row00_0 (by omega), row00_0 (by omega)]
    exact ⟨⟨0, by omega, rfl⟩, fun _ => ⟨rfl, rfl⟩⟩
  · rw [row00_0 (by omega)]; exact ⟨0, by omega, rfl⟩
theorem hiZ_00 : hiZ 0 0 row00 := ⟨fun m _ => row00_0 (by omega), fun m _ _ => ⟨row00_0 (by omega), row00_0 (by omega), row00_0 (by omega), row00_0 (by omega), fun d _ => row00_0 (by omega), fun y _ => ⟨row00_0 (by omega), row00_0 (by omega)⟩, fun j _ => row00_0 (by omega)⟩, fun d _ _ => ⟨row00_0 (by omega), row00_0 (by omega)⟩⟩
theorem eqB_00 {z : xSt} {b : Nat} (hB : ∀ k, z.1 (oB b) k = 0) (hS : ∀ k, k < 5 → z.1 (oSt b) k = xIni k) : eqB z b 0 0 (fun _ => 0) row00 := by
  refine ⟨⟨hB 3, hB 4, hB 5, hB 6, hB 8, ?_⟩, fun k hk => ?_, fun m hm => absurd hm (Nat.not_lt_zero m), fun m d hm => absurd hm (Nat.not_lt_zero m), fun m y hm => absurd hm (Nat.not_lt_zero m), fun m hm => absurd hm (Nat.not_lt_zero m), fun m j hm => absurd hm (Nat.not_lt_zero m), fun d hd => absurd hd (Nat.not_lt_zero d)⟩
  · show z.1 (oB b) 7 - 0 = row00 495
    rw [hB 7]; rfl
  · rw [hS k hk]
    rcases (show k = 0 ∨ k = 1 ∨ k = 2 ∨ k = 3 ∨ k = 4 by omega) with rfl | rfl | rfl | rfl | rfl <;> rfl
section LD8
variable {n mc dc Y : Nat} {zc zm : xSt}
theorem lR.w (h : lR n mc dc Y zc zm) {k : Nat} (hk : k < 11) {tx : String} (ht : tX k = tx) : isW zc tx ↔ rsW zm = nI k := by
  rw [h.1.w hk ht]
  unfold rsW
  by_cases c : zm.1 0 23 = 0
  · rw [if_pos c]; exact ⟨fun q => q.2, fun q => ⟨c, q⟩⟩
  · rw [if_neg c]
    exact ⟨fun q => absurd q.1 c, fun q => absurd (show nI k < 0 by rw [← q]; decide) (nI_pos (by omega))⟩
theorem l_st (h : lR n mc dc Y zc zm) : oK n (rdS zc) (rdW zm) ∧ (rsW zm = nI 3 → (rc3 zm).1 0 26 = 0 → clOk (rc3 zm)) := by
  have w0 := h.w (k := 0) (tx := "member") (by decide) rfl
  have w1 := h.w (k := 1) (tx := "section") (by decide) rfl
  have w2 := h.w (k := 2) (tx := "trade") (by decide) rfl
  have w3 := h.w (k := 3) (tx := "close") (by decide) rfl
  have w4 := h.w (k := 4) (tx := "set") (by decide) rfl
  refine ⟨?_, fun _ => (l_clo h).2⟩
  unfold rdS rdW
  by_cases c0 : isW zc "member"
  · rw [if_pos c0, if_pos (w0.mp c0)]; exact l_mem h
  · rw [if_neg c0, if_neg (fun q => c0 (w0.mpr q))]
    by_cases c1 : isW zc "section"
    · rw [if_pos c1, if_pos (w1.mp c1)]; exact l_sec h
    · rw [if_neg c1, if_neg (fun q => c1 (w1.mpr q))]
      by_cases c2 : isW zc "trade"
      · rw [if_pos c2, if_pos (w2.mp c2)]; exact l_trd h
      · rw [if_neg c2, if_neg (fun q => c2 (w2.mpr q))]
        by_cases c3 : isW zc "close"
        · rw [if_pos c3, if_pos (w3.mp c3)]; exact (l_clo h).1
        · rw [if_neg c3, if_neg (fun q => c3 (w3.mpr q))]
          by_cases c4 : isW zc "set"
          · rw [if_pos c4, if_pos (w4.mp c4)]; exact l_set h
          · rw [if_neg c4, if_neg (fun q => c4 (w4.mpr q))]
            have k1 := er.mk (z := zm) (P := True) (c := -11) h.2.1 trivial neg11
            rw [h.1.pl] at k1
            exact Or.inr (Or.inl ⟨neg11, k1⟩)
theorem lR.nx (h : lR n mc dc Y zc zm) (v : Int32) : lR n mc dc Y (nx zc) (u1 (nqZ zm) 0 29 v) := by
  obtain ⟨hT, h0, ⟨hE, hI, hY⟩, hz, hg⟩ := h
  have r2 : (u1 (nqZ zm) 0 29 v).1 2 = (nqZ zm).1 2 := u1_ne _ (by decide)
  have r4 : (u1 (nqZ zm) 0 29 v).1 4 = (nqZ zm).1 4 := u1_ne _ (by decide)
  have q2 : (nqZ zm).1 2 = zm.1 2 := (nq_fr zm).1 2 (by decide)
  have q4 : (nqZ zm).1 4 = zm.1 4 := (nq_fr zm).1 4 (by decide)
  refine ⟨hT.nx.of rfl rfl (u1_ne _ (by decide)) (fun k _ _ => u1_sne _ _ _ (by omega)), by rw [u1_sne _ _ _ (by decide), nq_26]; exact h0, ⟨by rw [r2, r4]; exact hE.nx hI.1.2.1 hI.1.2.2.2.1, by rw [r2, r4, q2, q4]; exact hI, hY⟩, by rw [r4, q4]; exact hz, by rw [nx_hi (by decide), u1_sne _ _ _ (by decide), nq_k (by omega)]; exact hg⟩
theorem ldO_er {e p : Int32} {z : xSt} (h : er e p z) (k : Nat) : ldO k z := by
  cases k with
  | zero => exact trivial
  | succ k => exact fun q => absurd q h.ne
theorem ldL_er {e p : Int32} {z : xSt} (h : er e p z) (k : Nat) : ldL k z = z := ldL_e (fun q => h.ne q.1)
def fQ (z z2 : xSt) : Prop := (∀ o, (o = 1 ∨ o = 3 ∨ o = 5 ∨ o = 6) → z2.1 o = z.1 o) ∧ ∀ k, (k = 2 ∨ k = 8 ∨ k = 28) → z2.1 0 k = z.1 0 k
theorem fQ_st {z : xSt} : fQ z (stZ z) := by
  have h1 : fR 30 z (goZ (fiZ (rdW z) (¬ (rdW z).1 0 23 = nI 2) (-11))) := (fR_rdW.fi ..).go
  unfold stZ
  exact ⟨fun o ho => by rw [u1_ne _ (by omega)]; exact h1.1 o ho, fun k hk => by rw [u1_sne _ _ _ (by omega)]; exact h1.2 k (by omega) (by omega)⟩
theorem ld_loop : ∀ (k i mc dc Y : Nat) (zc zm : xSt), i + k = 900 → lR n mc dc Y zc zm → zm.1 0 29 = nI i → (¬ tN zc 3 = 0 → i + 1 ≤ aQ zm) →
    ldO (k + 2) zm ∧ ((∃ I mc dc Y, (rdL k i zc).1 = nI I ∧ I ≤ 900 ∧ lR n mc dc Y (rdL k i zc).2 (ldL (k + 2) zm) ∧ (ldL (k + 2) zm).1 0 29 = nI I) ∨ ((rdL k i zc).1 < 0 ∧ er (rdL k i zc).1 ((rdL k i zc).2.1 14 4) (ldL (k + 2) zm))) ∧ fC zc (rdL k i zc).2 ∧ fQ zm (ldL (k + 2) zm)
  | 0, i, mc, dc, Y, zc, zm, hi, h, h29, ha => by
    have k0 : tN zc 3 = 0 := Classical.byContradiction (fun q => by
      have a1 := ha q
      have a2 := h.1.1.2.1.1.2.2.1
      have a3 := h.1.1.2.1.1.2.2.2
      omega)
    have t4 : zm.1 0 23 = nI 4 := h.1.k0.mpr k0
    have eL : ldL (0 + 2) zm = zm := ldL_e (fun q => q.2 t4)
    rw [eL]
    exact ⟨fun _ q => absurd t4 q, Or.inl ⟨i, mc, dc, Y, rfl, by omega, h, h29⟩, fC.r0, fun _ _ => rfl, fun _ _ => rfl⟩
  | k + 1, i, mc, dc, Y, zc, zm, hi, h, h29, ha => by
    by_cases k0 : tN zc 3 = 0
    · have t4 : zm.1 0 23 = nI 4 := h.1.k0.mpr k0
      have eL : ldL (k + 1 + 2) zm = zm := ldL_e (fun q => q.2 t4)
      rw [eL, rdL_0 k0]
      exact ⟨fun _ q => absurd t4 q, Or.inl ⟨i, mc, dc, Y, rfl, by omega, h, h29⟩, fC.r0, fun _ _ => rfl, fun _ _ => rfl⟩
    · have t4 : ¬ zm.1 0 23 = nI 4 := fun q => k0 (h.1.k0.mp q)
      have h26 := h.2.1
      have hB : bOk zc 1 := (h.2.2.1.1.ok h.2.2.1.2.1 h.2.2.1.2.2).1
      have hz : zOk zm := h.1.1.2.1
      have eL : ldL (k + 1 + 2) zm = ldL (k + 2) (stZ zm) := by rw [ldL_s (k := k + 2) (by omega), if_pos ⟨h26, t4⟩]
      have fS := fC_rdS hB
      obtain ⟨s1, s2⟩ := l_st h
      rw [eL, rdL_s rfl, if_neg k0]
      have fin : ∀ (e p : Int32) (q : Int32 × xSt), er e p (stZ zm) → e = q.1 → p = q.2.1 14 4 → fC zc q.2 → ldO (k + 1 + 2) zm ∧ ((∃ I mc dc Y, q.1 = nI I ∧ I ≤ 900 ∧ lR n mc dc Y q.2 (ldL (k + 2) (stZ zm)) ∧ (ldL (k + 2) (stZ zm)).1 0 29 = nI I) ∨ (q.1 < 0 ∧ er q.1 (q.2.1 14 4) (ldL (k + 2) (stZ zm)))) ∧ fC zc q.2 ∧ fQ zm (ldL (k + 2) (stZ zm)) := fun e p q h1 h2 h3 h4 => by
        rw [ldL_er h1, ← h2, ← h3]
        exact ⟨fun _ _ => ⟨s2, ldO_er h1 _⟩, Or.inr ⟨h1.2.2, h1⟩, h4, fQ_st⟩
      rcases s1 with ⟨r1, mc2, dc2, Y2, hL⟩ | ⟨r1, r2⟩ | ⟨r1, r2, r3⟩
      · rw [if_pos r1]
        by_cases c3 : tN (rdS zc).2 3 = 3
        · rw [if_pos c3]
          have e1 : fiZ (rdW zm) (¬ (rdW zm).1 0 23 = nI 2) (-11) = rdW zm := fi_n (not_not_intro (hL.1.k3.mpr c3))
          have e29 : (nqZ (rdW zm)).1 0 29 + nI 1 = nI (i + 1) := by rw [nq_k (by omega), (fR_rdW (z := zm)).2 29 (by omega) (by omega), h29, nI_add]
          have eS : stZ zm = u1 (nqZ (rdW zm)) 0 29 (nI (i + 1)) := by
            unfold stZ
            rw [e1, go_0 hL.2.1, e29]
          have hL2 := hL.nx (nI (i + 1))
          rw [← eS] at hL2
          have ap := st_pg hz hL2.2.1
          have a0 := ha k0
          obtain ⟨i1, i2, i3, i4⟩ := ld_loop k (i + 1) mc2 dc2 Y2 (nx (rdS zc).2) (stZ zm) (by omega) hL2 (by rw [eS, u1_self]) (fun _ => by omega)
          exact ⟨fun _ _ => ⟨s2, i1⟩, i2, (fS.tr (fC.nx _)).tr i3, fun o ho => (i4.1 o ho).trans (fQ_st.1 o ho), fun j hj => (i4.2 j hj).trans (fQ_st.2 j hj)⟩
        · rw [if_neg c3]
          have k1 := er.mk (z := rdW zm) (P := ¬ (rdW zm).1 0 23 = nI 2) (c := -11) hL.2.1 (fun q => c3 (hL.1.k3.mp q)) neg11
          rw [hL.1.pl] at k1
          exact fin (-11) ((rdS zc).2.1 14 4) ((-11), (rdS zc).2) (by unfold stZ; exact k1.go.u _ (Or.inr (by decide))) rfl rfl fS
      · rw [if_neg (fun q => absurd r1 (by rw [q]; decide))]
        exact fin _ _ (rdS zc) (by unfold stZ; exact (r2.fi ..).go.u _ (Or.inr (by decide))) rfl rfl fS
      · rw [if_pos r1, if_neg r2]
        exact fin (-11) ((rdS zc).2.1 14 4) ((-11), (rdS zc).2) (by unfold stZ; exact (r3.fi ..).go.u _ (Or.inr (by decide))) rfl rfl fS
end LD8
