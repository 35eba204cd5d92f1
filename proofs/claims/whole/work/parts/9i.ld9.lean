/-! BOTH ANSWER ALIKE: load -/
theorem gv_00 : ∀ k, k < 5 → ¬ (nI 0 >>> (nI k &&& 31) &&& nI 1 = nI 1) := by decide
section LD9
variable {n q : Nat} {zc zm : xSt}
theorem nb0_o {o : Nat} (h : o = 1 ∨ o = 6) : (nb0 zm n).1 o = zm.1 o := by
  unfold nb0
  rw [u1_ne _ (by omega), u1_ne _ (by omega), u1_ne _ (by omega), u1_ne _ (by omega), u1_ne _ (by omega), nbk_o (by omega), ur_ne _ _ (by omega), ur_ne _ _ (by omega), u1_ne _ (by omega)]
theorem nb0_3 : (nb0 zm n).1 3 = zm.1 2 := by
  unfold nb0
  rw [u1_ne _ (by omega), u1_ne _ (by omega), u1_ne _ (by omega), u1_ne _ (by omega), u1_ne _ (by omega), nbk_o (by omega), ur_ne _ _ (by omega), ur_at, u1_ne _ (by omega)]
theorem nb0_5 : (nb0 zm n).1 5 = zm.1 4 := by
  unfold nb0
  rw [u1_ne _ (by omega), u1_ne _ (by omega), u1_ne _ (by omega), u1_ne _ (by omega), u1_ne _ (by omega), nbk_o (by omega), ur_at, ur_ne _ _ (by omega), u1_ne _ (by omega)]
theorem nb0_2 : (nb0 zm n).1 2 = fun _ => 0 := by
  unfold nb0
  rw [u1_ne _ (by omega), u1_ne _ (by omega), u1_ne _ (by omega), u1_ne _ (by omega), u1_ne _ (by omega), nbk_2]
theorem nb0_4 : (nb0 zm n).1 4 = row00 := by
  unfold nb0
  rw [u1_ne _ (by omega), u1_ne _ (by omega), u1_ne _ (by omega), u1_ne _ (by omega), u1_ne _ (by omega), nbk_4]
theorem nb0_k {k : Nat} (h : k = 2 ∨ k = 8 ∨ k = 28) : (nb0 zm n).1 0 k = zm.1 0 k := by
  unfold nb0
  rw [u1_sne _ _ _ (by omega), u1_sne _ _ _ (by omega), u1_sne _ _ _ (by omega), u1_sne _ _ _ (by omega), u1_sne _ _ _ (by omega), nbk_o (by omega), ur_ne _ _ (by omega), ur_ne _ _ (by omega), u1_sne _ _ _ (by omega)]
theorem rdO_o {o : Nat} (h : o ≠ 14 ∧ o ≠ 18 ∧ o ≠ oB 1 ∧ o ≠ oSt 1) : (rdO zc n q).1 o = zc.1 o := by
  unfold rdO opn anew
  rw [nx_hi h.1, u1_ne _ h.1, u1_ne _ h.1, ur_ne _ _ h.2.1, ur_ne _ _ h.2.2.2, ur_ne _ _ h.2.2.1]
theorem rdO_18 : (rdO zc n q).1 18 = fun _ => 0 := by
  unfold rdO opn
  rw [nx_hi (by decide), u1_ne _ (by decide), u1_ne _ (by decide), ur_at]
theorem rdO_B : (rdO zc n q).1 (oB 1) = fun _ => 0 := by
  unfold rdO opn anew
  rw [nx_hi (by decide), u1_ne _ (by decide), u1_ne _ (by decide), ur_ne _ _ (by decide), ur_ne _ _ (by decide), ur_at]
theorem rdO_S : (rdO zc n q).1 (oSt 1) = xIni := by
  unfold rdO opn anew
  rw [nx_hi (by decide), u1_ne _ (by decide), u1_ne _ (by decide), ur_ne _ _ (by decide), ur_at]
theorem ld_start (hq : q ≤ 900) (hn : n ≤ q) (hb : ∀ j, j < q → byR (zc.1 15 j) (zm.1 1 j)) : lR n 0 0 0 (rdO zc n q) (ldA zm n) ∧ (ldA zm n).1 0 29 = nI 0 ∧ (¬ tN (rdO zc n q) 3 = 0 → 0 + 1 ≤ aQ (ldA zm n)) := by
  have hP : zPr (nb0 zm n) := nb_pr (by omega)
  have hT : tR n (rdO zc n q) (ldA zm n) := by
    refine nx_tR (opn_pre hq) hP ?_ ?_ (by omega) ?_ (fun j hj => ?_)
    · show (nI (min n q)).toNatClampNeg = n
      rw [Nat.min_eq_left hn]; exact nI_clamp (by omega)
    · show (nI n).toNatClampNeg = n
      exact nI_clamp (by omega)
    · rfl
    · have e1 : (u1 (u1 (ur (anew zc 1) 18 (fun _ => 0)) 14 2 (nI (min n q))) 14 5 0).1 15 = zc.1 15 := by
        unfold anew
        rw [u1_ne _ (by decide), u1_ne _ (by decide), ur_ne _ _ (by decide), ur_ne _ _ (by decide), ur_ne _ _ (by decide)]
      rw [e1, nb0_o (Or.inl rfl)]
      exact hb j (by omega)
  have r2 : (ldA zm n).1 2 = fun _ => 0 := by unfold ldA; rw [(nq_fr _).1 2 (by decide), nb0_2]
  have r4 : (ldA zm n).1 4 = row00 := by unfold ldA; rw [(nq_fr _).1 4 (by decide), nb0_4]
  refine ⟨⟨hT, ?_, ⟨?_, ?_, by omega⟩, ?_, ?_⟩, ?_, fun h => ?_⟩
  · unfold ldA nb0
    rw [nq_26, u1_sne _ _ _ (by decide), u1_sne _ _ _ (by decide), u1_self]
  · rw [r2, r4]
    exact eqB_00 (fun k => by rw [rdO_B]) (fun k _ => by rw [rdO_S])
  · rw [r2, r4]; exact rI_00
  · rw [r4]; exact hiZ_00
  · have e30 : (ldA zm n).1 0 30 = 0 := by
      unfold ldA nb0
      rw [nq_k (by omega), u1_sne _ _ _ (by decide), u1_self]
    rw [rdO_18, e30]
    exact ⟨0, by omega, rfl, fun k hk => ⟨fun _ => gv_00 k hk, fun _ => rfl⟩⟩
  · unfold ldA nb0
    rw [nq_k (by omega), u1_self]
    rfl
  · have h1 := (nq_pg hP).2 (fun q => h (hT.k0.mp q))
    show 0 + 1 ≤ aQ (nqZ (nb0 zm n))
    omega
end LD9
set_option maxHeartbeats 1000000 in
theorem s_load (l : Launch) (x : Int32) : lP l jJ yX9_load cX9_load 3 (some FieldType.int) rm_X9_load yX10_load cX10_load 2 (some FieldType.int) rm_X10_load [.int x] := by
  intro G w v K zc zm hw hv hJ
  obtain ⟨⟨q, q1, q2, q9, qb⟩, h28, hcn, mc, dc, Y, u, f, hH⟩ := id hJ
  have key : ∀ n, n ≤ q → _ := fun n hn => ld_loop (n := n) 900 0 0 0 0 (rdO zc n q) (ldA zm n) rfl (ld_start (zc := zc) (zm := zm) q9 hn qb).1 (ld_start (zc := zc) (zm := zm) q9 hn qb).2.1 (ld_start (zc := zc) (zm := zm) q9 hn qb).2.2
  have xof : (¬ x < 0 ∧ x ≤ nI q) → ∃ n, n ≤ q ∧ x.toNatClampNeg = n := fun h => by
    obtain ⟨n, hn, e⟩ := nI_of2 (M := nI q) (n := q) (nI_toInt (by omega)) h.1 h.2
    exact ⟨n, hn, by rw [e]; exact nI_clamp (by omega)⟩
  have xif : ¬ (x < 0 ∨ ¬ x ≤ nI q) ↔ (¬ x < 0 ∧ x ≤ nI q) := ⟨fun h => ⟨fun t => h (Or.inl t), Classical.byContradiction (fun t => h (Or.inr t))⟩, fun h t => t.elim h.1 (fun t => t h.2)⟩
  refine ⟨_, _, fun sz => c_X9_load l G w K hw zc sz x q q1 q9 hcn.2, fun sz => c_X10_load l G v hv zm sz x q q2 q9 (fun h => ?_), ?_⟩
  · obtain ⟨n, hn, en⟩ := xof (xif.mp h)
    rw [en]
    exact (key n hn).1
  rintro r1 r2 z1 z2 e1 e2
  by_cases c : ¬ x < 0 ∧ x ≤ nI q
  · rw [if_pos c] at e1
    rw [if_neg (xif.mpr c)] at e2
    obtain ⟨n, hn, en⟩ := xof c
    rw [en] at e1 e2
    obtain ⟨-, k2, k3, k4⟩ := key n hn
    have hcn1 : cnB (rdX zc n q).2 1 := (rdX_ok q9 hcn.2).1
    have eX : rdX zc n q = rdL 900 0 (rdO zc n q) := rfl
    rw [← eX] at k2 k3
    have eM : ldL (900 + 2) (ldA zm n) = ldL 902 (ldA zm n) := rfl
    rw [eM] at k2 k4
    unfold ldZ at e1
    generalize rdX zc n q = C at e1 k2 k3 hcn1
    have fo : ∀ o, (o = 0 ∨ o = 2 ∨ (19 ≤ o ∧ o < 67) ∨ 115 ≤ o) → C.2.1 o = zc.1 o := fun o ho => by
      rw [k3.1 o (by omega)]
      exact rdO_o (by unfold oB oSt; omega)
    have m6 : (ldL 902 (ldA zm n)).1 6 = zm.1 6 := by rw [k4.1 6 (by omega)]; unfold ldA; rw [(nq_fr _).1 6 (by decide), nb0_o (Or.inr rfl)]
    have m3 : (ldL 902 (ldA zm n)).1 3 = zm.1 2 := by rw [k4.1 3 (by omega)]; unfold ldA; rw [(nq_fr _).1 3 (by decide), nb0_3]
    have m5 : (ldL 902 (ldA zm n)).1 5 = zm.1 4 := by rw [k4.1 5 (by omega)]; unfold ldA; rw [(nq_fr _).1 5 (by decide), nb0_5]
    have m8 : (ldL 902 (ldA zm n)).1 0 8 = zm.1 0 8 := by rw [k4.2 8 (by omega)]; unfold ldA; rw [nq_k (by omega), nb0_k (by omega)]
    generalize ldL 902 (ldA zm n) = M at e2 k2 m6 m3 m5 m8
    have hc0 : cnB C.2 0 := fun m hm => by rw [fo (oM 0 m) (by unfold oM; omega)]; exact hcn.1 m hm
    rcases k2 with ⟨I, mc2, dc2, Y2, j1, j2, hL, j4⟩ | ⟨j1, j2⟩
    · obtain ⟨hT, h0, ⟨hE, hI, hY⟩, hz, hg⟩ := hL
      obtain ⟨hB, em, ed, eY⟩ := hE.ok hI hY
      have h8 : mc2 ≤ 8 := hI.1.2.1
      have h4 : dc2 ≤ 4 := hI.1.2.2.2.1
      rw [if_neg (by rw [j1]; exact nI_pos (by omega)), em, ed] at e1
      unfold ldR at e2
      rw [if_pos h0] at e2
      obtain ⟨ea, eb⟩ := Prod.mk.inj e1
      obtain ⟨ec, ed_⟩ := Prod.mk.inj e2
      refine ⟨by rw [ea, ec, j1, j4], ?_⟩
      rw [eb, ed_]
      obtain ⟨⟨d1, d2, d3, d4, d5, d6, d7⟩, -⟩ := hH
      have lo : ∀ o, o ≠ 0 → o ≠ 14 → (u1 (u1 C.2 14 1 0) 0 8 (-1)).1 o = C.2.1 o := fun o h1 h2 => by rw [u1_ne _ h1, u1_ne _ h2]
      refine ⟨⟨0, ?_, ?_, by omega, fun j hj => absurd hj (Nat.not_lt_zero j)⟩, ?_, ⟨?_, ?_⟩, mc2, dc2, Y2, 0, f, ⟨?_, ?_, ?_, d4, by omega, d6, d7⟩, ⟨?_, ?_, hY⟩, fun j hj => absurd hj (Nat.not_lt_zero j)⟩
      · rw [u1_ne _ (by decide), cpA_lo (by decide), u1_ne _ (by decide), u1_self]; rfl
      · rw [u1_sne _ _ _ (by decide), u1_sne _ _ _ (by decide), u1_self]; rfl
      · rw [u1_ne _ (by decide), cpA_lo (by decide), u1_self, u1_sne _ _ _ (by decide), u1_self]
      · intro m hm
        rw [u1_ne _ (by unfold oM; omega)]
        exact cpA_cn (fun m hm => by rw [lo _ (by unfold oM; omega) (by unfold oM; omega)]; exact hc0 m hm) (fun m hm => by rw [lo _ (by unfold oM; omega) (by unfold oM; omega)]; exact hcn1 m hm) m hm
      · intro m hm
        rw [u1_ne _ (by unfold oM; omega), cpA_out (by unfold oM; omega), lo _ (by unfold oM; omega) (by unfold oM; omega)]
        exact hcn1 m hm
      · rw [u1_self]; rfl
      · rw [u1_self]; rfl
      · rw [u1_sne _ _ _ (by decide), cpA_lo (by decide), lo _ (by decide) (by decide), fo 2 (by omega)]; exact d3
      · rw [u1_ne _ (by decide), u1_ne _ (by decide), u1_ne _ (by decide), u1_ne _ (by decide), u1_ne _ (by decide), u1_ne _ (by decide)]
        refine eqB.fr (z := cpA (u1 (u1 C.2 14 1 0) 0 8 (-1)) 0 1 mc2 dc2) ?_ (fun o h1 h2 => u1_ne _ (by omega)) h8 h4
        exact eqB.cp (hE.fr (fun o h1 h2 => lo o (by omega) (by omega)) h8 h4) h8 h4
      · rw [u1_ne _ (by decide), u1_ne _ (by decide), u1_ne _ (by decide), u1_ne _ (by decide), u1_ne _ (by decide), u1_ne _ (by decide)]
        exact hI
    · rw [if_pos j1] at e1
      unfold ldR at e2
      rw [if_neg j2.ne] at e2
      obtain ⟨ea, eb⟩ := Prod.mk.inj e1
      obtain ⟨ec, ed_⟩ := Prod.mk.inj e2
      refine ⟨by rw [ea, ec, j2.1], ?_⟩
      rw [eb, ed_, m3, m5]
      refine ⟨⟨0, ?_, ?_, by omega, fun j hj => absurd hj (Nat.not_lt_zero j)⟩, ?_, ⟨?_, ?_⟩, mc, dc, Y, u, f, ?_⟩
      · rw [u1_ne _ (by decide), u1_self]; rfl
      · rw [ur_ne _ _ (by decide), ur_ne _ _ (by decide), u1_sne _ _ _ (by decide), u1_self]; rfl
      · rw [u1_self, ur_ne _ _ (by decide), ur_ne _ _ (by decide), u1_self, j2.2.1]
      · intro m hm
        rw [u1_ne _ (by unfold oM; omega), u1_ne _ (by unfold oM; omega)]; exact hc0 m hm
      · intro m hm
        rw [u1_ne _ (by unfold oM; omega), u1_ne _ (by unfold oM; omega)]; exact hcn1 m hm
      · refine hH.fr (fun o ho => ?_) (fun o ho => ?_) ?_
        · rw [u1_ne _ (by omega), u1_ne _ (by omega)]; exact fo o (by omega)
        · rcases ho with rfl | rfl | rfl
          · rw [ur_ne _ _ (by decide), ur_at]
          · rw [ur_at]
          · rw [ur_ne _ _ (by decide), ur_ne _ _ (by decide), u1_ne _ (by decide), u1_ne _ (by decide), m6]
        · rw [ur_ne _ _ (by decide), ur_ne _ _ (by decide), u1_sne _ _ _ (by decide), u1_sne _ _ _ (by decide), m8]
  · rw [if_neg c] at e1
    rw [if_pos (Classical.byContradiction (fun t => c (xif.mp t)))] at e2
    obtain ⟨ea, eb⟩ := Prod.mk.inj e1
    obtain ⟨ec, ed_⟩ := Prod.mk.inj e2
    exact ⟨ea.trans ec.symm, by rw [eb, ed_]; exact hJ.u0 0⟩
/-- the two new objects agree -/
theorem j_start : jJ 0 zC0 (nbk zM0) := by
  refine ⟨⟨0, rfl, ?_, by omega, fun j hj => absurd hj (Nat.not_lt_zero j)⟩, ?_, ⟨fun m hm => Or.inl ?_, fun m hm => Or.inl ?_⟩, 0, 0, 0, 0, 0, ⟨rfl, ?_, rfl, by omega, by omega, fun _ => rfl, by omega⟩, ⟨?_, ?_, by omega⟩, fun j hj => absurd hj (Nat.not_lt_zero j)⟩
  · rw [nbk_o (by decide)]; rfl
  · rw [nbk_o (by decide)]; rfl
  · show zC0.1 (oM 0 m) 1 = 0
    rcases (show m = 0 ∨ m = 1 ∨ m = 2 ∨ m = 3 ∨ m = 4 ∨ m = 5 ∨ m = 6 ∨ m = 7 by omega) with rfl | rfl | rfl | rfl | rfl | rfl | rfl | rfl <;> rfl
  · show zC0.1 (oM 1 m) 1 = 0
    rcases (show m = 0 ∨ m = 1 ∨ m = 2 ∨ m = 3 ∨ m = 4 ∨ m = 5 ∨ m = 6 ∨ m = 7 by omega) with rfl | rfl | rfl | rfl | rfl | rfl | rfl | rfl <;> rfl
  · rw [nbk_o (by decide)]; rfl
  · rw [nbk_2, nbk_4]
    refine eqB_00 (fun k => rfl) (fun k hk => ?_)
    rcases (show k = 0 ∨ k = 1 ∨ k = 2 ∨ k = 3 ∨ k = 4 by omega) with rfl | rfl | rfl | rfl | rfl <;> rfl
  · rw [nbk_2, nbk_4]; exact rI_00
