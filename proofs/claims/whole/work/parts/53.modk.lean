/-! THE REFERENCE: a text is loaded -/
def nb0 (z : xSt) (n : Nat) : xSt := u1 (u1 (u1 (u1 (u1 (nbk (ur (ur (u1 z 0 0 0) 3 ((u1 z 0 0 0).1 2)) 5 ((ur (u1 z 0 0 0) 3 ((u1 z 0 0 0).1 2)).1 4))) 0 20 (nI n)) 0 21 0) 0 26 0) 0 30 0) 0 29 0
def ldA (z : xSt) (n : Nat) : xSt := nqZ (nb0 z n)
def ldL : Nat → xSt → xSt
  | 0, y => y
  | k + 1, y => if y.1 0 26 = 0 ∧ ¬ y.1 0 23 = nI 4 then ldL k (stZ y) else y
theorem ldL_s {n k : Nat} {y : xSt} (h : n = k + 1) : ldL n y = if y.1 0 26 = 0 ∧ ¬ y.1 0 23 = nI 4 then ldL k (stZ y) else y := by rw [h]; rfl
theorem ldL_e {n : Nat} {y : xSt} (h : ¬ (y.1 0 26 = 0 ∧ ¬ y.1 0 23 = nI 4)) : ldL n y = y := by
  cases n with
  | zero => rfl
  | succ k => exact if_neg h
def ldO : Nat → xSt → Prop
  | 0, _ => True
  | k + 1, y => y.1 0 26 = 0 → ¬ y.1 0 23 = nI 4 → (rsW y = nI 3 → (rc3 y).1 0 26 = 0 → clOk (rc3 y)) ∧ ldO k (stZ y)
theorem ldO_s {n k : Nat} {y : xSt} (h : n = k + 1) (g : ldO n y) (h1 : y.1 0 26 = 0) (h2 : ¬ y.1 0 23 = nI 4) : (rsW y = nI 3 → (rc3 y).1 0 26 = 0 → clOk (rc3 y)) ∧ ldO k (stZ y) := by
  rw [h] at g; exact g h1 h2
def ldR (y : xSt) : Int32 × xSt := if y.1 0 26 = 0 then (y.1 0 29, u1 (u1 (u1 y 0 2 0) 0 28 (-1)) 0 8 0) else (y.1 0 26, ur (ur (u1 (u1 y 0 2 0) 0 28 (y.1 0 27)) 2 (y.1 3)) 4 (y.1 5))
theorem nb_pr {z : xSt} {n : Nat} (h : n ≤ 900) : zPr (nb0 z n) := by
  have e1 : aQ (nb0 z n) = 0 := rfl
  have e2 : sQ (nb0 z n) = n := by show (nI n).toNatClampNeg = n; exact nI_clamp (by omega)
  refine ⟨by rw [e1]; rfl, by rw [e2]; rfl, by rw [e1]; omega, by rw [e2]; exact h⟩
theorem ldA_rok (z : xSt) (n : Nat) : rOk (ldA z n) := by
  unfold ldA
  refine (nq_fr _).ok ?_
  have e1 : mQ (nb0 z n) 12 = 0 := rfl
  have e2 : mQ (nb0 z n) 13 = 0 := rfl
  have e3 : yQ (nb0 z n) = 0 := rfl
  refine ⟨by rw [e1]; rfl, by omega, by rw [e2]; rfl, by omega, by rw [e3]; rfl, by omega⟩
/-! the text is read on -/
theorem aQ_of {z z2 : xSt} (h : z2.1 0 21 = z.1 0 21) : aQ z2 = aQ z := by unfold aQ; rw [h]
theorem rq_a {z : xSt} {a : Nat} {p t v : Int32} (h : a < 2 ^ 31) : aQ (RQr z (nI a) p t v) = a := by
  show (nI a).toNatClampNeg = _; exact nI_clamp h
theorem nq_pg {z : xSt} (h : zPr z) : aQ z ≤ aQ (nqZ z) ∧ (¬ (nqZ z).1 0 23 = 4 → aQ z < aQ (nqZ z)) := by
  have h3 := h.2.2.1
  have h9 := h.2.2.2
  have b1 := wsQ_b (z.1 1) (sQ z) (sQ z - aQ z) (aQ z)
  have e1 : wsQ (z.1 1) (sQ z) (sQ z - aQ z) (aQ z) = nqS z := rfl
  rw [e1] at b1
  unfold nqZ
  split
  · refine ⟨by rw [rq_a (by omega)]; omega, fun q => absurd rfl q⟩
  · rename_i hc
    have hl : nqS z < sQ z := hQ_lt hc
    split
    · rename_i hs
      unfold nqC at hs
      have b2 := smQ_b (z.1 1) (sQ z) (sQ z - (nqS z + 1)) (nqS z + 1)
      have e2 : nqW z = smQ (z.1 1) (sQ z) (sQ z - (nqS z + 1)) (nqS z + 1) := by
        unfold nqW
        rw [smQ_s (k := sQ z - (nqS z + 1)) (by omega), if_pos hs]
      rw [← e2] at b2
      rw [rq_a (by omega)]
      exact ⟨by omega, fun _ => by omega⟩
    · split
      · rename_i hs
        unfold nqC at hs
        have b3 := dgR_b (z.1 1) (sQ z) (sQ z - (nqS z + 1)) (nqS z + 1) (if nI 0 ≤ nI 10000000 then nI 10 * nI 0 + hQ (z.1 1) (sQ z) (nqS z) - nI 48 else nI 0)
        have e3 : nqD z = dgR (z.1 1) (sQ z) (sQ z - (nqS z + 1)) (nqS z + 1) (if nI 0 ≤ nI 10000000 then nI 10 * nI 0 + hQ (z.1 1) (sQ z) (nqS z) - nI 48 else nI 0) := by
          unfold nqD
          rw [dgR_s (k := sQ z - (nqS z + 1)) (by omega), if_pos hs]
        rw [← e3] at b3
        rw [rq_a (by omega)]
        exact ⟨by omega, fun _ => by omega⟩
      · rw [rq_a (by omega)]
        exact ⟨by omega, fun _ => by omega⟩
theorem go_pg {z : xSt} (h : zOk z) : aQ z ≤ aQ (goZ z) := by
  unfold goZ; split
  · exact (nq_pg h.1).1
  · exact Nat.le_refl _
theorem fi_a (z : xSt) (P : Prop) [Decidable P] (c : Int32) : aQ (fiZ z P c) = aQ z := aQ_of (fi_k (by decide) (by decide))
theorem fg_a (z : xSt) (lo hi : Int32) : aQ (fgZ z lo hi) = aQ z := by unfold fgZ; rw [fi_a, fi_a]
theorem sn_a (z : xSt) : aQ (snZ z) = aQ z := aQ_of (by rw [sn_k (by decide)]; exact fi_k (by decide) (by decide))
theorem sn_t {z : xSt} (h : (snZ z).1 0 26 = 0) : z.1 0 23 = 0 := by
  rw [sn_k (by decide)] at h
  unfold snP at h
  exact Classical.byContradiction (fun q => (fi_e (by decide) h).2 (Or.inl q))
theorem nn_pg {z : xSt} (h : zOk z) : aQ z ≤ aQ (nnZ z) := by
  unfold nnZ
  have := go_pg (z := fiZ (snZ z) ((snZ z).1 0 26 = 0 ∧ hdQ (snZ z)) (-14)) (sn_ok h).fi
  rw [fi_a, sn_a] at this
  exact this
theorem nn_t {z : xSt} (h : (nnZ z).1 0 26 = 0) : z.1 0 23 = 0 := by
  unfold nnZ at h
  exact sn_t (fi_e (by decide) (go_e h)).1
theorem on_pg {z : xSt} {f n : Nat} (h : zOk z) : aQ z ≤ aQ (onZ z f n) := by
  unfold onZ
  have := go_pg (z := fiZ (snZ z) (onX z f n = (-1)) (-13)) (sn_ok h).fi
  rw [fi_a, sn_a] at this
  exact this
theorem on_t {z : xSt} {f n : Nat} (h : (onZ z f n).1 0 26 = 0) : z.1 0 26 = 0 ∧ z.1 0 23 = 0 := by
  unfold onZ at h
  have h1 := (fi_e (by decide) (go_e h)).1
  exact ⟨sn_e h1, sn_t h1⟩
theorem gof {z : xSt} {P : Prop} [Decidable P] {c : Int32} (hc : c ≠ 0) (h : (goZ (fiZ z P c)).1 0 26 = 0) : goZ (fiZ z P c) = nqZ z := by
  have h1 := fi_e hc (go_e h)
  rw [fi_n h1.2]
  exact if_pos h1.1
theorem go_nq {z : xSt} (h : z.1 0 26 = 0) : goZ z = nqZ z := if_pos h
theorem t04 {x : Int32} (h : x = 0) : ¬ x = 4 := by rw [h]; decide
theorem rmZ_pg {z : xSt} (h : zOk z) (he : (rmZ z).1 0 26 = 0) : aQ z < aQ (rmZ z) := by
  have key : (rm4 z).1 0 26 = 0 → aQ z < aQ (rm4 z) := by
    intro h1
    rw [rm4_26] at h1
    have h2 : aQ (rm3 z) ≤ aQ (rm4 z) := by
      unfold rm4; split
      · exact (nq_pg (rm3_ok h).1).1
      · exact Nat.le_refl _
    have h3 : aQ z < aQ (rm3 z) := by
      unfold rm3 at h1 ⊢
      have h4 := nn_t h1
      have h5 := gof (by decide) (nn_e h1)
      have h6 := nn_pg (go_ok (h.fi (P := mQ z 12 = 8) (c := -16)))
      rw [h5] at h4 h6 ⊢
      have h7 := (nq_pg h.1).2 (t04 h4)
      omega
    omega
  unfold rmZ at he ⊢
  by_cases q : (rm4 z).1 0 26 = 0
  · rw [if_pos q]
    refine Nat.lt_of_lt_of_eq (key q) (aQ_of ?_).symm
    rw [u1_ne _ (by decide), u1_ne _ (by decide), u1_ne _ (by decide)]
  · rw [if_neg q] at he; exact absurd he q
theorem rpZ_pg {z : xSt} (h : zOk z) (he : (rpZ z).1 0 26 = 0) : aQ z < aQ (rpZ z) := by
  have key : (rpF z).1 0 26 = 0 → aQ z < aQ (rpF z) := by
    intro h1
    unfold rpF at h1 ⊢
    have h4 := nn_t h1
    have h2 := nn_e h1
    have h8 := fi_e (by decide) (go_e h2)
    have h5 := gof (by decide) h2
    rw [fi_n (fi_e (by decide) h8.1).2] at h1 h2 h4 h5 ⊢
    have h6 := nn_pg (go_ok (h.fi (P := mQ z 13 = 4) (c := -16)))
    rw [h5] at h4 h6 ⊢
    have h7 := (nq_pg h.1).2 (t04 h4)
    omega
  unfold rpZ at he ⊢
  by_cases q : (rpF z).1 0 26 = 0
  · rw [if_pos q]
    refine Nat.lt_of_lt_of_eq (key q) (aQ_of ?_).symm
    rw [u1_ne _ (by decide), u1_ne _ (by decide)]
  · rw [if_neg q] at he; exact absurd he q
theorem rtZ_pg {z : xSt} (h : zOk z) (he : (rtZ z).1 0 26 = 0) : aQ z < aQ (rtZ z) := by
  unfold rtZ at he ⊢
  have h1 := go_e he
  have h6 := go_pg (rt6_ok h)
  have h2 : (rt5 z).1 0 26 = 0 := by
    unfold rt6 at h1
    split at h1
    · rename_i q; exact q
    · exact h1
  have e6 : aQ (rt6 z) = aQ (rt5 z) := by
    unfold rt6
    rw [if_pos h2]
    exact aQ_of (by rw [u1_ne _ (by decide)])
  unfold rt5 at h2 e6
  have h3 := (fi_e (by decide) h2).1
  rw [fi_a] at e6
  unfold rt4 at h3 e6
  rw [fg_a] at e6
  have h4 := on_t (fg_e h3)
  have h5 := on_t h4.1
  have g1 := on_pg (f := 0) (n := mQ z 12) (go_ok h)
  have g2 := on_pg (f := 8) (n := mQ z 13) (on_ok (f := 0) (n := mQ z 12) (go_ok h))
  have eg := go_nq (go_e h5.1)
  rw [eg] at h5 g1 g2 e6
  have h7 := (nq_pg h.1).2 (t04 h5.2)
  omega
theorem rc1_pg {s : xSt} (h : zOk s) : aQ s ≤ aQ (rc1 s) := by
  unfold rc1; split
  · exact (nq_pg h.1).1
  · exact Nat.le_refl _
theorem rkS_pg {s : xSt} {d : Nat} (h : zOk s) : aQ s ≤ aQ (rkS s d) := by
  unfold rkS
  have h1 := go_pg (rcU_ok (d := d) h)
  have e : aQ (rcU s d) = aQ (rc1 s) := by
    unfold rcU
    rw [aQ_of (z := fgZ (rc1 s) 0 1000000) (by rw [u1_ne _ (by decide)]), fg_a]
  have h2 := rc1_pg h
  omega
theorem rkL_pg : ∀ (k d : Nat) {s : xSt}, zOk s → aQ s ≤ aQ (rkL k d s)
  | 0, _, _, _ => Nat.le_refl _
  | k + 1, d, s, h => by
    rw [rkL_s rfl]
    split
    · have h1 := rkS_pg (d := d) h
      have h2 := rkL_pg k (d + 1) (rkS_ok (d := d) h)
      omega
    · exact Nat.le_refl _
theorem rkS_t {s : xSt} {d : Nat} (h : (rkS s d).1 0 26 = 0) : ¬ s.1 0 23 = 4 := by
  unfold rkS at h
  have h2 := go_e h
  unfold rcU at h2
  rw [u1_ne _ (by decide)] at h2
  unfold fgZ at h2
  have h3 := (fi_e (by decide) (fi_e (by decide) h2).1).2
  intro q
  refine h3 ?_
  unfold rc1
  rw [if_neg (by rw [q]; decide), q]
  decide
theorem rcX_pg {z : xSt} (h : zOk z) (he : (rcX z).1 0 26 = 0) : aQ z < aQ (rcX z) := by
  have h3 : (rc3 z).1 0 26 = 0 := by
    unfold rcX at he
    split at he
    · rename_i q; exact q
    · exact he
  have e3 : aQ (rcX z) = aQ (rc3 z) := by
    unfold rcX; rw [if_pos h3]
    exact aQ_of (clQ_0 (by decide))
  rw [e3]
  have h2 := rc3_e h3
  have e2 : aQ (rc3 z) = aQ (rc2 z) := by unfold rc3; exact fi_a ..
  rw [e2]
  have h1 := rkL_pg (mQ z 13) 0 (rc0_ok h)
  have e0 : rkL (mQ z 13) 0 (rc0 z) = rc2 z := rfl
  have h0 : (rc0 z).1 0 26 = 0 := by
    have := h2.1
    rw [← e0] at this
    exact rkL_e _ _ this
  have h4 : (goZ (fiZ z (yQ z = 24) (-16))).1 0 26 = 0 := by
    unfold rc0 at h0
    rw [zQ_o (by decide)] at h0
    exact h0
  have h5 := gof (by decide) h4
  have a0 : aQ (rc0 z) = aQ (nqZ z) := by
    unfold rc0
    rw [aQ_of (z := goZ (fiZ z (yQ z = 24) (-16))) (by rw [zQ_o (by decide)]), h5]
  have t0 : (rc0 z).1 0 23 = (nqZ z).1 0 23 := by
    unfold rc0
    rw [zQ_o (by decide), h5]
  have h6 : ¬ (rc0 z).1 0 23 = 4 := by
    have g := h2
    rw [← e0] at g
    cases hD : mQ z 13 with
    | zero =>
      rw [hD] at g
      intro q
      have g2 : (rc0 z).1 0 23 = nI 2 := g.2
      rw [q] at g2
      exact absurd g2 (by decide)
    | succ k =>
      rw [hD, rkL_s rfl, if_pos h0] at g
      exact rkS_t (rkL_e _ _ g.1)
  rw [t0] at h6
  have h7 := (nq_pg h.1).2 h6
  rw [e0] at h1
  omega
theorem rsZ_pg {z : xSt} (h : zOk z) (he : (rsZ z).1 0 26 = 0) : aQ z < aQ (rsZ z) := by
  unfold rsZ at he ⊢
  have h1 := go_e he
  have g1 := go_pg (rs7_ok h)
  have e7 : aQ (rs7 z) = aQ (rs6 z) := by unfold rs7; exact aQ_of (by rw [u1_ne _ (by decide)])
  have h2 : (rs6 z).1 0 26 = 0 := by unfold rs7 at h1; rw [u1_ne _ (by decide)] at h1; exact h1
  unfold rs6 at h2 e7
  rw [fg_a] at e7
  have h3 := go_e (fg_e h2)
  have g2 := go_pg (rs4_ok h)
  have e4 : aQ (rs4 z) = aQ (rs3 z) := by unfold rs4; exact aQ_of (u1_sne _ _ _ (by decide))
  have h4 : (rs3 z).1 0 26 = 0 := by unfold rs4 at h3; rw [u1_sne _ _ _ (by decide)] at h3; exact h3
  unfold rs3 at h4 e4
  rw [fi_a] at e4
  have h5 := (fi_e (by decide) h4).1
  unfold rs2 at h5 e4
  rw [fi_a] at e4
  have h6 := fi_e (by decide) h5
  have h7 : rsI z := Classical.byContradiction h6.2
  have h8 := h7.2.1
  have eg := go_nq (go_e h6.1)
  rw [eg] at h8 e4
  have h9 := (nq_pg h.1).2 (t04 h8)
  omega
theorem rdW_pg {z : xSt} (h : zOk z) (he : (rdW z).1 0 26 = 0) : aQ z < aQ (rdW z) := by
  unfold rdW at he ⊢
  by_cases h0 : rsW z = nI 0
  · rw [if_pos h0] at he ⊢; exact rmZ_pg h he
  rw [if_neg h0] at he ⊢
  by_cases h1 : rsW z = nI 1
  · rw [if_pos h1] at he ⊢; exact rpZ_pg h he
  rw [if_neg h1] at he ⊢
  by_cases h2 : rsW z = nI 2
  · rw [if_pos h2] at he ⊢; exact rtZ_pg h he
  rw [if_neg h2] at he ⊢
  by_cases h3 : rsW z = nI 3
  · rw [if_pos h3] at he ⊢; exact rcX_pg h he
  rw [if_neg h3] at he ⊢
  by_cases h4 : rsW z = nI 4
  · rw [if_pos h4] at he ⊢; exact rsZ_pg h he
  rw [if_neg h4] at he ⊢
  exact absurd trivial (fi_e (by decide) he).2
theorem st_ok {z : xSt} (h : zOk z) : zOk (stZ z) := by
  unfold stZ
  exact (go_ok (rdW_ok h).fi).of (fun k _ _ => by rw [u1_sne _ _ _ (by omega)])
theorem st_pg {z : xSt} (h : zOk z) (he : (stZ z).1 0 26 = 0) : aQ z < aQ (stZ z) := by
  unfold stZ at he ⊢
  rw [u1_sne _ _ _ (by decide)] at he
  rw [aQ_of (z := goZ (fiZ (rdW z) (¬ (rdW z).1 0 23 = nI 2) (-11))) (u1_sne _ _ _ (by decide))]
  have h1 := rdW_pg h (fi_e (by decide) (go_e he)).1
  have h2 := go_pg (z := fiZ (rdW z) (¬ (rdW z).1 0 23 = nI 2) (-11)) (rdW_ok h).fi
  rw [fi_a] at h2
  omega
def ms (y : xSt) : Nat := if y.1 0 26 = 0 then 902 - aQ y else 0
theorem ms_le (y : xSt) : ms y ≤ 902 := by unfold ms; split <;> omega
theorem ms_pos {y : xSt} (h : zOk y) (he : y.1 0 26 = 0) : 1 ≤ ms y := by
  have h1 := h.1.2.2.1
  have h2 := h.1.2.2.2
  unfold ms; rw [if_pos he]; omega
theorem ms_lt {y : xSt} (h : zOk y) (he : y.1 0 26 = 0) : ms (stZ y) < ms y := by
  have h1 := ms_pos h he
  by_cases q : (stZ y).1 0 26 = 0
  · have h2 := st_pg h q
    have h3 := (st_ok h).1.2.2.1
    have h4 := (st_ok h).1.2.2.2
    unfold ms
    rw [if_pos q, if_pos he]
    omega
  · have e : ms (stZ y) = 0 := if_neg q
    omega
/-! counts and year stay in range -/
theorem keQ_bk {P : Nat → Prop} {z y : xSt} (h : keQ P z y) {q n : Nat} {f : Nat → Int32} (hk : ∀ k, P k → ¬ (q ≤ k ∧ k < q + n)) : keQ P z (ur y 4 (bkR q n f (y.1 4))) :=
  ⟨by rw [ur_ne _ _ (by decide)]; exact h.1, fun k hp => by
    rw [ur_at]
    exact (if_neg (hk k hp)).trans (h.2 k hp)⟩
theorem clE_ke {z : xSt} (h : rOk z) (hy : yQ z < 24) : keQ (fun k => k = 494) z (clE z) := by
  have h1 := clB_ke h
  have y1 := yQ_ke h1 (Or.inr rfl)
  have h2 := cmQ_ke (y := clB z) (n := mQ z 12) h.2.1 (by rw [y1]; exact hy)
  have y2 := yQ_ke h2 (Or.inr rfl)
  have h3 := cpQ_ke (z := cmQ (clB z) (mQ z 12)) (n := mQ z 12) h.2.1 (by rw [y2, y1]; omega)
  have h4 : keQ (fun k => k = 494) z (clD z) := ((h1.tr h2).mo (fun k q => Or.inr q)).tr (h3.mo (fun k q => Or.inl q))
  unfold clE
  exact keQ_bk h4 (fun k q t => by omega)
theorem clQ_y {z : xSt} (h : rOk z) (hy : yQ z < 24) : (clQ z).1 4 494 = nI (yQ z + 1) := by
  unfold clQ
  rw [u1_at, va_up_self, (clE_ke h hy).2 494 rfl, h.2.2.2.2.1]
  exact nI_1 _
theorem rOk_mk {z : xSt} {m d y : Nat} (h1 : z.1 2 12 = nI m) (hm : m ≤ 8) (h2 : z.1 2 13 = nI d) (hd : d ≤ 4) (h3 : z.1 4 494 = nI y) (hy : y ≤ 24) : rOk z := by
  have e1 : mQ z 12 = m := by unfold mQ; rw [h1]; exact nI_clamp (by omega)
  have e2 : mQ z 13 = d := by unfold mQ; rw [h2]; exact nI_clamp (by omega)
  have e3 : yQ z = y := by unfold yQ; rw [h3]; exact nI_clamp (by omega)
  refine ⟨by rw [e1]; exact h1, by omega, by rw [e2]; exact h2, by omega, by rw [e3]; exact h3, by omega⟩
theorem rmZ_rok {z : xSt} (h : rOk z) : rOk (rmZ z) := by
  unfold rmZ
  split
  · rename_i he
    have h8 := rm4_e he
    have h1 := h.2.1
    have hf := (rm4_fr z).ok h
    refine rOk_mk (m := mQ z 12 + 1) (d := mQ z 13) (y := yQ z) ?_ (by omega) ?_ h.2.2.2.1 ?_ h.2.2.2.2.2
    · rw [u1_at, va_up_self]
    · rw [u1_sne _ _ _ (by decide), u1_ne _ (by decide), u1_sne _ _ _ (by omega), (rm4_fr z).1 2 (by decide)]; exact h.2.2.1
    · rw [u1_ne _ (by decide), u1_sne _ _ _ (by omega), u1_ne _ (by decide), (rm4_fr z).1 4 (by decide)]; exact h.2.2.2.2.1
  · exact (rm4_fr z).ok h
theorem rpZ_rok {z : xSt} (h : rOk z) : rOk (rpZ z) := by
  unfold rpZ
  split
  · rename_i he
    have h8 := (rpF_e he).2
    have h1 := h.2.2.2.1
    refine rOk_mk (m := mQ z 12) (d := mQ z 13 + 1) (y := yQ z) ?_ h.2.1 ?_ (by omega) ?_ h.2.2.2.2.2
    · rw [u1_sne _ _ _ (by decide), u1_sne _ _ _ (by omega), (rpF_fr z).1 2 (by decide)]; exact h.1
    · rw [u1_at, va_up_self]
    · rw [u1_ne _ (by decide), u1_ne _ (by decide), (rpF_fr z).1 4 (by decide)]; exact h.2.2.2.2.1
  · exact (rpF_fr z).ok h
theorem rtZ_rok {z : xSt} (h : rOk z) : rOk (rtZ z) := by
  unfold rtZ
  refine (go_fr _).ok ?_
  have h5 := (rt5_fr z).ok h
  unfold rt6
  split
  · have hm : rtM z < 8 := by unfold rtM; exact on_lt h.2.1
    have hd : rtD z < 8 := by unfold rtD; exact on_lt (by have := h.2.2.2.1; omega)
    refine rOk_mk (m := mQ (rt5 z) 12) (d := mQ (rt5 z) 13) (y := yQ (rt5 z)) ?_ h5.2.1 ?_ h5.2.2.2.1 ?_ h5.2.2.2.2.2
    · rw [u1_ne _ (by decide)]; exact h5.1
    · rw [u1_ne _ (by decide)]; exact h5.2.2.1
    · rw [u1_sne _ _ _ (by omega)]; exact h5.2.2.2.2.1
  · exact h5
theorem rcX_rok {z : xSt} (h : rOk z) : rOk (rcX z) := by
  unfold rcX
  have h3 := rc3_rok h
  split
  · rename_i he
    have hy := rc3_y h he
    refine rOk_mk (m := mQ (rc3 z) 12) (d := mQ (rc3 z) 13) (y := yQ (rc3 z) + 1) ?_ h3.2.1 ?_ h3.2.2.2.1 (clQ_y h3 hy) (by omega)
    · rw [clQ_2]; exact h3.1
    · rw [clQ_2]; exact h3.2.2.1
  · exact h3
theorem rs6_fr (z : xSt) : fr0 z (rs6 z) := by
  unfold rs6 rs4 rs3 rs2
  exact (((((go_fr z).tr (fi_fr ..)).tr (fi_fr ..)).u 30 _).tr (go_fr _)).tr (fg_fr ..)
theorem rsZ_rok {z : xSt} (hT : zOk z) (h : rOk z) : rOk (rsZ z) := by
  unfold rsZ
  refine (go_fr _).ok ?_
  have h6 := (rs6_fr z).ok h
  have hk := rsK_lt hT
  unfold rs7
  refine rOk_mk (m := mQ (rs6 z) 12) (d := mQ (rs6 z) 13) (y := yQ (rs6 z)) ?_ h6.2.1 ?_ h6.2.2.2.1 ?_ h6.2.2.2.2.2
  · rw [u1_ne _ (by decide)]; exact h6.1
  · rw [u1_ne _ (by decide)]; exact h6.2.2.1
  · rw [u1_sne _ _ _ (by omega)]; exact h6.2.2.2.2.1
theorem rdW_rok {z : xSt} (hT : zOk z) (h : rOk z) : rOk (rdW z) := by
  unfold rdW
  split
  · exact rmZ_rok h
  split
  · exact rpZ_rok h
  split
  · exact rtZ_rok h
  split
  · exact rcX_rok h
  split
  · exact rsZ_rok hT h
  · exact (fi_fr ..).ok h
theorem st_rok {z : xSt} (hT : zOk z) (h : rOk z) : rOk (stZ z) := by
  unfold stZ
  have h1 := (go_fr _).ok ((fi_fr (rdW z) (¬ (rdW z).1 0 23 = nI 2) (-11)).ok (rdW_rok hT h))
  exact (fr0.r0.u 29 _).ok h1
def rm_X10_load : Room := { frames := 10, cells := 0, slots := 0, locals := 216 }
set_option maxRecDepth 100000 in
set_option maxHeartbeats 4000000 in
theorem c_X10_load (l : Launch) (G : xGl) (w : xWd) (hw : isM w) (z : xSt) (sz : Nat) (x : Int32) (q : Nat) (hq : z.1 0 2 = nI q) (hq9 : q ≤ 900) (hok : ¬ (x < 0 ∨ ¬ x ≤ nI q) → ldO 902 (ldA z x.toNatClampNeg)) : xMi l yX10_load cX10_load 2 (some FieldType.int) rm_X10_load G w z sz [.ref (w.2.2 0), .int x] (fun r z1 => (r, z1) = if (x < 0 ∨ ¬ x ≤ nI q) then ((-2), u1 z 0 0 0) else ldR (ldL 902 (ldA z x.toNatClampNeg))) := by
  refine x_mi (by decide) (Nat.le_of_ble_eq_true rfl) ?_
  intro p e s mt args below meth c ls Q hsz X hR hS hl hret
  obtain ⟨hx, hcb, hml, hown, hts, hlk, hK, hZ⟩ := X
  have hl : lv_has ls 2 [(0, .ref (w.2.2 0)), (1, .int x)] := hl
  refine lv_aload_n hx hcb dX10_load_0 rfl (lv_at hl 0 rfl) ?_
  refine lv_iconst (v := (nI 0)) hx hcb dX10_load_1 (by decide) ?_
  refine x_putI hx hcb hts hown hK xc10 hR hS (hw.lo (by decide)) (hw.s0 rfl) 0 (by decide) rfl q_1166 rfl (v := 0) rfl rfl dX10_load_2 (fun H locs hR hS => ?_)
  refine lv_iload_n hx hcb dX10_load_5 rfl (lv_at hl 1 rfl) ?_
  refine lv_if_lt (tgt := 17) hx hcb dX10_load_6 (by decide) (fun c_1 => ?_) (fun c_1 => ?_)
  · skip
    have hb_ : (x < 0 ∨ ¬ x ≤ nI q) := Or.inl c_1
    refine lv_bipush (v := (-2)) hx hcb dX10_load_17 (by decide) ?_
    exact hret (-2) (u1 z 0 0 0) _ _ _ _ dX10_load_19 rfl hR hS (by rw [if_pos hb_])
  · skip
    have hb0_ := c_1
    obtain ⟨n_, hn_, en_⟩ := nI_of hb0_
    have ex_ : x.toNatClampNeg = n_ := by rw [en_]; exact nI_clamp hn_
    rw [en_] at hl
    refine lv_iload_n hx hcb dX10_load_9 rfl (lv_at hl 1 rfl) ?_
    refine lv_aload_n hx hcb dX10_load_10 rfl (lv_at hl 0 rfl) ?_
    refine x_getI hx hcb hts hown hK xc10 hR (hw.lo (by decide)) (hw.s0 rfl) 2 (by decide) rfl q_1168 dX10_load_11 ?_
    refine x_top (show ((u1 z 0 0 0).1 0 2) = (nI q) from hq) ?_
    refine lv_icmp_le (tgt := 20) hx hcb dX10_load_14 (by decide) (fun c_2 => ?_) (fun c_2 => ?_)
    · skip
      have c_2 : n_ ≤ q := (nI_leI (by omega) (by omega)).mp c_2
      have hnq_ : n_ ≤ q := c_2
      have hb_ : ¬ (x < 0 ∨ ¬ x ≤ nI q) := fun q_ => q_.elim hb0_ (fun t_ => t_ (by rw [en_]; exact (nI_leI (by omega) (by omega)).mpr hnq_))
      refine lv_aload_n hx hcb dX10_load_20 rfl (lv_at hl 0 rfl) ?_
      refine x_getR hx hcb hts hown hK xc10 hR (hw.lo (by decide)) (hw.s0 rfl) 3 (by decide) rfl q_1169 dX10_load_21 ?_
      refine lv_aload_n hx hcb dX10_load_24 rfl (lv_at hl 0 rfl) ?_
      refine x_getR hx hcb hts hown hK xc10 hR (hw.lo (by decide)) (hw.s0 rfl) 4 (by decide) rfl q_1170 dX10_load_25 ?_
      refine x_cv0 rfl rfl (x_runS hx hcb hml hown hts (c_X10_copies l G w hw (u1 z 0 0 0) _ 2 14 (hw.lo (by decide)) (hw.s0 rfl) (by decide) 3 14 (hw.lo (by decide)) (hw.s0 rfl) (by decide) rfl (by decide)) ms_X10_copies q_1275 hK hZ hR hS rfl hl.1 rfl (Nat.le_of_ble_eq_true rfl) dX10_load_28 ⟨by decide, by decide⟩ ⟨by decide, by decide⟩) hS (fun z_4 H locs hp_5 hR hS => ?_)
      rw [hp_5] at hR
      refine lv_aload_n hx hcb dX10_load_31 rfl (lv_at hl 0 rfl) ?_
      refine x_getR hx hcb hts hown hK xc10 hR (hw.lo (by decide)) (hw.s0 rfl) 5 (by decide) rfl q_1171 dX10_load_32 ?_
      refine lv_aload_n hx hcb dX10_load_35 rfl (lv_at hl 0 rfl) ?_
      refine x_getR hx hcb hts hown hK xc10 hR (hw.lo (by decide)) (hw.s0 rfl) 6 (by decide) rfl q_1172 dX10_load_36 ?_
      refine x_cv0 rfl rfl (x_runS hx hcb hml hown hts (c_X10_copies l G w hw (ur (u1 z 0 0 0) 3 ((u1 z 0 0 0).1 2)) _ 4 497 (hw.lo (by decide)) (hw.s0 rfl) (by decide) 5 497 (hw.lo (by decide)) (hw.s0 rfl) (by decide) rfl (by decide)) ms_X10_copies q_1275 hK hZ hR hS rfl hl.1 rfl (Nat.le_of_ble_eq_true rfl) dX10_load_39 ⟨by decide, by decide⟩ ⟨by decide, by decide⟩) hS (fun z_7 H locs hp_8 hR hS => ?_)
      rw [hp_8] at hR
      refine lv_aload_n hx hcb dX10_load_42 rfl (lv_at hl 0 rfl) ?_
      refine x_cv0 rfl rfl (x_runV hx hcb hml hown hts (c_X10_newBooks l G w hw (ur (ur (u1 z 0 0 0) 3 ((u1 z 0 0 0).1 2)) 5 ((ur (u1 z 0 0 0) 3 ((u1 z 0 0 0).1 2)).1 4)) _ ) mv_X10_newBooks q_1162 hK hZ hR hS (hw.lo (by decide)) xc10 (hw.s0 rfl) rfl hl.1 rfl (Nat.le_of_ble_eq_true rfl) dX10_load_43 ⟨by decide, by decide⟩ ⟨by decide, by decide⟩) hS (fun z_10 H locs hp_11 hR hS => ?_)
      rw [hp_11] at hR
      refine lv_aload_n hx hcb dX10_load_46 rfl (lv_at hl 0 rfl) ?_
      refine lv_iload_n hx hcb dX10_load_47 rfl (lv_at hl 1 rfl) ?_
      refine x_putI hx hcb hts hown hK xc10 hR hS (hw.lo (by decide)) (hw.s0 rfl) 20 (by decide) rfl q_1186 rfl (v := (nI n_)) rfl rfl dX10_load_48 (fun H locs hR hS => ?_)
      refine lv_aload_n hx hcb dX10_load_51 rfl (lv_at hl 0 rfl) ?_
      refine lv_iconst (v := (nI 0)) hx hcb dX10_load_52 (by decide) ?_
      refine x_putI hx hcb hts hown hK xc10 hR hS (hw.lo (by decide)) (hw.s0 rfl) 21 (by decide) rfl q_1187 rfl (v := 0) rfl rfl dX10_load_53 (fun H locs hR hS => ?_)
      refine lv_aload_n hx hcb dX10_load_56 rfl (lv_at hl 0 rfl) ?_
      refine lv_iconst (v := (nI 0)) hx hcb dX10_load_57 (by decide) ?_
      refine x_putI hx hcb hts hown hK xc10 hR hS (hw.lo (by decide)) (hw.s0 rfl) 26 (by decide) rfl q_1192 rfl (v := 0) rfl rfl dX10_load_58 (fun H locs hR hS => ?_)
      refine lv_aload_n hx hcb dX10_load_61 rfl (lv_at hl 0 rfl) ?_
      refine lv_iconst (v := (nI 0)) hx hcb dX10_load_62 (by decide) ?_
      refine x_putI hx hcb hts hown hK xc10 hR hS (hw.lo (by decide)) (hw.s0 rfl) 30 (by decide) rfl q_1196 rfl (v := 0) rfl rfl dX10_load_63 (fun H locs hR hS => ?_)
      refine lv_aload_n hx hcb dX10_load_66 rfl (lv_at hl 0 rfl) ?_
      refine lv_iconst (v := (nI 0)) hx hcb dX10_load_67 (by decide) ?_
      refine x_putI hx hcb hts hown hK xc10 hR hS (hw.lo (by decide)) (hw.s0 rfl) 29 (by decide) rfl q_1195 rfl (v := 0) rfl rfl dX10_load_68 (fun H locs hR hS => ?_)
      rw [show u1 (u1 (u1 (u1 (u1 (nbk (ur (ur (u1 z 0 0 0) 3 ((u1 z 0 0 0).1 2)) 5 ((ur (u1 z 0 0 0) 3 ((u1 z 0 0 0).1 2)).1 4))) 0 20 (nI n_)) 0 21 0) 0 26 0) 0 30 0) 0 29 0 = nb0 z n_ from rfl] at hR
      refine lv_aload_n hx hcb dX10_load_71 rfl (lv_at hl 0 rfl) ?_
      refine x_cv0 rfl rfl (x_runV hx hcb hml hown hts (c_X10_next l G w hw (nb0 z n_) _ (nb_pr (by omega))) mv_X10_next q_1278 hK hZ hR hS (hw.lo (by decide)) xc10 (hw.s0 rfl) rfl hl.1 rfl (Nat.le_of_ble_eq_true rfl) dX10_load_72 ⟨by decide, by decide⟩ ⟨by decide, by decide⟩) hS (fun z_13 H locs hp_14 hR hS => ?_)
      rw [hp_14] at hR
      rw [show nqZ (nb0 z n_) = ldA z n_ from rfl] at hR
      suffices LP_75 : ∀ (nn : Nat) (y_ : xSt) (k_ : Nat) (_ : ms y_ < nn) (hz_ : zOk y_) (hro_ : rOk y_) (hok_ : ldO k_ y_) (hk_ : ms y_ ≤ k_) (hf_ : ldL 902 (ldA z n_) = ldL k_ y_) (H : Heap) (locs : List Loc) (ls : Array Slot), Rh G w y_ H → va_S (xA w s.heap.size) s.heap H locs → lv_has ls 2 [(0, .ref (w.2.2 0))] → W p l e rm_X10_load s mt args below meth c H locs 0 0 Q (F0 mt 75 ls []) from LP_75 ((_) + 1) (ldA z n_) 902 (Nat.lt_succ_self _) (nq_ok (nb_pr (by omega))) (ldA_rok ..) (by have t_ := hok hb_; rw [ex_] at t_; exact t_) (ms_le _) rfl _ _ _ hR hS (lv_sub hl [0] rfl)
      intro nn
      induction nn with
      | zero => intro y_ k_ hm_ ; exact absurd hm_ (Nat.not_lt_zero _)
      | succ nn ih_75 =>
        intro y_ k_ hm_75 hz_ hro_ hok_ hk_ hf_ H locs ls hR hS hl
        refine lv_aload_n hx hcb dX10_load_75 rfl (lv_at hl 0 rfl) ?_
        refine x_getI hx hcb hts hown hK xc10 hR (hw.lo (by decide)) (hw.s0 rfl) 26 (by decide) rfl q_1192 dX10_load_76 ?_
        refine x_top (show (y_.1 0 26) = (y_.1 0 26) from rfl) ?_
        refine lv_if_ne (tgt := 97) hx hcb dX10_load_79 (by decide) (fun c_15 => ?_) (fun c_15 => ?_)
        · skip
          have hE_ : ¬ y_.1 0 26 = 0 := c_15
          have he_ : ldL 902 (ldA z n_) = y_ := by rw [hf_, ldL_e (fun q_ => hE_ q_.1)]
          refine lv_aload_n hx hcb dX10_load_97 rfl (lv_at hl 0 rfl) ?_
          refine lv_iconst (v := (nI 0)) hx hcb dX10_load_98 (by decide) ?_
          refine x_putI hx hcb hts hown hK xc10 hR hS (hw.lo (by decide)) (hw.s0 rfl) 2 (by decide) rfl q_1168 rfl (v := 0) rfl rfl dX10_load_99 (fun H locs hR hS => ?_)
          refine lv_aload_n hx hcb dX10_load_102 rfl (lv_at hl 0 rfl) ?_
          refine lv_aload_n hx hcb dX10_load_103 rfl (lv_at hl 0 rfl) ?_
          refine x_getI hx hcb hts hown hK xc10 hR (hw.lo (by decide)) (hw.s0 rfl) 26 (by decide) rfl q_1192 dX10_load_104 ?_
          refine x_top (show ((u1 y_ 0 2 0).1 0 26) = (y_.1 0 26) from rfl) ?_
          refine lv_if_ne (tgt := 114) hx hcb dX10_load_107 (by decide) (fun c_16 => ?_) (fun c_16 => ?_)
          · skip
            refine lv_aload_n hx hcb dX10_load_114 rfl (lv_at hl 0 rfl) ?_
            refine x_getI hx hcb hts hown hK xc10 hR (hw.lo (by decide)) (hw.s0 rfl) 27 (by decide) rfl q_1193 dX10_load_115 ?_
            refine x_top (show ((u1 y_ 0 2 0).1 0 27) = (y_.1 0 27) from rfl) ?_
            refine x_putI hx hcb hts hown hK xc10 hR hS (hw.lo (by decide)) (hw.s0 rfl) 28 (by decide) rfl q_1194 rfl (v := (y_.1 0 27)) rfl rfl dX10_load_118 (fun H locs hR hS => ?_)
            refine lv_aload_n hx hcb dX10_load_121 rfl (lv_at hl 0 rfl) ?_
            refine x_getI hx hcb hts hown hK xc10 hR (hw.lo (by decide)) (hw.s0 rfl) 26 (by decide) rfl q_1192 dX10_load_122 ?_
            refine x_top (show ((u1 (u1 y_ 0 2 0) 0 28 (y_.1 0 27)).1 0 26) = (y_.1 0 26) from rfl) ?_
            refine lv_if_eq (tgt := 155) hx hcb dX10_load_125 (by decide) (fun c_17 => ?_) (fun c_17 => ?_)
            · skip
              exact absurd c_17 hE_
            · skip
              refine lv_aload_n hx hcb dX10_load_128 rfl (lv_at hl 0 rfl) ?_
              refine x_getR hx hcb hts hown hK xc10 hR (hw.lo (by decide)) (hw.s0 rfl) 4 (by decide) rfl q_1170 dX10_load_129 ?_
              refine lv_aload_n hx hcb dX10_load_132 rfl (lv_at hl 0 rfl) ?_
              refine x_getR hx hcb hts hown hK xc10 hR (hw.lo (by decide)) (hw.s0 rfl) 3 (by decide) rfl q_1169 dX10_load_133 ?_
              refine x_cv0 rfl rfl (x_runS hx hcb hml hown hts (c_X10_copies l G w hw (u1 (u1 y_ 0 2 0) 0 28 (y_.1 0 27)) _ 3 14 (hw.lo (by decide)) (hw.s0 rfl) (by decide) 2 14 (hw.lo (by decide)) (hw.s0 rfl) (by decide) rfl (by decide)) ms_X10_copies q_1275 hK hZ hR hS rfl hl.1 rfl (Nat.le_of_ble_eq_true rfl) dX10_load_136 ⟨by decide, by decide⟩ ⟨by decide, by decide⟩) hS (fun z_19 H locs hp_20 hR hS => ?_)
              rw [hp_20] at hR
              refine lv_aload_n hx hcb dX10_load_139 rfl (lv_at hl 0 rfl) ?_
              refine x_getR hx hcb hts hown hK xc10 hR (hw.lo (by decide)) (hw.s0 rfl) 6 (by decide) rfl q_1172 dX10_load_140 ?_
              refine lv_aload_n hx hcb dX10_load_143 rfl (lv_at hl 0 rfl) ?_
              refine x_getR hx hcb hts hown hK xc10 hR (hw.lo (by decide)) (hw.s0 rfl) 5 (by decide) rfl q_1171 dX10_load_144 ?_
              refine x_cv0 rfl rfl (x_runS hx hcb hml hown hts (c_X10_copies l G w hw (ur (u1 (u1 y_ 0 2 0) 0 28 (y_.1 0 27)) 2 ((u1 (u1 y_ 0 2 0) 0 28 (y_.1 0 27)).1 3)) _ 5 497 (hw.lo (by decide)) (hw.s0 rfl) (by decide) 4 497 (hw.lo (by decide)) (hw.s0 rfl) (by decide) rfl (by decide)) ms_X10_copies q_1275 hK hZ hR hS rfl hl.1 rfl (Nat.le_of_ble_eq_true rfl) dX10_load_147 ⟨by decide, by decide⟩ ⟨by decide, by decide⟩) hS (fun z_22 H locs hp_23 hR hS => ?_)
              rw [hp_23] at hR
              refine lv_aload_n hx hcb dX10_load_150 rfl (lv_at hl 0 rfl) ?_
              refine x_getI hx hcb hts hown hK xc10 hR (hw.lo (by decide)) (hw.s0 rfl) 26 (by decide) rfl q_1192 dX10_load_151 ?_
              refine x_top (show ((ur (ur (u1 (u1 y_ 0 2 0) 0 28 (y_.1 0 27)) 2 ((u1 (u1 y_ 0 2 0) 0 28 (y_.1 0 27)).1 3)) 4 ((ur (u1 (u1 y_ 0 2 0) 0 28 (y_.1 0 27)) 2 ((u1 (u1 y_ 0 2 0) 0 28 (y_.1 0 27)).1 3)).1 5)).1 0 26) = (y_.1 0 26) from rfl) ?_
              exact hret (y_.1 0 26) (ur (ur (u1 (u1 y_ 0 2 0) 0 28 (y_.1 0 27)) 2 ((u1 (u1 y_ 0 2 0) 0 28 (y_.1 0 27)).1 3)) 4 ((ur (u1 (u1 y_ 0 2 0) 0 28 (y_.1 0 27)) 2 ((u1 (u1 y_ 0 2 0) 0 28 (y_.1 0 27)).1 3)).1 5)) _ _ _ _ dX10_load_154 rfl hR hS (by rw [if_neg hb_, ex_, he_]; unfold ldR; rw [if_neg hE_]; rfl)
          · skip
            exact absurd c_16 hE_
        · skip
          have hE_ : y_.1 0 26 = 0 := c_15
          obtain ⟨k1_, hk1_⟩ : ∃ q_, k_ = q_ + 1 := ⟨k_ - 1, by have := ms_pos hz_ hE_; omega⟩
          refine lv_aload_n hx hcb dX10_load_82 rfl (lv_at hl 0 rfl) ?_
          refine x_getI hx hcb hts hown hK xc10 hR (hw.lo (by decide)) (hw.s0 rfl) 23 (by decide) rfl q_1189 dX10_load_83 ?_
          refine x_top (show (y_.1 0 23) = (y_.1 0 23) from rfl) ?_
          refine lv_iconst (v := (nI 4)) hx hcb dX10_load_86 (by decide) ?_
          refine lv_icmp_eq (tgt := 97) hx hcb dX10_load_87 (by decide) (fun c_24 => ?_) (fun c_24 => ?_)
          · skip
            have he_ : ldL 902 (ldA z n_) = y_ := by rw [hf_, ldL_e (fun q_ => q_.2 c_24)]
            refine lv_aload_n hx hcb dX10_load_97 rfl (lv_at hl 0 rfl) ?_
            refine lv_iconst (v := (nI 0)) hx hcb dX10_load_98 (by decide) ?_
            refine x_putI hx hcb hts hown hK xc10 hR hS (hw.lo (by decide)) (hw.s0 rfl) 2 (by decide) rfl q_1168 rfl (v := 0) rfl rfl dX10_load_99 (fun H locs hR hS => ?_)
            refine lv_aload_n hx hcb dX10_load_102 rfl (lv_at hl 0 rfl) ?_
            refine lv_aload_n hx hcb dX10_load_103 rfl (lv_at hl 0 rfl) ?_
            refine x_getI hx hcb hts hown hK xc10 hR (hw.lo (by decide)) (hw.s0 rfl) 26 (by decide) rfl q_1192 dX10_load_104 ?_
            refine x_top (show ((u1 y_ 0 2 0).1 0 26) = (y_.1 0 26) from rfl) ?_
            refine lv_if_ne (tgt := 114) hx hcb dX10_load_107 (by decide) (fun c_25 => ?_) (fun c_25 => ?_)
            · skip
              exact absurd hE_ c_25
            · skip
              refine lv_iconst (v := (-1)) hx hcb dX10_load_110 (by decide) ?_
              refine lv_goto (tgt := 118) hx hcb dX10_load_111 (by decide) ?_
              refine x_putI hx hcb hts hown hK xc10 hR hS (hw.lo (by decide)) (hw.s0 rfl) 28 (by decide) rfl q_1194 rfl (v := (-1)) rfl rfl dX10_load_118 (fun H locs hR hS => ?_)
              refine lv_aload_n hx hcb dX10_load_121 rfl (lv_at hl 0 rfl) ?_
              refine x_getI hx hcb hts hown hK xc10 hR (hw.lo (by decide)) (hw.s0 rfl) 26 (by decide) rfl q_1192 dX10_load_122 ?_
              refine x_top (show ((u1 (u1 y_ 0 2 0) 0 28 (-1)).1 0 26) = (y_.1 0 26) from rfl) ?_
              refine lv_if_eq (tgt := 155) hx hcb dX10_load_125 (by decide) (fun c_26 => ?_) (fun c_26 => ?_)
              · skip
                refine lv_aload_n hx hcb dX10_load_155 rfl (lv_at hl 0 rfl) ?_
                refine lv_iconst (v := (nI 0)) hx hcb dX10_load_156 (by decide) ?_
                refine x_putI hx hcb hts hown hK xc10 hR hS (hw.lo (by decide)) (hw.s0 rfl) 8 (by decide) rfl q_1174 rfl (v := 0) rfl rfl dX10_load_157 (fun H locs hR hS => ?_)
                refine lv_aload_n hx hcb dX10_load_160 rfl (lv_at hl 0 rfl) ?_
                refine x_getI hx hcb hts hown hK xc10 hR (hw.lo (by decide)) (hw.s0 rfl) 29 (by decide) rfl q_1195 dX10_load_161 ?_
                refine x_top (show ((u1 (u1 (u1 y_ 0 2 0) 0 28 (-1)) 0 8 0).1 0 29) = (y_.1 0 29) from rfl) ?_
                exact hret (y_.1 0 29) (u1 (u1 (u1 y_ 0 2 0) 0 28 (-1)) 0 8 0) _ _ _ _ dX10_load_164 rfl hR hS (by rw [if_neg hb_, ex_, he_]; unfold ldR; rw [if_pos hE_])
              · skip
                exact absurd hE_ c_26
          · skip
            have ht_ : ¬ y_.1 0 23 = nI 4 := c_24
            have hnx_ := ldO_s hk1_ hok_ hE_ ht_
            have hlt_ := ms_lt hz_ hE_
            refine lv_aload_n hx hcb dX10_load_90 rfl (lv_at hl 0 rfl) ?_
            refine x_cv0 rfl rfl (x_runV hx hcb hml hown hts (c_X10_readStatement l G w hw y_ _ hz_ hro_ hnx_.1) mv_X10_readStatement q_1300 hK hZ hR hS (hw.lo (by decide)) xc10 (hw.s0 rfl) rfl hl.1 rfl (Nat.le_of_ble_eq_true rfl) dX10_load_91 ⟨by decide, by decide⟩ ⟨by decide, by decide⟩) hS (fun z_28 H locs hp_29 hR hS => ?_)
            rw [hp_29] at hR
            refine lv_goto (tgt := 75) hx hcb dX10_load_94 (by decide) ?_
            exact ih_75 (stZ y_) k1_ (by omega) (st_ok hz_) (st_rok hz_ hro_) hnx_.2 (by omega) (by rw [hf_, ldL_s hk1_, if_pos ⟨hE_, ht_⟩]) _ _ _ hR hS (lv_sub hl [0] rfl)
    · skip
      have c_2 : ¬ n_ ≤ q := fun h_ => c_2 ((nI_leI (by omega) (by omega)).mpr h_)
      have hb_ : (x < 0 ∨ ¬ x ≤ nI q) := Or.inr (by rw [en_]; exact fun t_ => c_2 ((nI_leI (by omega) (by omega)).mp t_))
      refine lv_bipush (v := (-2)) hx hcb dX10_load_17 (by decide) ?_
      exact hret (-2) (u1 z 0 0 0) _ _ _ _ dX10_load_19 rfl hR hS (by rw [if_pos hb_])
