/-! BOTH ANSWER ALIKE: what is kept for undo, and the small changes -/
theorem va_rd {α : Type} (f : Nat → α) (k : Nat) (v : α) (j : Nat) : va_up f k v j = if j = k then v else f j := rfl
theorem eqB.row {z : xSt} {b mc dc : Nat} {t r r2 : Nat → Int32} (h : eqB z b mc dc t r) (hr : ∀ k, k < 497 → r2 k = r k) (hm : mc ≤ 8) (hd : dc ≤ 4) : eqB z b mc dc t r2 := by
  obtain ⟨⟨a1, a2, a3, a4, a5, a6⟩, h2, h3, h4, h5, h6, h7, h8⟩ := h
  refine ⟨⟨a1, a2, by rw [hr _ (by omega)]; exact a3, by rw [hr _ (by omega)]; exact a4, by rw [hr _ (by omega)]; exact a5, by rw [hr _ (by omega)]; exact a6⟩, fun k hk => by rw [hr _ (by omega)]; exact h2 k hk, fun m hm => ?_, fun m d hm hd => by rw [hr _ (by omega)]; exact h4 m d hm hd, fun m y hm hy => ?_, h6, fun m j hm hj => by rw [hr _ (by omega)]; exact h7 m j hm hj, fun d hd => ?_⟩
  · rw [hr _ (by omega), hr _ (by omega), hr _ (by omega), hr _ (by omega), hr _ (by omega)]; exact h3 m hm
  · rw [hr _ (by omega), hr _ (by omega)]; exact h5 m y hm hy
  · rw [hr _ (by omega), hr _ (by omega)]; exact h8 d hd
theorem rI.row {mc dc Y : Nat} {t r r2 : Nat → Int32} (h : rI mc dc Y t r) (hr : ∀ k, k < 497 → r2 k = r k) : rI mc dc Y t r2 := by
  obtain ⟨⟨a1, a2, a3, a4, a5⟩, ⟨b1, b2, b3, b4, b5⟩, h3, h4, h5, h6⟩ := h
  refine ⟨⟨a1, a2, a3, a4, by rw [hr _ (by omega)]; exact a5⟩, ⟨by rw [hr _ (by omega)]; exact b1, by rw [hr _ (by omega)]; exact b2, by rw [hr _ (by omega)]; exact b3, by rw [hr _ (by omega)]; exact b4, by rw [hr _ (by omega)]; exact b5⟩, fun m hm => ?_, fun m d hm hd => ?_, fun m y hm hy => ?_, fun d hd => ?_⟩
  · rw [hr _ (by omega), hr _ (by omega), hr _ (by omega)]; exact h3 m hm
  · rw [hr _ (by omega), hr _ (by omega)]; exact h4 m d hm hd
  · rw [hr _ (by omega), hr _ (by omega)]; exact h5 m y hm hy
  · rw [hr _ (by omega)]; exact h6 d hd
theorem cpA_at {z : xSt} {b c mc dc o o2 : Nat} (h : cov b mc dc o) (e : o - 48 * b + 48 * c = o2) : (cpA z b c mc dc).1 o = z.1 o2 := by rw [cpA_in h, e]
theorem eqB.cp {z : xSt} {b c mc dc : Nat} {t r : Nat → Int32} (h : eqB z c mc dc t r) (hm : mc ≤ 8) (hd : dc ≤ 4) : eqB (cpA z b c mc dc) b mc dc t r := by
  obtain ⟨h1, h2, h3, h4, h5, h6, h7, h8⟩ := h
  have e0 : (cpA z b c mc dc).1 (oB b) = z.1 (oB c) := cpA_at (by unfold cov oB; omega) (by unfold oB; omega)
  have e1 : (cpA z b c mc dc).1 (oSt b) = z.1 (oSt c) := cpA_at (by unfold cov oSt; omega) (by unfold oSt; omega)
  have e2 : ∀ m, m < mc → (cpA z b c mc dc).1 (oM b m) = z.1 (oM c m) := fun m h => cpA_at (by unfold cov oM; omega) (by unfold oM; omega)
  have e3 : ∀ m, m < mc → (cpA z b c mc dc).1 (oPt b m) = z.1 (oPt c m) := fun m h => cpA_at (by unfold cov oPt; omega) (by unfold oPt; omega)
  have e4 : ∀ m, m < mc → (cpA z b c mc dc).1 (oLf b m) = z.1 (oLf c m) := fun m h => cpA_at (by unfold cov oLf; omega) (by unfold oLf; omega)
  have e5 : ∀ m, m < mc → (cpA z b c mc dc).1 (oKd b m) = z.1 (oKd c m) := fun m h => cpA_at (by unfold cov oKd; omega) (by unfold oKd; omega)
  have e6 : ∀ m, m < mc → (cpA z b c mc dc).1 (oPd b m) = z.1 (oPd c m) := fun m h => cpA_at (by unfold cov oPd; omega) (by unfold oPd; omega)
  have e7 : ∀ d, d < dc → (cpA z b c mc dc).1 (oD b d) = z.1 (oD c d) := fun m h => cpA_at (by unfold cov oD; omega) (by unfold oD; omega)
  refine ⟨?_, fun k hk => by rw [e1]; exact h2 k hk, fun m hm => by rw [e2 m hm]; exact h3 m hm, fun m d hm hd => by rw [e3 m hm]; exact h4 m d hm hd, fun m y hm hy => by rw [e4 m hm, e5 m hm]; exact h5 m y hm hy, fun m hm => by rw [e4 m hm]; exact h6 m hm, fun m j hm hj => by rw [e6 m hm]; exact h7 m j hm hj, fun d hd => by rw [e7 d hd]; exact h8 d hd⟩
  rw [e0, bx_cong (g := fun m => z.1 (oPd c m) 0) (fun m hm => by show (cpA z b c mc dc).1 (oPd b m) 0 = _; rw [e6 m hm])]
  exact h1
theorem eqB.cpo {z : xSt} {b b2 c mc dc : Nat} {t r : Nat → Int32} (h : eqB z b2 mc dc t r) (hb : b2 ≠ b) (hm : mc ≤ 8) (hd : dc ≤ 4) : eqB (cpA z b c mc dc) b2 mc dc t r :=
  h.fr (fun o h1 h2 => cpA_out (fun h => hb (by have := h.1; have := h.2.1; omega))) hm hd
theorem kpS_6 {z : xSt} {u : Nat} (hu : u ≤ 10) (j k : Nat) (hk : k < 497) (hj : j ≤ kc u) : (kpS z u).1 6 (497 * j + k) = if j = kc u then z.1 4 k else if u = 10 then z.1 6 (497 * (j + 1) + k) else z.1 6 (497 * j + k) := by
  unfold kpS kc at *
  by_cases e : u = 10
  · rw [if_pos e] at hj
    rw [if_pos e, if_pos e, if_pos e, u1_ne _ (by omega)]
    unfold pIn
    rw [ur_at]
    by_cases e2 : j = 9
    · rw [if_pos e2, if_pos (by omega), u1_ne _ (by omega), show 497 * j + k - 497 * 9 = k by omega]
      unfold shf
      rw [ur_ne _ _ (by omega)]
    · rw [if_neg e2, if_neg (by omega), u1_ne _ (by omega)]
      unfold shf
      rw [ur_at, if_pos (by omega), show 497 * j + k + 497 = 497 * (j + 1) + k by omega]
  · rw [if_neg e] at hj
    rw [if_neg e, if_neg e, if_neg e, u1_ne _ (by omega)]
    unfold pIn
    rw [ur_at]
    by_cases e2 : j = u
    · rw [if_pos e2, if_pos (by omega), show 497 * j + k - 497 * u = k by omega]
    · rw [if_neg e2, if_neg (by omega)]
theorem kpS_o {z : xSt} {u o : Nat} (h0 : o ≠ 0) (h6 : o ≠ 6) : (kpS z u).1 o = z.1 o := by
  unfold kpS
  split
  · rw [u1_ne _ h0]; unfold pIn; rw [ur_ne _ _ h6, u1_ne _ h0]; unfold shf; rw [ur_ne _ _ h6]
  · rw [u1_ne _ h0]; unfold pIn; rw [ur_ne _ _ h6]
theorem kpS_0 {z : xSt} {u k : Nat} (h : k ≠ 8) : (kpS z u).1 0 k = z.1 0 k := by
  unfold kpS
  split
  · rw [u1_sne _ _ _ h]; unfold pIn; rw [ur_ne _ _ (by omega), u1_sne _ _ _ h]; unfold shf; rw [ur_ne _ _ (by omega)]
  · rw [u1_sne _ _ _ h]; unfold pIn; rw [ur_ne _ _ (by omega)]
theorem kpS_8 {z : xSt} {u : Nat} : (kpS z u).1 0 8 = nI (kc u + 1) := by
  unfold kpS kc
  split
  · rw [u1_self]
  · rw [u1_self]
/-- a change: what was is kept, then block 0 and the row are what they are -/
theorem jH.chg {K mc dc Y u f : Nat} {zc zm c2 m2 : xSt} (hH : jH K mc dc Y u f zc zm) (hQ : jQb zc zm) (h8 : zc.1 0 8 = zm.1 0 28) {Y2 : Nat}
    (h1 : ∀ o, (o = 0 ∨ o = 2 ∨ o = 14 ∨ o = 15 ∨ 115 ≤ o) → c2.1 o = (keZ K zc f u 0 mc dc).1 o) (hc0 : cnB c2 0) (hc1 : cnB c2 1)
    (h2 : ∀ o, (o = 1 ∨ o = 2 ∨ o = 6) → m2.1 o = (kpS zm u).1 o) (h3 : m2.1 0 2 = zm.1 0 2 ∧ m2.1 0 8 = nI (kc u + 1) ∧ m2.1 0 28 = zm.1 0 28) (hE : eqB c2 0 mc dc (zm.1 2) (m2.1 4)) (hI : rI mc dc Y2 (zm.1 2) (m2.1 4)) (hY : Y2 ≤ 24) : jJ (keK K f u) c2 m2 := by
  obtain ⟨⟨d1, d2, d3, d4, d5, d6, d7⟩, ⟨f1, f2, f3⟩, g1⟩ := hH
  obtain ⟨q, a1, a2, a3, a4⟩ := hQ
  have hm : mc ≤ 8 := f2.1.2.1
  have hd : dc ≤ 4 := f2.1.2.2.2.1
  have k0 := h1 0 (by omega)
  have k2 := h1 2 (by omega)
  have k14 := h1 14 (by omega)
  have k15 := h1 15 (by omega)
  rw [keZ_o (by omega) (by omega)] at k0 k14 k15
  have r1 := h2 1 (by omega)
  have r2 := h2 2 (by omega)
  have r6 := h2 6 (by omega)
  rw [kpS_o (by omega) (by omega)] at r1 r2
  have s2 : c2.1 2 2 = nI (kc u + 1) := by rw [k2]; unfold keZ; rw [u1_self]
  have s1 : c2.1 2 1 = nI (kf f u) := by
    rw [k2]; unfold keZ
    rw [u1_sne _ _ _ (by omega), cpA_out (fun h => by have := h.1; omega), kzE_2]
    exact kz0_1 d3
  have hkc : kc u ≤ 9 := by unfold kc; split <;> omega
  have hix : kix f u < 10 := Nat.mod_lt _ (by omega)
  have hlow : K < 10 → kix f u = u ∧ u ≠ 10 := fun h => by
    have f0 := d6 h
    have u9 : u ≠ 10 := by omega
    refine ⟨?_, u9⟩
    unfold kix kf kc
    rw [if_neg u9, if_neg u9, f0, Nat.zero_add]
    exact Nat.mod_eq_of_lt (by omega)
  refine ⟨⟨q, by rw [k14]; exact a1, by rw [h3.1]; exact a2, a3, fun j hj => by rw [k15, r1]; exact a4 j hj⟩, by rw [k0, h3.2.2]; exact h8, ⟨hc0, hc1⟩, mc, dc, Y2, kc u + 1, kf f u, ⟨s2, h3.2.1, s1, ?_, ?_, ?_, ?_⟩, ⟨by rw [r2]; exact hE, by rw [r2]; exact hI, hY⟩, fun j hj => ?_⟩
  · unfold kf; split <;> omega
  · unfold keK
    by_cases e : K < 10
    · obtain ⟨e1, e2⟩ := hlow e
      rw [e1]
      unfold kc; rw [if_neg e2]
      split <;> omega
    · rw [if_pos (by omega)]; omega
  · intro h
    have e : K < 10 := by unfold keK at h; split at h <;> omega
    unfold kf; rw [if_neg (hlow e).2]; exact d6 e
  · unfold keK
    by_cases e : K < 10
    · split <;> omega
    · rw [if_pos (by omega)]; exact d7
  · have hrow : ∀ k, k < 497 → m2.1 6 (497 * j + k) = if j = kc u then zm.1 4 k else if u = 10 then zm.1 6 (497 * (j + 1) + k) else zm.1 6 (497 * j + k) := fun k hk => by rw [r6]; exact kpS_6 (by omega) j k hk (by omega)
    have fin : ∀ {b : Nat} {r : Nat → Int32}, 2 ≤ b → eqB (cpA (kzE K zc f u) (2 + kix f u) 0 mc dc) b mc dc (zm.1 2) r → eqB c2 b mc dc (zm.1 2) r := fun hb h => h.fr (fun o h4 h5 => by rw [h1 o (by omega)]; unfold keZ; rw [u1_ne _ (by omega)]) hm hd
    rw [r2]
    by_cases ej : j = kc u
    · refine ⟨Y, f3, ?_, f2.row (fun k hk => by rw [hrow k hk, if_pos ej])⟩
      refine eqB.row ?_ (fun k hk => by rw [hrow k hk, if_pos ej]) hm hd
      rw [show (kf f u + j) % 10 = kix f u by rw [ej]; rfl]
      refine fin (by omega) (eqB.cp ?_ hm hd)
      exact f1.fr (fun o h4 h5 => kzE_o (by omega) (by omega)) hm hd
    · by_cases eu : u = 10
      · obtain ⟨Yj, g2, g3, g4⟩ := g1 (j + 1) (by have : kc u = 9 := by unfold kc; rw [if_pos eu]
                                                  omega)
        refine ⟨Yj, g2, ?_, g4.row (fun k hk => by rw [hrow k hk, if_neg ej, if_pos eu])⟩
        refine eqB.row ?_ (fun k hk => by rw [hrow k hk, if_neg ej, if_pos eu]) hm hd
        have kc9 : kc u = 9 := by unfold kc; rw [if_pos eu]
        have kfe : kf f u = (f + 1) % 10 := by unfold kf; rw [if_pos eu]
        have eb : (kf f u + j) % 10 = (f + (j + 1)) % 10 := by rw [kfe]; omega
        rw [eb]
        refine fin (by omega) (eqB.cpo ?_ (by unfold kix; rw [kc9, kfe]; omega) hm hd)
        refine g3.fr (fun o h4 h5 => ?_) hm hd
        have hK10 : K = 10 := by omega
        exact kzE_o (by omega) (by rw [hK10]; omega)
      · have kce : kc u = u := by unfold kc; rw [if_neg eu]
        have kfe : kf f u = f := by unfold kf; rw [if_neg eu]
        obtain ⟨Yj, g2, g3, g4⟩ := g1 j (by omega)
        refine ⟨Yj, g2, ?_, g4.row (fun k hk => by rw [hrow k hk, if_neg ej, if_neg eu])⟩
        refine eqB.row ?_ (fun k hk => by rw [hrow k hk, if_neg ej, if_neg eu]) hm hd
        rw [kfe]
        refine fin (by omega) (eqB.cpo ?_ (by unfold kix; rw [kce, kfe]; omega) hm hd)
        refine g3.fr (fun o h4 h5 => ?_) hm hd
        have hlt : (f + j) % 10 < K := by
          by_cases e : K < 10
          · rw [d6 e]; omega
          · omega
        exact kzE_o (by omega) (by omega)
