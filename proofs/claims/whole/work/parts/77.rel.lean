/-! THE AGREEMENT of the component's state and the reference's -/
/-- the books of block b hold what the names t and the row r hold, for mc members and dc departments -/
def eqB (z : xSt) (b mc dc : Nat) (t r : Nat → Int32) : Prop :=
  (z.1 (oB b) 3 = t 12 ∧ z.1 (oB b) 4 = t 13 ∧ z.1 (oB b) 5 = r 494 ∧ z.1 (oB b) 6 = r 493 ∧ z.1 (oB b) 8 = r 496 ∧ z.1 (oB b) 7 - bx_sum (fun m => z.1 (oPd b m) 0) mc = r 495) ∧
  (∀ k, k < 5 → z.1 (oSt b) k = r k) ∧
  (∀ m, m < mc → z.1 (oM b m) 0 = t m ∧ z.1 (oM b m) 1 = r (13 + m) ∧ z.1 (oM b m) 2 = r (5 + m) ∧ z.1 (oM b m) 3 = r (21 + m) ∧ z.1 (oM b m) 4 = r (469 + m) ∧ z.1 (oM b m) 5 = r (477 + m)) ∧
  (∀ m d, m < mc → d < 4 → z.1 (oPt b m) d = r (29 + 4 * m + d)) ∧
  (∀ m y, m < mc → y < 24 → z.1 (oLf b m) y = r (61 + 24 * m + y) ∧ z.1 (oKd b m) y = r (253 + 24 * m + y)) ∧
  (∀ m, m < mc → z.1 (oLf b m) 24 = 0) ∧
  (∀ m j, m < mc → j < 3 → z.1 (oPd b m) j = r (445 + 3 * m + j)) ∧
  (∀ d, d < dc → z.1 (oD b d) 0 = t (8 + d) ∧ z.1 (oD b d) 1 = r (485 + d) ∧ z.1 (oD b d) 2 = r (489 + d))
theorem bx_cong {f g : Nat → Int32} : ∀ {n : Nat}, (∀ i, i < n → f i = g i) → bx_sum f n = bx_sum g n
  | 0, _ => rfl
  | n + 1, h => by
    show bx_sum f n + f n = bx_sum g n + g n
    rw [bx_cong (fun i hi => h i (by omega)), h n (by omega)]
def isN (x : Int32) (M : Nat) : Prop := ∃ a : Nat, a ≤ M ∧ x = nI a
/-- what every row of the reference keeps -/
def rI (mc dc Y : Nat) (t r : Nat → Int32) : Prop :=
  (t 12 = nI mc ∧ mc ≤ 8 ∧ t 13 = nI dc ∧ dc ≤ 4 ∧ r 494 = nI Y) ∧
  ((∃ a, 20 ≤ a ∧ a ≤ 100 ∧ r 0 = nI a) ∧ isN (r 1) 50 ∧ (∃ a, 1 ≤ a ∧ a ≤ 10 ∧ r 2 = nI a) ∧ isN (r 3) 20 ∧ isN (r 4) 2) ∧
  (∀ m, m < 8 → isN (r (5 + m)) 2 ∧ isN (r (13 + m)) 1 ∧ isN (r (21 + m)) 10 ∧ (r (5 + m) = nI 1 → r (21 + m) ≠ 0)) ∧
  (∀ m d, m < 8 → d < 4 → isN (r (29 + 4 * m + d)) 1000000 ∧ (r (5 + m) ≠ 0 → r (29 + 4 * m + d) = 0)) ∧
  (∀ m y, m < 8 → y < 24 → isN (r (61 + 24 * m + y)) 5000000 ∧ (Y ≤ y → r (61 + 24 * m + y) = 0 ∧ r (253 + 24 * m + y) = 0)) ∧
  (∀ d, d < 4 → isN (r (489 + d)) 8000000)
/-- a byte with its sign, and without -/
def byR (x y : Int32) : Prop := ∃ a : Nat, a < 256 ∧ y = nI a ∧ x = (if a < 128 then nI a else nI a - nI 256)
/-- the buffer: q bytes -/
def jQb (zc zm : xSt) : Prop := ∃ q : Nat, zc.1 14 1 = nI q ∧ zm.1 0 2 = nI q ∧ q ≤ 900 ∧ ∀ j, j < q → byR (zc.1 15 j) (zm.1 1 j)
/-- the books now, and those before the last changes -/
def jH (K mc dc Y u f : Nat) (zc zm : xSt) : Prop :=
  (zc.1 2 2 = nI u ∧ zm.1 0 8 = nI u ∧ zc.1 2 1 = nI f ∧ f < 10 ∧ u ≤ K ∧ (K < 10 → f = 0) ∧ K ≤ 10) ∧
  (eqB zc 0 mc dc (zm.1 2) (zm.1 4) ∧ rI mc dc Y (zm.1 2) (zm.1 4) ∧ Y ≤ 24) ∧
  ∀ j, j < u → ∃ Yj, Yj ≤ 24 ∧ eqB zc (2 + (f + j) % 10) mc dc (zm.1 2) (fun k => zm.1 6 (497 * j + k)) ∧ rI mc dc Yj (zm.1 2) (fun k => zm.1 6 (497 * j + k))
def jBk (K mc dc : Nat) (zc zm : xSt) : Prop := ∃ Y u f : Nat, jH K mc dc Y u f zc zm
def jJ (K : Nat) (zc zm : xSt) : Prop := jQb zc zm ∧ zc.1 0 8 = zm.1 0 28 ∧ (cnB zc 0 ∧ cnB zc 1) ∧ ∃ mc dc, jBk K mc dc zc zm
theorem eqB.fr {z z2 : xSt} {b mc dc : Nat} {t r : Nat → Int32} (h : eqB z b mc dc t r) (hz : ∀ o, 19 + 48 * b ≤ o → o < 67 + 48 * b → z2.1 o = z.1 o) (hm : mc ≤ 8) (hd : dc ≤ 4) : eqB z2 b mc dc t r := by
  obtain ⟨h1, h2, h3, h4, h5, h6, h7, h8⟩ := h
  have e0 : z2.1 (oB b) = z.1 (oB b) := hz _ (by unfold oB; omega) (by unfold oB; omega)
  have e1 : z2.1 (oSt b) = z.1 (oSt b) := hz _ (by unfold oSt; omega) (by unfold oSt; omega)
  have e2 : ∀ m, m < mc → z2.1 (oM b m) = z.1 (oM b m) := fun m h => hz _ (by unfold oM; omega) (by unfold oM; omega)
  have e3 : ∀ m, m < mc → z2.1 (oPt b m) = z.1 (oPt b m) := fun m h => hz _ (by unfold oPt; omega) (by unfold oPt; omega)
  have e4 : ∀ m, m < mc → z2.1 (oLf b m) = z.1 (oLf b m) := fun m h => hz _ (by unfold oLf; omega) (by unfold oLf; omega)
  have e5 : ∀ m, m < mc → z2.1 (oKd b m) = z.1 (oKd b m) := fun m h => hz _ (by unfold oKd; omega) (by unfold oKd; omega)
  have e6 : ∀ m, m < mc → z2.1 (oPd b m) = z.1 (oPd b m) := fun m h => hz _ (by unfold oPd; omega) (by unfold oPd; omega)
  have e7 : ∀ d, d < dc → z2.1 (oD b d) = z.1 (oD b d) := fun m h => hz _ (by unfold oD; omega) (by unfold oD; omega)
  refine ⟨?_, fun k hk => by rw [e1]; exact h2 k hk, fun m hm => by rw [e2 m hm]; exact h3 m hm, fun m d hm hd => by rw [e3 m hm]; exact h4 m d hm hd, fun m y hm hy => by rw [e4 m hm, e5 m hm]; exact h5 m y hm hy, fun m hm => by rw [e4 m hm]; exact h6 m hm, fun m j hm hj => by rw [e6 m hm]; exact h7 m j hm hj, fun d hd => by rw [e7 d hd]; exact h8 d hd⟩
  rw [e0, bx_cong (g := fun m => z.1 (oPd b m) 0) (fun m hm => by show z2.1 (oPd b m) 0 = _; rw [e6 m hm])]
  exact h1
/-- what a question may change -/
theorem jJ.fr {K : Nat} {zc zm c2 m2 : xSt} (h : jJ K zc zm) (h1 : ∀ o, (o = 0 ∨ o = 2 ∨ o = 14 ∨ o = 15 ∨ (19 ≤ o ∧ o < 67) ∨ 115 ≤ o) → c2.1 o = zc.1 o) (hc : cnB c2 1) (h2 : ∀ o, (o = 1 ∨ o = 2 ∨ o = 4 ∨ o = 6) → m2.1 o = zm.1 o) (h3 : m2.1 0 2 = zm.1 0 2 ∧ m2.1 0 8 = zm.1 0 8 ∧ m2.1 0 28 = zm.1 0 28) : jJ K c2 m2 := by
  obtain ⟨⟨q, a1, a2, a3, a4⟩, b1, ⟨c1, -⟩, mc, dc, Y, u, f, ⟨d1, d2, d3, d4⟩, ⟨f1, f2, f3⟩, g1⟩ := h
  have hm : mc ≤ 8 := f2.1.2.1
  have hd : dc ≤ 4 := f2.1.2.2.2.1
  have e0 := h1 0 (by omega)
  have e2 := h1 2 (by omega)
  have e14 := h1 14 (by omega)
  have e15 := h1 15 (by omega)
  have r1 := h2 1 (by omega)
  have r2 := h2 2 (by omega)
  have r4 := h2 4 (by omega)
  have r6 := h2 6 (by omega)
  refine ⟨⟨q, by rw [e14]; exact a1, by rw [h3.1]; exact a2, a3, fun j hj => by rw [e15, r1]; exact a4 j hj⟩, by rw [e0, h3.2.2]; exact b1, ⟨fun m h8 => ?_, hc⟩, mc, dc, Y, u, f, ⟨by rw [e2]; exact d1, by rw [h3.2.1]; exact d2, by rw [e2]; exact d3, d4⟩, ⟨by rw [r2, r4]; exact f1.fr (fun o h4 h5 => h1 o (by omega)) hm hd, by rw [r2, r4]; exact f2, f3⟩, fun j hj => ?_⟩
  · rw [h1 (oM 0 m) (by unfold oM; omega)]; exact c1 m h8
  · obtain ⟨Yj, g2, g3, g4⟩ := g1 j hj
    refine ⟨Yj, g2, ?_, by rw [r2, r6]; exact g4⟩
    rw [r2, r6]
    exact g3.fr (fun o h4 h5 => h1 o (by omega)) hm hd
/-- the reference's flag of a throw -/
theorem jJ.u0 {K : Nat} {zc zm : xSt} (h : jJ K zc zm) (x : Int32) : jJ K zc (u1 zm 0 0 x) := h.fr (fun _ _ => rfl) h.2.2.1.2 (fun o ho => u1_ne zm (by omega)) ⟨u1_sne zm 0 x (by omega), u1_sne zm 0 x (by omega), u1_sne zm 0 x (by omega)⟩
/-- what a question wants to know -/
def jV (mc dc Y : Nat) (zc zm : xSt) : Prop := (bOk zc 0 ∧ bN zc 0 3 = mc ∧ bN zc 0 4 = dc ∧ bN zc 0 5 = Y) ∧ (rOk zm ∧ mQ zm 12 = mc ∧ mQ zm 13 = dc ∧ yQ zm = Y) ∧ cnB zc 0 ∧ eqB zc 0 mc dc (zm.1 2) (zm.1 4) ∧ rI mc dc Y (zm.1 2) (zm.1 4) ∧ Y ≤ 24
theorem eqB.ok {z : xSt} {b mc dc Y : Nat} {t r : Nat → Int32} (h : eqB z b mc dc t r) (hr : rI mc dc Y t r) (hY : Y ≤ 24) : bOk z b ∧ bN z b 3 = mc ∧ bN z b 4 = dc ∧ bN z b 5 = Y := by
  obtain ⟨⟨a1, a2, a3, -⟩, -⟩ := h
  obtain ⟨⟨b1, b2, b3, b4, b5⟩, -⟩ := hr
  have e3 : bN z b 3 = mc := by unfold bN; rw [a1, b1, nI_clamp (by omega)]
  have e4 : bN z b 4 = dc := by unfold bN; rw [a2, b3, nI_clamp (by omega)]
  have e5 : bN z b 5 = Y := by unfold bN; rw [a3, b5, nI_clamp (by omega)]
  refine ⟨?_, e3, e4, e5⟩
  unfold bOk
  rw [e3, e4, e5, a1, a2, a3]
  exact ⟨b1, b2, b3, b4, b5, hY⟩
theorem rI.ok {z : xSt} {mc dc Y : Nat} (hr : rI mc dc Y (z.1 2) (z.1 4)) (hY : Y ≤ 24) : rOk z ∧ mQ z 12 = mc ∧ mQ z 13 = dc ∧ yQ z = Y := by
  obtain ⟨⟨b1, b2, b3, b4, b5⟩, -⟩ := hr
  have e3 : mQ z 12 = mc := by unfold mQ; rw [b1, nI_clamp (by omega)]
  have e4 : mQ z 13 = dc := by unfold mQ; rw [b3, nI_clamp (by omega)]
  have e5 : yQ z = Y := by unfold yQ; rw [b5, nI_clamp (by omega)]
  refine ⟨?_, e3, e4, e5⟩
  unfold rOk
  rw [e3, e4, e5]
  exact ⟨b1, b2, b3, b4, b5, hY⟩
theorem jJ.v {K : Nat} {zc zm : xSt} (h : jJ K zc zm) : ∃ mc dc Y, jV mc dc Y zc zm := by
  obtain ⟨-, -, ⟨c1, -⟩, mc, dc, Y, u, f, -, ⟨f1, f2, f3⟩, -⟩ := h
  exact ⟨mc, dc, Y, f1.ok f2 f3, f2.ok f3, c1, f1, f2, f3⟩
theorem inR_nat {x : Int32} {n : Nat} (h : inR x n) (hn : n < 2147483648) : ∃ k, k < n ∧ x = nI k := by
  obtain ⟨k, hk, e⟩ := nI_of h.1
  have h2 := h.2
  rw [e] at h2
  exact ⟨k, (nI_ltI hk hn).mp h2, e⟩
theorem inR_nI {k n : Nat} (h : k < n) (hn : n < 2147483648) : inR (nI k) n := ⟨nI_pos (by omega), nI_lt h hn⟩
/-- what a member's certificates add up to, on both sides -/
theorem eq_eq {mc dc : Nat} {zc zm : xSt} (h : eqB zc 0 mc dc (zm.1 2) (zm.1 4)) {m : Nat} (hm : m < mc) : bx_sum (zc.1 (oLf 0 m)) 25 = eqQ zm m := by
  show bx_sum (zc.1 (oLf 0 m)) 24 + zc.1 (oLf 0 m) 24 = _
  rw [h.2.2.2.2.2.1 m hm, Int32.add_zero]
  exact bx_cong (fun y hy => (h.2.2.2.2.1 m y hm hy).1)
theorem eq_all {mc dc : Nat} {zc zm : xSt} (h : eqB zc 0 mc dc (zm.1 2) (zm.1 4)) : bx_sum (fun m => bx_sum (zc.1 (oLf 0 m)) 25) mc = bx_sum (eqQ zm) mc := bx_cong (fun m hm => eq_eq h hm)
