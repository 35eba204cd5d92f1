/-! BOTH ANSWER ALIKE: all members are settled -/
/-- the certificates of a row: bounded, none from a member's year F m on -/
def rL (F : Nat → Nat) (r : Nat → Int32) : Prop := ∀ m y, m < 8 → y < 24 → isN (r (61 + 24 * m + y)) 5000000 ∧ (F m ≤ y → r (61 + 24 * m + y) = 0 ∧ r (253 + 24 * m + y) = 0)
/-- after k members are settled: z the books, s the reference -/
def sB (b mc dc Y k : Nat) (y0 z s : xSt) : Prop :=
  eqC z b mc dc (y0.1 2) (s.1 4) ∧ (∀ m, m < mc → z.1 (oM b m) 4 = y0.1 11 m) ∧ (∀ m, m < k → s.1 4 (469 + m) = y0.1 11 m ∧ z.1 (oM b m) 5 = s.1 4 (477 + m)) ∧ (∀ m, k ≤ m → m < mc → z.1 (oM b m) 5 = 0) ∧
  rL (fun m => if m < k ∧ 0 < y0.1 11 m then Y + 1 else Y) (s.1 4) ∧ (∀ j, (j < 61 ∨ (485 ≤ j ∧ j < 493) ∨ j = 494) → s.1 4 j = y0.1 4 j) ∧ (∀ o, o ≠ 4 → s.1 o = y0.1 o)
theorem sB_s {b mc dc Y k : Nat} {y0 z s : xSt} (hI : rI mc dc Y (y0.1 2) (y0.1 4)) (hY : Y < 24) (hk : k < mc) (hb : ∀ m, m < mc → -4000000 ≤ (y0.1 11 m).toInt ∧ (y0.1 11 m).toInt ≤ 4000000) (h : sB b mc dc Y k y0 z s) : sB b mc dc Y (k + 1) y0 (setl z b k Y) (cmS s k) := by
  obtain ⟨hE, e4, e5, e50, hL, hc, ho⟩ := h
  have h8 : mc ≤ 8 := hI.1.2.1
  have h4 : dc ≤ 4 := hI.1.2.2.2.1
  have yY : yQ s = Y := by unfold yQ; rw [hc 494 (by omega), hI.1.2.2.2.2, nI_clamp (by omega)]
  have s11 : s.1 11 = y0.1 11 := ho 11 (by omega)
  have n4 := e4 k hk
  obtain ⟨hb1, hb2⟩ := hb k hk
  generalize hn : y0.1 11 k = n at *
  have fr5 : ∀ m, m < k → z.1 (oM b m) 5 = s.1 4 (477 + m) := fun m hm => (e5 m hm).2
  have t0 : (0 : Int32).toInt = 0 := rfl
  by_cases c1 : 0 < n
  · -- a surplus
    obtain ⟨kn, ek, hkn⟩ : ∃ kn : Nat, n = nI kn ∧ 0 < kn ∧ kn ≤ 4000000 := by
      have h0 : 0 < n.toInt := by have := Int32.lt_iff_toInt_lt.mp c1; rw [t0] at this; exact this
      exact ⟨n.toInt.toNat, nI_of_toInt (by omega) (by omega), by omega, by omega⟩
    obtain ⟨cs, hcs, ecs⟩ := (hI.2.2.1 k (by omega)).2.1
    obtain ⟨a, ha1, ha2, ea⟩ := hI.2.1.1
    have z1e : z.1 (oM b k) 1 = nI cs := by rw [(hE.2.2.1 k hk).2.1, hc _ (by omega), ecs]
    have z0e : z.1 (oSt b) 0 = nI a := by rw [hE.2.1 0 (by omega), hc _ (by omega), ea]
    have hca : kn * a ≤ 4000000 * 100 := Nat.mul_le_mul hkn.2 ha2
    have hcle : kn * a / 100 ≤ kn := Nat.div_le_of_le_mul (by rw [Nat.mul_comm 100]; exact Nat.mul_le_mul_left kn ha2)
    obtain ⟨c, hcn, e1, e2, e3, e4c⟩ : ∃ c : Nat, c ≤ kn ∧ cashOf z b k = nI c ∧ csQ s k n = nI c ∧ (if z.1 (oM b k) 1 = 0 then (1 : Int32) else 0) = kdQ s k ∧ (c = kn → kdQ s k = 0) := by
      unfold cashOf csQ kdQ
      rw [z1e, n4, z0e, hc (13 + k) (by omega), ecs, hc 0 (by omega), ea, ek]
      rcases (show cs = 0 ∨ cs = 1 by omega) with rfl | rfl
      · exact ⟨0, by omega, rfl, rfl, rfl, fun h => by omega⟩
      · refine ⟨kn * a / 100, hcle, ?_, ?_, rfl, fun _ => rfl⟩
        · rw [if_neg (by decide), pk_mul]; exact nI_div (b := 100) (by omega) (by omega)
        · rw [if_pos rfl, pk_mul, nI_div (by omega) (by omega)]
    obtain ⟨-, hz2⟩ := hL k Y (by omega) hY
    obtain ⟨zl, zk⟩ := hz2 (by show (if k < k ∧ 0 < y0.1 11 k then Y + 1 else Y) ≤ Y; rw [if_neg (by omega)]; exact Nat.le_refl Y)
    obtain ⟨el, ekd⟩ := hE.2.2.2.2.1 k Y hk hY
    have hsp := setl_p (z := z) (b := b) (m := k) (Y := Y) (n := n) (c := nI c) (kd := kdQ s k) n4 c1 e1 e3 (el.trans zl) (ekd.trans zk) (fun hnn => by
      rw [ek, nI_sub hcn] at hnn ⊢
      have : kn - c = 0 := by
        rcases Nat.eq_zero_or_pos (kn - c) with q | q
        · exact q
        · exact absurd (nI_0lt q (by omega)) hnn
      rw [this]
      exact ⟨rfl, e4c (by omega)⟩)
    have hrow := cmS_p (s := s) (m := k) (by omega) (by rw [yY]; exact hY) (by rw [s11, hn]; exact c1)
    rw [s11, hn, yY, e2] at hrow
    have hE2 := (eqC.pos hE hk h8 h4 hY hsp).row (r2 := (cmS s k).1 4) (fun j _ _ => hrow j) h8 h4
    have hM : ∀ m j, (setl z b k Y).1 (oM b m) j = z.1 (oM b m) j := fun m j => by rw [hsp.1 _ (by unfold oM oB; omega) (by unfold oM oPd; omega) (by unfold oM oLf; omega) (by unfold oM oKd; omega)]
    refine ⟨hE2, fun m hm => by rw [hM]; exact e4 m hm, fun m hm => ?_, fun m h1 h2 => by rw [hM]; exact e50 m (by omega) h2, fun m y hm hy => ?_, fun j hj => ?_, fun o hoo => by rw [cmS_o hoo]; exact ho o hoo⟩
    · rw [hM, hrow, hrow]
      unfold rowP
      by_cases e : m = k
      · subst e
        rw [if_neg (by omega), if_neg (by omega), if_neg (by omega), if_neg (by omega), if_neg (by omega), if_pos rfl, if_neg (by omega), if_neg (by omega), if_neg (by omega), if_neg (by omega), if_pos rfl]
        exact ⟨hn.symm, e50 m (Nat.le_refl m) hk⟩
      · rw [if_neg (by omega), if_neg (by omega), if_neg (by omega), if_neg (by omega), if_neg (by omega), if_neg (by omega), if_neg (by omega), if_neg (by omega), if_neg (by omega), if_neg (by omega), if_neg (by omega), if_neg (by omega)]
        exact e5 m (by omega)
    · rw [hrow, hrow]
      obtain ⟨l1, l2⟩ := hL m y hm hy
      unfold rowP
      by_cases e : m = k ∧ y = Y
      · obtain ⟨rfl, rfl⟩ := e
        rw [if_neg (by omega), if_neg (by omega), if_pos rfl, ek, nI_sub hcn]
        refine ⟨⟨kn - c, by omega, rfl⟩, fun h => ?_⟩
        have h : (if m < m + 1 ∧ 0 < y0.1 11 m then y + 1 else y) ≤ y := h
        rw [if_pos ⟨by omega, by rw [hn]; exact c1⟩] at h
        omega
      · rw [if_neg (by omega), if_neg (by omega), if_neg (by omega), if_neg (by omega), if_neg (by omega), if_neg (by omega), if_neg (by omega), if_neg (by omega), if_neg (by omega), if_neg (by omega), if_neg (by omega), if_neg (by omega)]
        refine ⟨l1, fun h => l2 ?_⟩
        have h : (if m < k + 1 ∧ 0 < y0.1 11 m then Y + 1 else Y) ≤ y := h
        show (if m < k ∧ 0 < y0.1 11 m then Y + 1 else Y) ≤ y
        by_cases q : m < k ∧ 0 < y0.1 11 m
        · rw [if_pos ⟨by omega, q.2⟩] at h; rw [if_pos q]; exact h
        · rw [if_neg q]
          by_cases q2 : m < k + 1 ∧ 0 < y0.1 11 m
          · rw [if_pos q2] at h; omega
          · rw [if_neg q2] at h; exact h
    · rw [hrow]
      unfold rowP
      rw [if_neg (by omega), if_neg (by omega), if_neg (by omega), if_neg (by omega), if_neg (by omega), if_neg (by omega)]
      exact hc j hj
  · have Fk : ∀ m y, (if m < k + 1 ∧ 0 < y0.1 11 m then Y + 1 else Y) ≤ y → (if m < k ∧ 0 < y0.1 11 m then Y + 1 else Y) ≤ y := fun m y h => by
      by_cases q : m < k ∧ 0 < y0.1 11 m
      · rw [if_pos ⟨by omega, q.2⟩] at h; rw [if_pos q]; exact h
      · rw [if_neg q]
        by_cases q2 : m < k + 1 ∧ 0 < y0.1 11 m
        · rw [if_pos q2] at h; omega
        · rw [if_neg q2] at h; exact h
    by_cases c2 : n < 0
    · -- a loss
      obtain ⟨kn, ek, hkn⟩ : ∃ kn : Nat, -n = nI kn ∧ kn ≤ 4000000 := by
        have h0 : n.toInt < 0 := by have := Int32.lt_iff_toInt_lt.mp c2; rw [t0] at this; exact this
        refine ⟨(-n.toInt).toNat, nI_of_toInt ?_ (by omega), by omega⟩
        rw [Int32.toInt_neg, Int.bmod_eq_of_le (by omega) (by omega)]
        omega
      have hlf : ∀ y, y < 24 → z.1 (oLf b k) y = lfQ s k y := fun y hy => (hE.2.2.2.2.1 k y hk hy).1
      have hF0 : ∀ y, Y ≤ y → y < 24 → lfQ s k y = 0 := fun y h1 h2 => ((hL k y (by omega) h2).2 (by show (if k < k ∧ 0 < y0.1 11 k then Y + 1 else Y) ≤ y; rw [if_neg (by omega)]; exact h1)).1
      have hnat : ∀ i, i < 25 → ∃ g : Nat, g < 2147483648 ∧ z.1 (oLf b k) i = nI g := fun i hi => by
        by_cases q : i = 24
        · exact ⟨0, by omega, by rw [q]; exact hE.2.2.2.2.2.1 k hk⟩
        · rw [hlf i (by omega)]
          obtain ⟨g, hg, e⟩ := (hL k i (by omega) (by omega)).1
          exact ⟨g, by omega, e⟩
      have eq25 : rcp 25 (z.1 (oLf b k)) (-n) = rcF Y (z.1 (oLf b k)) (-n) := by
        rw [ek, rcp_rcF (by omega) hnat]
        refine rcF_cut (by omega) (by omega) (fun i h1 h2 => ?_)
        by_cases q : i = 24
        · rw [q]; exact hE.2.2.2.2.2.1 k hk
        · rw [hlf i (by omega)]; exact hF0 i h1 (by omega)
      obtain ⟨cg1, cg2⟩ := rcF_cong (x := -n) (n := Y) (f := z.1 (oLf b k)) (g := lfQ s k) (fun i hi => hlf i (by omega))
      have hsn := setl_n (z := z) (b := b) (m := k) (Y := Y) (n := n) (q := rcF Y (z.1 (oLf b k)) (-n)) n4 c2 eq25
      have q24 : (rcF Y (z.1 (oLf b k)) (-n)).1 24 = 0 := by rw [rcF_hi Y _ _ 24 (by omega)]; exact hE.2.2.2.2.2.1 k hk
      have hrow := cmS_n (s := s) (m := k) (q := rcF Y (z.1 (oLf b k)) (-n)) (by omega) (by rw [yY]; omega) (by rw [s11, hn]; exact c2) (by rw [yY, s11, hn]; exact cg1.symm) (fun y hy => by
        rw [yY, s11, hn]
        by_cases q : y < Y
        · rw [if_pos q]; exact cg2 y q
        · rw [if_neg q, rcF_hi Y _ _ y (by omega)]; exact hlf y hy)
      rw [s11, hn] at hrow
      have hE2 := (eqC.neg hE hk h8 h4 q24 hsn).row (r2 := (cmS s k).1 4) (fun j _ _ => hrow j) h8 h4
      obtain ⟨p1, p2, p3, p4⟩ := hsn
      have hM : ∀ m j, (m ≠ k ∨ j ≠ 5) → (setl z b k Y).1 (oM b m) j = z.1 (oM b m) j := fun m j hmj => by
        by_cases q : m = k
        · rw [q, p3, if_neg (by omega)]
        · rw [p1 _ (by unfold oM oB; omega) (by unfold oM; omega) (by unfold oM oLf; omega)]
      have hgn : ∀ i : Nat, ∃ g : Nat, i < Y → g ≤ 5000000 ∧ lfQ s k i = nI g := fun i => by
        by_cases q : i < Y
        · obtain ⟨g, hg, e⟩ := (hL k i (by omega) (by omega)).1
          exact ⟨g, fun _ => ⟨hg, e⟩⟩
        · exact ⟨0, fun q2 => absurd q2 q⟩
      obtain ⟨g, hg⟩ := Classical.axiomOfChoice hgn
      obtain ⟨-, -, f3⟩ := rcF_nat (n := Y) (f := lfQ s k) (g := g) (x := kn) (by omega) (fun i hi => ⟨by have := (hg i hi).1; omega, (hg i hi).2⟩)
      refine ⟨hE2, fun m hm => by rw [hM m 4 (by omega)]; exact e4 m hm, fun m hm => ?_, fun m h1 h2 => by rw [hM m 5 (by omega)]; exact e50 m (by omega) h2, fun m y hm hy => ?_, fun j hj => ?_, fun o hoo => by rw [cmS_o hoo]; exact ho o hoo⟩
      · rw [hrow, hrow]
        unfold rowN
        by_cases e : m = k
        · subst e
          rw [if_neg (by omega), if_neg (by omega), if_neg (by omega), if_pos rfl, if_neg (by omega), if_neg (by omega), if_pos rfl, p3, if_pos rfl]
          exact ⟨hn.symm, rfl⟩
        · rw [if_neg (by omega), if_neg (by omega), if_neg (by omega), if_neg (by omega), if_neg (by omega), if_neg (by omega), if_neg (by omega), if_neg (by omega), if_neg (by omega), if_neg (by omega), hM m 5 (by omega)]
          exact e5 m (by omega)
      · rw [hrow, hrow]
        obtain ⟨l1, l2⟩ := hL m y hm hy
        unfold rowN
        by_cases e : m = k
        · subst e
          rw [if_neg (by omega), if_neg (by omega), if_neg (by omega), if_neg (by omega), if_pos (by omega), show 61 + 24 * m + y - (61 + 24 * m) = y by omega, if_neg (by omega), if_neg (by omega), if_neg (by omega), if_neg (by omega), if_neg (by omega)]
          by_cases q : y < Y
          · rw [cg2 y q, ek]
            obtain ⟨a, ha, ea⟩ := f3 y q
            refine ⟨⟨a, by have := (hg y q).1; omega, ea⟩, fun h => ?_⟩
            have h := Fk m y h
            rw [if_neg (by omega)] at h
            omega
          · rw [rcF_hi Y _ _ y (by omega), hlf y hy]
            exact ⟨l1, fun h => l2 (Fk m y h)⟩
        · rw [if_neg (by omega), if_neg (by omega), if_neg (by omega), if_neg (by omega), if_neg (by omega), if_neg (by omega), if_neg (by omega), if_neg (by omega), if_neg (by omega), if_neg (by omega)]
          exact ⟨l1, fun h => l2 (Fk m y h)⟩
      · rw [hrow]
        unfold rowN
        rw [if_neg (by omega), if_neg (by omega), if_neg (by omega), if_neg (by omega), if_neg (by omega)]
        exact hc j hj
    · -- nothing
      have n0 : n = 0 := by
        apply Int32.toInt_inj.mp
        have q1 := Int32.le_iff_toInt_le.mp (Int32.not_lt.mp c1)
        have q2 := Int32.le_iff_toInt_le.mp (Int32.not_lt.mp c2)
        rw [t0] at q1 q2 ⊢
        omega
      have hrow := cmS_z (s := s) (m := k) (by rw [s11, hn]; exact n0)
      rw [s11, hn] at hrow
      rw [setl_0 (n4.trans n0)]
      refine ⟨(hE.zer (n := n) hk h8 h4).row (fun j _ _ => hrow j) h8 h4, e4, fun m hm => ?_, fun m h1 h2 => e50 m (by omega) h2, fun m y hm hy => ?_, fun j hj => ?_, fun o hoo => by rw [cmS_o hoo]; exact ho o hoo⟩
      · rw [hrow, hrow]
        unfold row0
        by_cases e : m = k
        · subst e
          rw [if_neg (by omega), if_pos rfl, if_pos rfl]
          exact ⟨hn.symm, e50 m (Nat.le_refl m) hk⟩
        · rw [if_neg (by omega), if_neg (by omega), if_neg (by omega), if_neg (by omega)]
          exact e5 m (by omega)
      · rw [hrow, hrow]
        unfold row0
        rw [if_neg (by omega), if_neg (by omega), if_neg (by omega), if_neg (by omega)]
        obtain ⟨l1, l2⟩ := hL m y hm hy
        exact ⟨l1, fun h => l2 (Fk m y h)⟩
      · rw [hrow]
        unfold row0
        rw [if_neg (by omega), if_neg (by omega)]
        exact hc j hj
theorem sB_all {b mc dc Y : Nat} {y0 z : xSt} (hI : rI mc dc Y (y0.1 2) (y0.1 4)) (hY : Y < 24) (hb : ∀ m, m < mc → -4000000 ≤ (y0.1 11 m).toInt ∧ (y0.1 11 m).toInt ≤ 4000000) (h : sB b mc dc Y 0 y0 z y0) : ∀ k, k ≤ mc → sB b mc dc Y k y0 (stL z b Y k) (cmQ y0 k)
  | 0, _ => h
  | k + 1, hk => sB_s hI hY (by omega) hb (sB_all hI hY hb h k (by omega))
