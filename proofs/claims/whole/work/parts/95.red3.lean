/-! REDEMPTION: the payments agree -/
def ltO (L : List (Nat × Nat)) (A : Nat → Nat) : Prop := L.length ≤ 192 ∧ L.Pairwise lxR ∧ ∀ i, i < L.length → 1 ≤ A i ∧ A i ≤ 5000000 ∧ (L.getD i (0, 0)).1 < 24
/-- a reference's state with the list laid -/
def ltS (L : List (Nat × Nat)) (A : Nat → Nat) (z : xSt) : Prop := ∀ i, i < L.length → z.1 15 i = nI (L.getD i (0, 0)).1 ∧ amt z L i = nI (A i)
theorem ltS.of {L : List (Nat × Nat)} {A : Nat → Nat} {z s : xSt} (h : ltS L A z) (hs : ∀ o, o ≠ 13 → s.1 o = z.1 o) : ltS L A s := fun i hi => by
  have e : amt s L i = amt z L i := by unfold amt lfQ; rw [hs 4 (by omega)]
  rw [hs 15 (by omega), e]
  exact h i hi
theorem ltO.sum {L : List (Nat × Nat)} {A : Nat → Nat} (h : ltO L A) {f n : Nat} (hn : f + n ≤ L.length) : sN (fun i => A (f + i)) n ≤ 960000000 ∧ (0 < n → 0 < sN (fun i => A (f + i)) n) := by
  have h1 : sN (fun i => A (f + i)) n ≤ n * 5000000 := sN_bd (fun i hi => (h.2.2 (f + i) (by omega)).2.1)
  have h2 : n * 5000000 ≤ 192 * 5000000 := Nat.mul_le_mul_right _ (by have := h.1; omega)
  refine ⟨by omega, fun h0 => ?_⟩
  have h3 := sN_ge (g := fun i => A (f + i)) (i := 0) (n := n) h0
  have h4 := (h.2.2 (f + 0) (by omega)).1
  try dsimp only at h3
  omega
theorem ltO.yr {L : List (Nat × Nat)} {A : Nat → Nat} (h : ltO L A) {i j : Nat} (hij : i ≤ j) (hj : j < L.length) : (L.getD i (0, 0)).1 ≤ (L.getD j (0, 0)).1 := by
  rcases Nat.eq_or_lt_of_le hij with e | e
  · rw [e]; exact Nat.le_refl _
  · rcases ord_at h.2.1 e hj with q | q
    · omega
    · omega
theorem pb_seg {L : List (Nat × Nat)} {A : Nat → Nat} {s : xSt} (h : ltO L A) (hs : ltS L A s) {f : Nat} (hf : f < L.length) : f < pbT s L f ∧ pbT s L f ≤ L.length ∧ pbS s L f = nI (sN (fun i => A (f + i)) (pbT s L f - f)) := by
  have h1 : f < pbT s L f := seg_gt (by omega) rfl
  have h2 : pbT s L f ≤ L.length := by have := seg_le (s.1 15) (s.1 15 f) (L.length - f) f; unfold pbT; omega
  refine ⟨h1, h2, ?_⟩
  unfold pbS
  exact bx_sN (fun i hi => (hs (f + i) (by omega)).2)
theorem pb_full {L : List (Nat × Nat)} {A : Nat → Nat} (h : ltO L A) : ∀ (k : Nat) (s : xSt) (f : Nat), ltS L A s → L.length - f ≤ k → f ≤ L.length → (∀ i, i < f → s.1 13 i = nI (A i)) → ∀ i, i < L.length → (pbQ L k s f (nI (sN (fun i => A (f + i)) (L.length - f)))).1 13 i = nI (A i)
  | 0, s, f, hs, hk, hf, h13, i, hi => h13 i (by omega)
  | k + 1, s, f, hs, hk, hf, h13, i, hi => by
    rw [pbQ_s rfl]
    by_cases c : f < L.length
    · rw [if_pos c]
      obtain ⟨t1, t2, t3⟩ := pb_seg h hs c
      rw [t3]
      generalize pbT s L f = t at t1 t2
      obtain ⟨b1, b2⟩ := h.sum (f := f) (n := t - f) (by omega)
      obtain ⟨b3, -⟩ := h.sum (f := f) (n := L.length - f) (by omega)
      have sp := sN_split (fun i => A (f + i)) (t - f) (L.length - t)
      rw [show t - f + (L.length - t) = L.length - f by omega] at sp
      have sp2 : sN (fun i => A (f + (t - f + i))) (L.length - t) = sN (fun i => A (t + i)) (L.length - t) := sN_cong (fun i _ => by rw [show f + (t - f + i) = t + i by omega])
      try dsimp only at sp
      rw [sp2] at sp
      rw [if_neg (nI_nlt (by omega) (by omega)), imin_nat (by omega) (by omega), Nat.min_eq_right (by omega), nI_sub (by omega), show sN (fun i => A (f + i)) (L.length - f) - sN (fun i => A (f + i)) (t - f) = sN (fun i => A (t + i)) (L.length - t) by omega]
      refine pb_full h k _ t (hs.of (fun o ho => saQ_1 ho)) (by omega) t2 (fun j hj => ?_) i hi
      rw [saQ_13 (g := fun i => A (f + i)) (by have := h.1; omega) (fun i hi => (hs (f + i) (by omega)).2) (fun i hi => (h.2.2 (f + i) (by omega)).2.1) (by omega) (b2 (by omega)) (Nat.le_refl _)]
      by_cases c2 : f ≤ j ∧ j < t
      · rw [if_pos c2, shN_all (by have := h.1; omega) (fun i hi => by have := (h.2.2 (f + i) (by omega)).2.1; omega) (by omega) (b2 (by omega)) (by omega), show f + (j - f) = j by omega]
      · rw [if_neg c2]; exact h13 j (by omega)
    · rw [if_neg c]; exact h13 i (by omega)
def pR (L : List (Nat × Nat)) (A : Nat → Nat) (z1 : xSt) (y : Nat) (q : xSt × Int32 × Nat) (fin : xSt) : Prop :=
  ∃ R : Nat, q.2.1 = nI R ∧ R ≤ 1000000000 ∧ q.2.2 ≤ L.length ∧ (∀ o, 9 ≤ o → o ≠ 13 → q.1.1 o = z1.1 o) ∧ (∀ i, i < L.length → (q.2.2 ≤ i ↔ y ≤ (L.getD i (0, 0)).1)) ∧ (∀ i, i < L.length → isN (q.1.1 13 i) (A i)) ∧ (∀ i, q.2.2 ≤ i → i < L.length → q.1.1 13 i = 0) ∧
  ((∃ k s, fin = pbQ L k s q.2.2 (nI R) ∧ L.length - q.2.2 ≤ k ∧ ltS L A s ∧ ∀ i, i < L.length → s.1 13 i = q.1.1 13 i) ∨ (R = 0 ∧ ∀ i, i < L.length → fin.1 13 i = q.1.1 13 i))
theorem pR_s {L : List (Nat × Nat)} {A : Nat → Nat} {z1 fin : xSt} {y : Nat} {q : xSt × Int32 × Nat} (h : ltO L A) (h11 : ∀ i, i < L.length → z1.1 11 i = nI (L.getD i (0, 0)).1) (h12 : ∀ i, i < L.length → z1.1 12 i = nI (A i)) (hy : y < 25) (hR : pR L A z1 y q fin) : pR L A z1 (y + 1) (psZ q.1 q.2.2 (seg (q.1.1 11) (nI y) (L.length - q.2.2) q.2.2) (imin q.2.1 (bx_sum (fun i => q.1.1 12 (q.2.2 + i)) (seg (q.1.1 11) (nI y) (L.length - q.2.2) q.2.2 - q.2.2))), q.2.1 - imin q.2.1 (bx_sum (fun i => q.1.1 12 (q.2.2 + i)) (seg (q.1.1 11) (nI y) (L.length - q.2.2) q.2.2 - q.2.2)), seg (q.1.1 11) (nI y) (L.length - q.2.2) q.2.2) fin := by
  obtain ⟨R, e1, hRb, hf, ho, hiff, hcap, hz, hal⟩ := hR
  obtain ⟨s0, r0, f⟩ := q
  dsimp only at e1 hf ho hiff hcap hz hal ⊢
  have r11 : ∀ i, i < L.length → s0.1 11 i = nI (L.getD i (0, 0)).1 := fun i hi => by rw [ho 11 (by omega) (by omega)]; exact h11 i hi
  have r12 : ∀ i, i < L.length → s0.1 12 i = nI (A i) := fun i hi => by rw [ho 12 (by omega) (by omega)]; exact h12 i hi
  by_cases c : f < L.length ∧ (L.getD f (0, 0)).1 = y
  · obtain ⟨c1, c2⟩ := c
    have ef : s0.1 11 f = nI y := by rw [r11 f c1, c2]
    have t1 : f < seg (s0.1 11) (nI y) (L.length - f) f := seg_gt (by omega) ef
    have t2 : seg (s0.1 11) (nI y) (L.length - f) f ≤ L.length := by have := seg_le (s0.1 11) (nI y) (L.length - f) f; omega
    obtain ⟨g1, g2⟩ := seg_in (r := s0.1 11) (y := nI y) (k := L.length - f) (i := f)
    have eT : ∀ s, ltS L A s → pbT s L f = seg (s0.1 11) (nI y) (L.length - f) f := fun s hs => by
      unfold pbT
      rw [(hs f c1).1, c2]
      exact seg_cong (fun j a1 a2 => by rw [(hs j (by omega)).1, r11 j (by omega)])
    generalize seg (s0.1 11) (nI y) (L.length - f) f = t at *
    obtain ⟨b1, b2⟩ := h.sum (f := f) (n := t - f) (by omega)
    have hb : bx_sum (fun i => s0.1 12 (f + i)) (t - f) = nI (sN (fun i => A (f + i)) (t - f)) := bx_sN (fun i hi => r12 (f + i) (by omega))
    rw [e1, hb, imin_nat (by omega) (by omega), nI_sub (Nat.min_le_left _ _)]
    have hn : t - f ≤ 192 := by have := h.1; omega
    have hA5 : ∀ i, i < t - f → A (f + i) ≤ 5000000 := fun i hi => (h.2.2 (f + i) (by omega)).2.1
    have p13 := psZ_13 (z := s0) (a := min R (sN (fun i => A (f + i)) (t - f))) (g := fun i => A (f + i)) hn (fun i hi => r12 (f + i) (by omega)) hA5 (by omega) (b2 (by omega)) (Nat.min_le_right _ _)
    refine ⟨R - min R (sN (fun i => A (f + i)) (t - f)), rfl, by omega, t2, fun o a1 a2 => by rw [psZ_hi a1 a2]; exact ho o a1 a2, fun i hi => ?_, fun i hi => ?_, fun i hi hi2 => ?_, ?_⟩
    · show t ≤ i ↔ y + 1 ≤ (L.getD i (0, 0)).1
      constructor
      · intro a
        have q1 := g2 (by omega)
        rw [r11 t (by omega)] at q1
        have q2 : (L.getD t (0, 0)).1 ≠ y := fun e => q1 (by rw [e])
        have q3 := (hiff t (by omega)).mp (by omega)
        have q4 := h.yr a hi
        omega
      · intro a
        rcases Nat.lt_or_ge i t with q | q
        · exfalso
          by_cases q2 : f ≤ i
          · have q3 := g1 i q2 q
            rw [r11 i hi] at q3
            have hy24 := (h.2.2 i hi).2.2
            have := nI_inj (by omega) (by omega) q3
            omega
          · exact q2 ((hiff i hi).mpr (by omega))
        · exact q
    · rw [p13]
      by_cases c3 : f ≤ i ∧ i < t
      · rw [if_pos c3]
        have := (shN_cap (g := fun i => A (f + i)) (a := min R (sN (fun i => A (f + i)) (t - f))) hn (fun i hi => by have := hA5 i hi; omega) (by omega) (b2 (by omega)) (Nat.min_le_right _ _) (i := i - f) (by omega)).2
        try dsimp only at this
        rw [show f + (i - f) = i by omega] at this
        exact ⟨_, this, rfl⟩
      · rw [if_neg c3]; exact hcap i hi
    · have hi : t ≤ i := hi
      rw [p13, if_neg (by omega)]; exact hz i (by omega) hi2
    · rcases hal with ⟨k, s, ef, hk, hs, h13⟩ | ⟨hR0, h13⟩
      · obtain ⟨k, rfl⟩ : ∃ k2, k = k2 + 1 := ⟨k - 1, by omega⟩
        obtain ⟨-, -, eS⟩ := pb_seg h hs c1
        rw [eT s hs] at eS
        have s13 := saQ_13 (z := s) (L := L) (f := f) (t := t) (a := min R (sN (fun i => A (f + i)) (t - f))) (g := fun i => A (f + i)) hn (fun i hi => (hs (f + i) (by omega)).2) hA5 (by omega) (b2 (by omega)) (Nat.min_le_right _ _)
        have s13p : ∀ i, i < L.length → (saQ s L f t (nI (min R (sN (fun i => A (f + i)) (t - f))))).1 13 i = (psZ s0 f t (nI (min R (sN (fun i => A (f + i)) (t - f))))).1 13 i := fun i hi => by rw [s13, p13, h13 i hi]
        rw [pbQ_s rfl, if_pos c1, eS, eT s hs, imin_nat (by omega) (by omega)] at ef
        by_cases c3 : R < sN (fun i => A (f + i)) (t - f)
        · right
          rw [if_pos (nI_lt c3 (by omega))] at ef
          rw [ef]
          exact ⟨by omega, s13p⟩
        · left
          rw [if_neg (nI_nlt (by omega) (by omega)), nI_sub (by omega)] at ef
          refine ⟨k, _, by rw [ef, show R - min R (sN (fun i => A (f + i)) (t - f)) = R - sN (fun i => A (f + i)) (t - f) by omega], (show L.length - t ≤ k by omega), hs.of (fun o ho => saQ_1 ho), s13p⟩
      · right
        refine ⟨by omega, fun i hi => ?_⟩
        rw [h13 i hi, p13]
        by_cases c3 : f ≤ i ∧ i < t
        · rw [if_pos c3, show min R (sN (fun i => A (f + i)) (t - f)) = 0 by omega, shN_0 hn (fun i hi => by have := hA5 i hi; omega) (b2 (by omega)) (by omega), hz i c3.1 hi]
          rfl
        · rw [if_neg c3]
  · have t0 : seg (s0.1 11) (nI y) (L.length - f) f = f := seg_no (fun hk he => by
      rw [r11 f (by omega)] at he
      have := (h.2.2 f (by omega)).2.2
      exact c ⟨by omega, nI_inj (by omega) (by omega) he⟩)
    rw [t0, Nat.sub_self, e1]
    have e0 : bx_sum (fun i => s0.1 12 (f + i)) 0 = nI 0 := rfl
    rw [e0, imin_nat (by omega) (by omega), Nat.min_eq_right (Nat.zero_le R), nI_sub (Nat.zero_le R), Nat.sub_zero]
    refine ⟨R, rfl, hRb, hf, fun o a1 a2 => by rw [psZ_hi a1 a2]; exact ho o a1 a2, fun i hi => ?_, fun i hi => by rw [psZ_e]; exact hcap i hi, fun i a1 a2 => by rw [psZ_e]; exact hz i a1 a2, ?_⟩
    · have q := hiff i hi
      show f ≤ i ↔ y + 1 ≤ (L.getD i (0, 0)).1
      constructor
      · intro a
        have q1 := q.mp a
        have q2 := h.yr a hi
        have q3 := (hiff f (by omega)).mp (Nat.le_refl f)
        have q4 : (L.getD f (0, 0)).1 ≠ y := fun e => c ⟨by omega, e⟩
        omega
      · intro a; exact q.mpr (by omega)
    · rcases hal with ⟨k, s, ef, hk, hs, h13⟩ | ⟨hR0, h13⟩
      · exact Or.inl ⟨k, s, ef, hk, hs, fun i hi => by rw [psZ_e]; exact h13 i hi⟩
      · exact Or.inr ⟨hR0, fun i hi => by rw [psZ_e]; exact h13 i hi⟩
theorem pR_all {L : List (Nat × Nat)} {A : Nat → Nat} {z1 fin : xSt} {bud : Int32} (h : ltO L A) (h11 : ∀ i, i < L.length → z1.1 11 i = nI (L.getD i (0, 0)).1) (h12 : ∀ i, i < L.length → z1.1 12 i = nI (A i)) (h0 : pR L A z1 0 (z1, bud, 0) fin) : ∀ y, y ≤ 25 → pR L A z1 y (pbY z1 bud L.length y) fin
  | 0, _ => h0
  | y + 1, hy => pR_s h h11 h12 (by omega) (pR_all h h11 h12 h0 y (by omega))
theorem pb_agree {L : List (Nat × Nat)} {A : Nat → Nat} {z1 y0 : xSt} {R : Nat} (h : ltO L A) (h11 : ∀ i, i < L.length → z1.1 11 i = nI (L.getD i (0, 0)).1) (h12 : ∀ i, i < L.length → z1.1 12 i = nI (A i)) (h13 : ∀ i, i < L.length → z1.1 13 i = 0) (hs : ltS L A y0) (hs13 : ∀ i, i < L.length → y0.1 13 i = 0) (hR : R ≤ 1000000000) : ∀ i, i < L.length → (pbY z1 (nI R) L.length 25).1.1 13 i = (pbQ L L.length y0 0 (nI R)).1 13 i ∧ isN ((pbY z1 (nI R) L.length 25).1.1 13 i) (A i) := by
  have h0 : pR L A z1 0 (z1, nI R, 0) (pbQ L L.length y0 0 (nI R)) := ⟨R, rfl, hR, Nat.zero_le _, fun _ _ _ => rfl, fun i hi => ⟨fun _ => Nat.zero_le _, fun _ => Nat.zero_le _⟩, fun i hi => ⟨0, Nat.zero_le _, h13 i hi⟩, fun i _ hi => h13 i hi, Or.inl ⟨L.length, y0, rfl, Nat.le_refl _, hs, fun i hi => by rw [hs13 i hi]; exact (h13 i hi).symm⟩⟩
  obtain ⟨R2, -, -, hf, -, hiff, hcap, -, hal⟩ := pR_all h h11 h12 h0 25 (Nat.le_refl 25)
  have hfn : (pbY z1 (nI R) L.length 25).2.2 = L.length := by
    rcases Nat.lt_or_ge (pbY z1 (nI R) L.length 25).2.2 L.length with q | q
    · have := (hiff _ q).mp (Nat.le_refl _)
      have := (h.2.2 _ q).2.2
      omega
    · omega
  intro i hi
  refine ⟨?_, hcap i hi⟩
  rcases hal with ⟨k, s, ef, -, -, h13⟩ | ⟨-, h13⟩
  · rw [ef, hfn, pbQ_e (Nat.lt_irrefl _)]; exact (h13 i hi).symm
  · exact (h13 i hi).symm
theorem pb_ok {L : List (Nat × Nat)} {A : Nat → Nat} (h : ltO L A) : ∀ (k : Nat) (s : xSt) (f R : Nat), ltS L A s → R ≤ 1000000000 → pbOk L k s f (nI R)
  | 0, _, _, _, _, _ => trivial
  | k + 1, s, f, R, hs, hR => by
    intro c
    obtain ⟨t1, t2, t3⟩ := pb_seg h hs c
    rw [t3]
    obtain ⟨b1, b2⟩ := h.sum (f := f) (n := pbT s L f - f) (by omega)
    rw [imin_nat (by omega) (by omega)]
    refine ⟨shA_of (by have := h.1; omega) (fun j a1 a2 => ⟨A j, by have := (h.2.2 j (by omega)).2.1; omega, (hs j (by omega)).2⟩) (by omega), fun hn => ?_⟩
    have : ¬ R < sN (fun i => A (f + i)) (pbT s L f - f) := fun q => hn (nI_lt q (by omega))
    rw [nI_sub (by omega)]
    exact pb_ok h k _ _ _ (hs.of (fun o ho => saQ_1 ho)) (by omega)
theorem pb_zero {L : List (Nat × Nat)} {A : Nat → Nat} {s : xSt} (h : ltO L A) (hs : ltS L A s) (h13 : ∀ i, i < L.length → s.1 13 i = 0) : ∀ i, i < L.length → (pbQ L L.length s 0 (nI 0)).1 13 i = 0 := fun i hi => by
  obtain ⟨k, hk⟩ : ∃ k, L.length = k + 1 := ⟨L.length - 1, by omega⟩
  rw [pbQ_s hk, if_pos (by omega)]
  obtain ⟨t1, t2, t3⟩ := pb_seg h hs (f := 0) (by omega)
  rw [t3]
  generalize pbT s L 0 = t at t1 t2
  obtain ⟨b1, b2⟩ := h.sum (f := 0) (n := t - 0) (by omega)
  have b3 := b2 (by omega)
  rw [if_pos (nI_lt b3 (by omega)), imin_nat (by omega) (by omega), Nat.min_eq_left (Nat.zero_le _)]
  rw [saQ_13 (g := fun i => A (0 + i)) (by have := h.1; omega) (fun i hi => (hs (0 + i) (by omega)).2) (fun i hi => (h.2.2 (0 + i) (by omega)).2.1) (by omega) b3 (Nat.zero_le _)]
  by_cases c : 0 ≤ i ∧ i < t
  · rw [if_pos c, shN_0 (by have := h.1; omega) (fun i hi => by have := (h.2.2 (0 + i) (by omega)).2.1; omega) b3 (by omega)]
    rfl
  · rw [if_neg c]; exact h13 i hi
