/-! BOTH ANSWER ALIKE: the buffer, and undo -/
theorem byt_cut (v : Int32) (c : UInt32) (c' : Int32) (h : Nat) (hc : c.toBitVec = BitVec.ofNat 32 h) (hc' : c'.toBitVec = BitVec.ofNat 32 h) (hh : h = 0 ∨ h = 8 ∨ h = 16 ∨ h = 24) : ((v.toUInt32 >>> c).toInt32).toInt8 = ((v >>> c') &&& 255).toInt8 := by
  apply Int8.toBitVec_inj.mp
  apply BitVec.eq_of_getLsbD_eq
  intro i hi
  have f : (255#8).getLsbD i = true := by rcases (show i = 0 ∨ i = 1 ∨ i = 2 ∨ i = 3 ∨ i = 4 ∨ i = 5 ∨ i = 6 ∨ i = 7 by omega) with rfl | rfl | rfl | rfl | rfl | rfl | rfl | rfl <;> rfl
  rcases hh with rfl | rfl | rfl | rfl <;> simp [hc, hc']
  · intro _; exact f
  · rw [f, Bool.and_true, BitVec.getLsbD_signExtend, BitVec.getLsbD_signExtend, if_pos (by omega), BitVec.getLsbD_ushiftRight, if_pos (by omega), BitVec.getLsbD_sshiftRight, if_pos (by omega), decide_eq_false (by omega : ¬ 32 ≤ i)]; rfl
  · rw [f, Bool.and_true, BitVec.getLsbD_signExtend, BitVec.getLsbD_signExtend, if_pos (by omega), BitVec.getLsbD_ushiftRight, if_pos (by omega), BitVec.getLsbD_sshiftRight, if_pos (by omega), decide_eq_false (by omega : ¬ 32 ≤ i)]; rfl
  · rw [f, Bool.and_true, BitVec.getLsbD_signExtend, BitVec.getLsbD_signExtend, if_pos (by omega), BitVec.getLsbD_ushiftRight, if_pos (by omega), BitVec.getLsbD_sshiftRight, if_pos (by omega), decide_eq_false (by omega : ¬ 32 ≤ i)]; rfl
theorem i8_all : ∀ a : Fin 256, (nI a.1).toInt8.toInt32 = (if a.1 < 128 then nI a.1 else nI a.1 - nI 256) := by decide +kernel
theorem and255 (x : Int32) : ∃ a : Nat, a < 256 ∧ x &&& 255 = nI a := by
  refine ⟨(x &&& 255).toBitVec.toNat, ?_, ?_⟩
  · show (x.toBitVec &&& 255#32).toNat < 256
    rw [BitVec.toNat_and]
    exact Nat.lt_of_le_of_lt Nat.and_le_right (by decide)
  · apply Int32.toBitVec_inj.mp
    show _ = BitVec.ofNat 32 _
    rw [BitVec.ofNat_toNat, BitVec.setWidth_eq]
theorem byR_of (v : Int32) (h : Nat) (hh : h = 0 ∨ h = 8 ∨ h = 16 ∨ h = 24) : byR (byt v h) ((v >>> (nI h &&& 31)) &&& nI 255) := by
  obtain ⟨a, ha, e⟩ := and255 (v >>> (nI h &&& 31))
  refine ⟨a, ha, e, ?_⟩
  unfold byt
  rw [byt_cut v _ (nI h &&& 31) h (by rcases hh with rfl | rfl | rfl | rfl <;> rfl) (by rcases hh with rfl | rfl | rfl | rfl <;> rfl) hh, e]
  exact i8_all ⟨a, ha⟩
theorem apd_14 {z : xSt} {v : Int32} {q o : Nat} (h : o ≠ 14) (h2 : o ≠ 15) : (apd z v q).1 o = z.1 o := by
  unfold apd ap1
  rw [u1_ne _ h, u1_ne _ h2, u1_ne _ h, u1_ne _ h2, u1_ne _ h, u1_ne _ h2, u1_ne _ h, u1_ne _ h2]
theorem apd_sz {z : xSt} {v : Int32} {q : Nat} : (apd z v q).1 14 1 = nI (q + 4) := by unfold apd; rw [ap1, u1_self]
theorem apd_by {z : xSt} {v : Int32} {q j : Nat} : (apd z v q).1 15 j = if j = q + 3 then byt v 0 else if j = q + 2 then byt v 8 else if j = q + 1 then byt v 16 else if j = q then byt v 24 else z.1 15 j := by
  unfold apd ap1
  rw [u1_ne _ (by omega), u1_rd2, u1_ne _ (by omega), u1_rd2, u1_ne _ (by omega), u1_rd2, u1_ne _ (by omega), u1_rd2]
theorem apd_in {z : xSt} {v : Int32} {q j k : Nat} (h : j = q + k) (hk : k < 4) : (apd z v q).1 15 j = byt v (24 - 8 * k) := by
  rw [apd_by, h]
  rcases (show k = 0 ∨ k = 1 ∨ k = 2 ∨ k = 3 by omega) with rfl | rfl | rfl | rfl
  · rw [if_neg (by omega), if_neg (by omega), if_neg (by omega), if_pos (by omega)]
  · rw [if_neg (by omega), if_neg (by omega), if_pos (by omega)]
  · rw [if_neg (by omega), if_pos (by omega)]
  · rw [if_pos (by omega)]
theorem apd_ou {z : xSt} {v : Int32} {q j : Nat} (h : j < q ∨ q + 4 ≤ j) : (apd z v q).1 15 j = z.1 15 j := by
  rw [apd_by, if_neg (by omega), if_neg (by omega), if_neg (by omega), if_neg (by omega)]
theorem fd_by {z : xSt} {a b c d e : Int32} {q k : Nat} (hk : k < 20) : (apd (apd (apd (apd (apd z a q) b (q + 4)) c (q + 8)) d (q + 12)) e (q + 16)).1 15 (q + k) = byt (fdV a b c d e k) (24 - 8 * (k % 4)) := by
  unfold fdV
  by_cases h1 : k < 4
  · rw [if_pos h1, apd_ou (by omega), apd_ou (by omega), apd_ou (by omega), apd_ou (by omega), apd_in (k := k) (by omega) h1, show k % 4 = k by omega]
  · by_cases h2 : k < 8
    · rw [if_neg h1, if_pos h2, apd_ou (by omega), apd_ou (by omega), apd_ou (by omega), apd_in (k := k - 4) (by omega) (by omega), show k % 4 = k - 4 by omega]
    · by_cases h3 : k < 12
      · rw [if_neg h1, if_neg h2, if_pos h3, apd_ou (by omega), apd_ou (by omega), apd_in (k := k - 8) (by omega) (by omega), show k % 4 = k - 8 by omega]
      · by_cases h4 : k < 16
        · rw [if_neg h1, if_neg h2, if_neg h3, if_pos h4, apd_ou (by omega), apd_in (k := k - 12) (by omega) (by omega), show k % 4 = k - 12 by omega]
        · rw [if_neg h1, if_neg h2, if_neg h3, if_neg h4, apd_in (k := k - 16) (by omega) (by omega), show k % 4 = k - 16 by omega]
set_option maxHeartbeats 1000000 in
theorem s_feed (l : Launch) (a b c_ d e_ : Int32) : lP l jJ yX9_feed cX9_feed 6 (some FieldType.int) rm_X9_feed yX10_feed cX10_feed 8 (some FieldType.int) rm_X10_feed [.int a, .int b, .int c_, .int d, .int e_] := by
  intro G w v K zc zm hw hv hJ
  obtain ⟨⟨q, a1, a2, a3, a4⟩, b1, hc, hB⟩ := id hJ
  refine ⟨_, _, fun sz => c_X9_feed l G w K hw zc sz a b c_ d e_ q a1 a3, fun sz => c_X10_feed l G v hv zm sz a b c_ d e_ q a2 a3, ?_⟩
  intro r1 r2 z1 z2 e1 e2
  by_cases hr : q + 20 ≤ 900
  · rw [if_pos hr] at e1 e2
    obtain ⟨x1, y1⟩ := Prod.mk.inj e1
    obtain ⟨x2, y2⟩ := Prod.mk.inj e2
    refine ⟨x1.trans x2.symm, ?_⟩
    have k0 : ∀ o, o ≠ 14 → o ≠ 15 → z1.1 o = zc.1 o := fun o h1 h2 => by rw [y1, apd_14 h1 h2, apd_14 h1 h2, apd_14 h1 h2, apd_14 h1 h2, apd_14 h1 h2]
    have r0 : ∀ o, o ≠ 0 → o ≠ 1 → z2.1 o = zm.1 o := fun o h1 h2 => by rw [y2, u1_ne _ h1, ur_ne _ _ h2, u1_ne _ h1]
    have r00 : ∀ k, k ≠ 0 → k ≠ 2 → z2.1 0 k = zm.1 0 k := fun k h1 h2 => by rw [y2, u1_sne _ _ _ h2, ur_ne _ _ (by omega), u1_sne _ _ _ h1]
    obtain ⟨mc, dc, Y, u, f, ⟨d1, d2, d3⟩, ⟨f1, f2, f3⟩, g1⟩ := hB
    have hm : mc ≤ 8 := f2.1.2.1
    have hd : dc ≤ 4 := f2.1.2.2.2.1
    refine ⟨⟨q + 20, by rw [y1, apd_sz], by rw [y2, u1_self], hr, fun j hj => ?_⟩, by rw [k0 0 (by omega) (by omega), r00 28 (by omega) (by omega)]; exact b1, ⟨fun m h => by rw [k0 _ (by unfold oM; omega) (by unfold oM; omega)]; exact hc.1 m h, fun m h => by rw [k0 _ (by unfold oM; omega) (by unfold oM; omega)]; exact hc.2 m h⟩, mc, dc, Y, u, f, ⟨by rw [k0 2 (by omega) (by omega)]; exact d1, by rw [r00 8 (by omega) (by omega)]; exact d2, by rw [k0 2 (by omega) (by omega)]; exact d3⟩, ⟨by rw [r0 2 (by omega) (by omega), r0 4 (by omega) (by omega)]; exact f1.fr (fun o h1 h2 => k0 o (by omega) (by omega)) hm hd, by rw [r0 2 (by omega) (by omega), r0 4 (by omega) (by omega)]; exact f2, f3⟩, fun j hj => ?_⟩
    · rw [y1, y2, u1_ne _ (by omega), ur_at]
      unfold bkR
      by_cases hq : j < q
      · rw [if_neg (by omega), apd_ou (by omega), apd_ou (by omega), apd_ou (by omega), apd_ou (by omega), apd_ou (by omega)]
        exact a4 j hq
      · rw [if_pos (by omega)]
        obtain ⟨k, rfl⟩ : ∃ k, j = q + k := ⟨j - q, by omega⟩
        rw [show q + k - q = k by omega]
        rw [fd_by (by omega)]
        exact byR_of _ _ (by omega)
    · obtain ⟨Yj, g2, g3, g4⟩ := g1 j hj
      exact ⟨Yj, g2, by rw [r0 2 (by omega) (by omega), r0 6 (by omega) (by omega)]; exact g3.fr (fun o h1 h2 => k0 o (by omega) (by omega)) hm hd, by rw [r0 2 (by omega) (by omega), r0 6 (by omega) (by omega)]; exact g4⟩
  · rw [if_neg hr] at e1 e2
    obtain ⟨x1, y1⟩ := Prod.mk.inj e1
    obtain ⟨x2, y2⟩ := Prod.mk.inj e2
    exact ⟨x1.trans x2.symm, by rw [y1, y2]; exact hJ.u0 _⟩
set_option maxHeartbeats 1000000 in
theorem s_undo (l : Launch) : lP l jJ yX9_undo cX9_undo 1 (some FieldType.int) rm_X9_undo yX10_undo cX10_undo 2 (some FieldType.int) rm_X10_undo [] := by
  intro G w v K zc zm hw hv hJ
  obtain ⟨hQ, h28, hcn, mc, dc, Y, u, f, hH⟩ := id hJ
  obtain ⟨⟨d1, d2, d3, d4, d5, d6, d7⟩, ⟨hE, hI, hY⟩, g1⟩ := id hH
  have h8 : mc ≤ 8 := hI.1.2.1
  have h4 : dc ≤ 4 := hI.1.2.2.2.1
  have hu10 : u ≤ 10 := Nat.le_trans d5 d7
  have ix : ¬ u = 0 → rix f u = (f + (u - 1)) % 10 := fun h => by unfold rix; congr 1; omega
  have last : ¬ u = 0 → ∃ Yj, Yj ≤ 24 ∧ eqB zc (2 + rix f u) mc dc (zm.1 2) (fun k => zm.1 6 (497 * (u - 1) + k)) ∧ rI mc dc Yj (zm.1 2) (fun k => zm.1 6 (497 * (u - 1) + k)) := fun h => by rw [ix h]; exact g1 (u - 1) (by omega)
  refine ⟨_, _, fun sz => c_X9_undo l G w K hw zc sz f u mc dc d3 d1 d4 hu10 (fun h => ?_) (fun h => ?_) h8 (fun h => ?_) h4 (fun h m hm => ?_), fun sz => c_X10_undo l G v hv zm sz u d2 hu10, ?_⟩
  · rw [ix h]
    by_cases e : K < 10
    · rw [d6 e]; omega
    · omega
  · obtain ⟨Yj, -, p1, p2⟩ := last h
    rw [p1.1.1]; exact p2.1.1
  · obtain ⟨Yj, -, p1, p2⟩ := last h
    rw [p1.1.2.1]; exact p2.1.2.2.1
  · obtain ⟨Yj, -, p1, p2⟩ := last h
    rw [(p1.2.2.1 m hm).2.1]
    obtain ⟨a, ha, e⟩ := (p2.2.2.1 m (by omega)).2.1
    rw [e]
    rcases (show a = 0 ∨ a = 1 by omega) with rfl | rfl
    · exact Or.inl rfl
    · exact Or.inr rfl
  intro r1 r2 z1 z2 e1 e2
  by_cases hu : u = 0
  · rw [if_pos hu] at e1 e2
    obtain ⟨x1, y1⟩ := Prod.mk.inj e1
    obtain ⟨x2, y2⟩ := Prod.mk.inj e2
    exact ⟨x1.trans x2.symm, by rw [y1, y2]; exact hJ.u0 _⟩
  · rw [if_neg hu] at e1 e2
    obtain ⟨x1, y1⟩ := Prod.mk.inj e1
    obtain ⟨x2, y2⟩ := Prod.mk.inj e2
    refine ⟨x1.trans x2.symm, ?_⟩
    obtain ⟨Yj, p0, p1, p2⟩ := last hu
    have k0 : ∀ o, o ≠ 2 → (o < 19 ∨ 67 ≤ o) → z1.1 o = zc.1 o := fun o h1 h2 => by rw [y1, u1_ne _ h1, cpA_out (fun h => by have := h.1; have := h.2.1; omega)]
    have k2 : z1.1 2 1 = zc.1 2 1 := by rw [y1, u1_sne _ _ _ (by omega), cpA_out (fun h => by have := h.1; omega)]
    have r0 : ∀ o, o ≠ 0 → o ≠ 4 → z2.1 o = zm.1 o := fun o h1 h2 => by rw [y2]; unfold unQ; rw [ur_ne _ _ h2, u1_ne _ h1, u1_ne _ h1]
    have r00 : ∀ k, k ≠ 0 → k ≠ 8 → z2.1 0 k = zm.1 0 k := fun k h1 h2 => by rw [y2]; unfold unQ; rw [ur_ne _ _ (by omega), u1_sne _ _ _ h2, u1_sne _ _ _ h1]
    have r4 : z2.1 4 = fun k => zm.1 6 (497 * (u - 1) + k) := by rw [y2]; unfold unQ; rw [ur_at]
    have eC : eqB z1 0 mc dc (zm.1 2) (fun k => zm.1 6 (497 * (u - 1) + k)) := (p1.cp (b := 0) h8 h4).fr (fun o h1 h2 => by rw [y1, u1_ne _ (by omega)]) h8 h4
    obtain ⟨q, a1, a2, a3, a4⟩ := hQ
    refine ⟨⟨q, by rw [k0 14 (by omega) (by omega)]; exact a1, by rw [r00 2 (by omega) (by omega)]; exact a2, a3, fun j hj => by rw [k0 15 (by omega) (by omega), r0 1 (by omega) (by omega)]; exact a4 j hj⟩, by rw [k0 0 (by omega) (by omega), r00 28 (by omega) (by omega)]; exact h28, ⟨fun m hm => ?_, fun m hm => by rw [k0 _ (by unfold oM; omega) (by unfold oM; omega)]; exact hcn.2 m hm⟩, mc, dc, Yj, u - 1, f, ⟨by rw [y1, u1_self], by rw [y2]; unfold unQ; rw [ur_ne _ _ (by omega), u1_self], by rw [k2]; exact d3, d4, by omega, d6, d7⟩, ⟨by rw [r0 2 (by omega) (by omega), r4]; exact eC, by rw [r0 2 (by omega) (by omega), r4]; exact p2, p0⟩, fun j hj => ?_⟩
    · by_cases e : m < mc
      · rw [(eC.2.2.1 m e).2.1]
        obtain ⟨a, ha, e⟩ := (p2.2.2.1 m hm).2.1
        show zm.1 6 (497 * (u - 1) + (13 + m)) = 0 ∨ zm.1 6 (497 * (u - 1) + (13 + m)) = 1
        rw [show zm.1 6 (497 * (u - 1) + (13 + m)) = nI a from e]
        rcases (show a = 0 ∨ a = 1 by omega) with rfl | rfl
        · exact Or.inl rfl
        · exact Or.inr rfl
      · rw [y1, u1_ne _ (by unfold oM; omega), cpA_out (fun h => by have h3 := h.2.2; unfold oM at h3; omega)]
        exact hcn.1 m hm
    · obtain ⟨Yi, g2, g3, g4⟩ := g1 j (by omega)
      exact ⟨Yi, g2, by rw [r0 2 (by omega) (by omega), r0 6 (by omega) (by omega)]; exact g3.fr (fun o h1 h2 => k0 o (by omega) (by omega)) h8 h4, by rw [r0 2 (by omega) (by omega), r0 6 (by omega) (by omega)]; exact g4⟩
