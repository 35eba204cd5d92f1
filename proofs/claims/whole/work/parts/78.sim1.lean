/-! BOTH ANSWER ALIKE: the questions about what stands in the books -/
theorem nI_0lt {k : Nat} (h0 : 0 < k) (h : k < 2 ^ 31) : (0 : Int32) < nI k := nI_lt (a := 0) h0 h
theorem ck_0 {z : xSt} {P : Prop} [Decidable P] (h : P) : (ck z P).1 0 0 = 0 := by unfold ck; rw [u1_self, if_pos h]
theorem ck_1 {z : xSt} {P : Prop} [Decidable P] (h : ¬ P) : (ck z P).1 0 0 = 1 := by unfold ck; rw [u1_self, if_neg h]
theorem bx_cut {f : Nat → Int32} {Y : Nat} : ∀ {n : Nat}, Y ≤ n → (∀ i, Y ≤ i → i < n → f i = 0) → bx_sum f n = bx_sum f Y
  | 0, h, _ => by rw [show Y = 0 by omega]
  | n + 1, h, h0 => by
    by_cases e : Y = n + 1
    · rw [e]
    · show bx_sum f n + f n = _
      rw [h0 n (by omega) (by omega), Int32.add_zero]
      exact bx_cut (by omega) (fun i h1 h2 => h0 i h1 (by omega))
theorem xls_cut {f : Nat → Int64} {Y : Nat} : ∀ {n : Nat}, Y ≤ n → (∀ i, Y ≤ i → i < n → f i = 0) → xls f n = xls f Y
  | 0, h, _ => by rw [show Y = 0 by omega]
  | n + 1, h, h0 => by
    by_cases e : Y = n + 1
    · rw [e]
    · show xls f n + f n = _
      rw [h0 n (by omega) (by omega), Int64.add_zero]
      exact xls_cut (by omega) (fun i h1 h2 => h0 i h1 (by omega))
theorem xls_cong {f g : Nat → Int64} : ∀ {n : Nat}, (∀ i, i < n → f i = g i) → xls f n = xls g n
  | 0, _ => rfl
  | n + 1, h => by
    show xls f n + f n = xls g n + g n
    rw [xls_cong (fun i hi => h i (by omega)), h n (by omega)]
theorem xff_cong {p q : Nat → Bool} : ∀ {n i : Nat}, (∀ j, i ≤ j → j < i + n → p j = q j) → xff p n i = xff q n i
  | 0, _, _ => rfl
  | n + 1, i, h => by
    show (if p i = true then nI i else xff p n (i + 1)) = (if q i = true then nI i else xff q n (i + 1))
    rw [h i (by omega) (by omega), xff_cong (fun j h1 h2 => h j (by omega) (by omega))]
theorem xff_no {p : Nat → Bool} : ∀ {n i : Nat}, (∀ j, i ≤ j → j < i + n → p j = false) → xff p n i = -1
  | 0, _, _ => rfl
  | n + 1, i, h => by
    show (if p i = true then nI i else xff p n (i + 1)) = _
    rw [h i (by omega) (by omega), if_neg (by decide)]
    exact xff_no (fun j h1 h2 => h j (by omega) (by omega))
theorem xff_cut {p : Nat → Bool} : ∀ {k n i : Nat}, (∀ j, i + n ≤ j → j < i + n + k → p j = false) → xff p (n + k) i = xff p n i
  | k, 0, i, h => by
    rw [Nat.zero_add]
    exact xff_no (fun j h1 h2 => h j (by omega) (by omega))
  | k, n + 1, i, h => by
    rw [show n + 1 + k = (n + k) + 1 by omega]
    show (if p i = true then nI i else xff p (n + k) (i + 1)) = (if p i = true then nI i else xff p n (i + 1))
    rw [xff_cut (fun j h1 h2 => h j (by omega) (by omega))]
theorem xan_cong {p q : Nat → Bool} : ∀ {n i : Nat}, (∀ j, i ≤ j → j < i + n → p j = q j) → xan p n i = xan q n i
  | 0, _, _ => rfl
  | n + 1, i, h => by
    show (if p i = true then (1 : Int32) else xan p n (i + 1)) = (if q i = true then 1 else xan q n (i + 1))
    rw [h i (by omega) (by omega), xan_cong (fun j h1 h2 => h j (by omega) (by omega))]
theorem mxI_cong {f g : Nat → Int32} : ∀ {n : Nat}, (∀ i, i < n → f i = g i) → mxI f n = mxI g n
  | 0, _ => rfl
  | n + 1, h => by
    show (if (mxI f n).1 = (-1) ∨ (mxI f n).2 < f n then (nI n, f n) else mxI f n) = (if (mxI g n).1 = (-1) ∨ (mxI g n).2 < g n then (nI n, g n) else mxI g n)
    rw [mxI_cong (fun i hi => h i (by omega)), h n (by omega)]
theorem ctN_cong {p q : Nat → Bool} : ∀ {n : Nat}, (∀ i, i < n → p i = q i) → ctN p n = ctN q n
  | 0, _ => rfl
  | n + 1, h => by
    show (if p n = true then ctN p n + 1 else ctN p n) = (if q n = true then ctN q n + 1 else ctN q n)
    rw [ctN_cong (fun i hi => h i (by omega)), h n (by omega)]
theorem i32_as (a t i : Int32) : a + (t - i) - 1 = a + t - i - nI 1 := by
  rw [show nI 1 = 1 from rfl, Int32.sub_eq_add_neg t i, ← Int32.add_assoc, ← Int32.sub_eq_add_neg]
/-- the sum of a kind's certificates -/
theorem kd_eq {mc dc Y : Nat} {zc zm : xSt} (hE : eqB zc 0 mc dc (zm.1 2) (zm.1 4)) (hI : rI mc dc Y (zm.1 2) (zm.1 4)) (hY : Y ≤ 24) {m : Nat} (hm : m < mc) (kd : Int32) : bx_sum (fun y => if (zc.1 (oKd 0 m)) y = kd then (zc.1 (oLf 0 m)) y else 0) 25 = bx_sum (fun y => if zm.1 4 (253 + 24 * m + y) = kd then lfQ zm m y else 0) Y := by
  have h8 := hI.1.2.1
  rw [bx_cut (Y := Y) (by omega) (fun i h1 h2 => ?_)]
  · refine bx_cong (fun i hi => ?_)
    obtain ⟨e1, e2⟩ := hE.2.2.2.2.1 m i hm (by omega)
    show (if zc.1 (oKd 0 m) i = kd then zc.1 (oLf 0 m) i else 0) = (if zm.1 4 (253 + 24 * m + i) = kd then zm.1 4 (61 + 24 * m + i) else 0)
    rw [e1, e2]
  · have e0 : zc.1 (oLf 0 m) i = 0 := by
      by_cases e : i = 24
      · rw [e]; exact hE.2.2.2.2.2.1 m hm
      · rw [(hE.2.2.2.2.1 m i hm (by omega)).1]
        exact ((hI.2.2.2.2.1 m i (by omega) (by omega)).2 h1).1
    show (if zc.1 (oKd 0 m) i = kd then zc.1 (oLf 0 m) i else 0) = 0
    rw [e0, ite_self]
theorem rt_eq {a b : Int32} {M : Nat} (hM : M < 2147483648) (h : isN b M) : rte a b = rtQ a b := by
  obtain ⟨k, hk, rfl⟩ := h
  unfold rte rtQ
  by_cases e : k = 0
  · rw [e, if_neg (by decide), if_pos (by decide)]
  · rw [if_pos (nI_0lt (by omega) (by omega)), if_neg (nI_ne0 (by omega) (by omega))]
theorem i32_b2 (a p q x y : Int32) : a - p - q - (x + y) = a - (p + x) - (q + y) := by
  have e : ∀ u v w : Int32, u + v + w = u + w + v := fun u v w => by rw [Int32.add_assoc, Int32.add_comm v w, ← Int32.add_assoc]
  simp only [Int32.sub_eq_add_neg, Int32.neg_add]
  rw [← Int32.add_assoc, ← Int32.add_assoc, ← Int32.add_assoc, e (a + -p) (-q) (-x)]
theorem i32_bal (a r p q s : Int32) : a - r - p - q - s = a - p - r - q - s := by
  rw [Int32.sub_eq_add_neg (a - r) p, Int32.sub_eq_add_neg a r, Int32.add_assoc, Int32.add_comm (-r) (-p), ← Int32.add_assoc, ← Int32.sub_eq_add_neg, ← Int32.sub_eq_add_neg]
theorem nI_sub {a b : Nat} (h : b ≤ a) : nI a - nI b = nI (a - b) := by
  have e : nI a = nI (a - b) + nI b := by rw [nI_add]; congr 1; omega
  rw [e, Int32.add_sub_cancel]
theorem st_iff (x : Int32) : (x = 0 ∨ x = nI 1 ∨ x = nI 2) ↔ (¬ x < 0 ∧ x ≤ nI 2) := by
  constructor
  · rintro (rfl | rfl | rfl) <;> decide
  · rintro ⟨h1, h2⟩
    obtain ⟨k, hk, rfl⟩ := nI_of2 (n := 2) rfl h1 h2
    rcases (show k = 0 ∨ k = 1 ∨ k = 2 by omega) with rfl | rfl | rfl
    · exact Or.inl rfl
    · exact Or.inr (Or.inl rfl)
    · exact Or.inr (Or.inr rfl)
theorem rup_is {e : Int32} {n j : Nat} (hj : j < n) (hn : n ≤ 10) : rup e (nI n - nI j) = (e + nI n - nI j - nI 1) / (nI n - nI j) := by
  unfold rup
  rw [if_pos, i32_as]
  rw [nI_sub (by omega)]
  exact nI_0lt (by omega) (by omega)
theorem ins_is {e : Int32} {n : Nat} : ∀ (j : Nat), j < n → n ≤ 10 → insA e (nI n) j = isQ e (nI n) j
  | 0, _, _ => rfl
  | j + 1, h, hn => by
    show insA e (nI n) j - rup (insA e (nI n) j) (nI n - nI j) = isQ e (nI n) j - (isQ e (nI n) j + nI n - nI j - nI 1) / (nI n - nI j)
    rw [ins_is j (by omega) hn, rup_is (by omega) hn]
theorem bl_is (z : xSt) : ∀ n, blQ z n = z.1 4 495 - z.1 4 496 - bx_sum (fun m => z.1 4 (445 + 3 * m + 1)) n - bx_sum (fun m => z.1 4 (445 + 3 * m + 2)) n
  | 0 => by show z.1 4 495 - z.1 4 496 = z.1 4 495 - z.1 4 496 - 0 - 0; rw [Int32.sub_zero, Int32.sub_zero]
  | n + 1 => by
    show blQ z n - (z.1 4 (445 + 3 * n + 1) + z.1 4 (445 + 3 * n + 2)) = z.1 4 495 - z.1 4 496 - (bx_sum (fun m => z.1 4 (445 + 3 * m + 1)) n + z.1 4 (445 + 3 * n + 1)) - (bx_sum (fun m => z.1 4 (445 + 3 * m + 2)) n + z.1 4 (445 + 3 * n + 2))
    rw [bl_is z n]
    exact i32_b2 _ _ _ _ _
theorem fp_ord {d : Jvm.FP.Core.Datum} (h : d ≠ .nan) : Jvm.FP.Core.order d d = some .eq := by
  cases d with
  | nan => exact absurd rfl h
  | inf s => simp [Jvm.FP.Core.order]
  | fin s c q => simp [Jvm.FP.Core.order]
theorem fp_dn {f : Jvm.FP.Core.Fmt} (h : FpOk f) {d : Jvm.FP.Core.Datum} (hd : fpFit f d) : Jvm.FP.Core.decode f (Jvm.FP.Core.encode f d) ≠ .nan := by
  rcases fp_dec2 h hd with ⟨s, e⟩ | ⟨s, c, q, q', -, e⟩ <;> rw [e] <;> exact fun h => nomatch h
theorem f2d_of {d : Jvm.FP.Core.Datum} (hd : fpFit Jvm.FP.Core.b32 d) {x : UInt32} (hx : x.toNat = Jvm.FP.Core.encode Jvm.FP.Core.b32 d) : vf_n64 (FP.f2d x) ∧ FP.dcmp (FP.f2d x) (FP.f2d x) = some .eq := by
  have hn : Jvm.FP.Core.fIsNaN x = false := by
    show decide (Jvm.FP.Core.decode Jvm.FP.Core.b32 x.toNat = .nan) = false
    rw [hx]
    exact decide_eq_false (fp_dn fp32 hd)
  have e1 : FP.f2d x = UInt64.ofNat (Jvm.FP.Core.encode Jvm.FP.Core.b64 (Jvm.FP.Core.round Jvm.FP.Core.b64 (Jvm.FP.Core.decode Jvm.FP.Core.b32 x.toNat))) := by
    show (if Jvm.FP.Core.fIsNaN x = true then _ else _) = _
    rw [hn, if_neg (by decide)]
    rfl
  have hf : fpFit Jvm.FP.Core.b64 (Jvm.FP.Core.round Jvm.FP.Core.b64 (Jvm.FP.Core.decode Jvm.FP.Core.b32 x.toNat)) := by
    rw [hx]
    rcases fp_dec2 fp32 hd with ⟨s, e⟩ | ⟨s, c, q, q', -, e⟩
    · rw [e]; exact True.intro
    · rw [e]; exact fp_rr fp64
  rw [e1]
  refine ⟨fp_n64 hf, ?_⟩
  have h := (fp_bits fp64 hf).2
  show Jvm.FP.Core.order (Jvm.FP.Core.decode Jvm.FP.Core.b64 (UInt64.ofNat _).toNat) (Jvm.FP.Core.decode Jvm.FP.Core.b64 (UInt64.ofNat _).toNat) = _
  rw [UInt64.toNat_ofNat', Nat.mod_eq_of_lt (by have e2 : Jvm.FP.Core.b64.exps * Jvm.FP.Core.b64.tails = 9223372036854775808 := by decide
                                                rw [e2] at h; exact h)]
  exact fp_ord (fp_dn fp64 hf)
theorem f2d_rte (a b : Int32) : vf_n64 (FP.f2d (rte a b)) ∧ FP.dcmp (FP.f2d (rte a b)) (FP.f2d (rte a b)) = some .eq := by
  unfold rte
  split
  · rename_i hb
    have hb0 : b ≠ 0 := fun h => by rw [h] at hb; exact absurd hb (by decide)
    have hf : fpFit Jvm.FP.Core.b32 (Jvm.FP.Core.quotient Jvm.FP.Core.b32 (Jvm.FP.Core.decode Jvm.FP.Core.b32 (UInt32.ofNat (Jvm.FP.Core.fromInt Jvm.FP.Core.b32 a.toInt)).toNat) (Jvm.FP.Core.decode Jvm.FP.Core.b32 (UInt32.ofNat (Jvm.FP.Core.fromInt Jvm.FP.Core.b32 b.toInt)).toNat)) := by
      rw [fp_i32, fp_i32]
      exact fp_quo fp32 (fp_fin fp32 _) (fp_int fp32 (i32_ne hb0) (i32_abs b) (by decide) (by decide) (by decide) (by decide))
    refine f2d_of hf ?_
    have h := (fp_bits fp32 hf).2
    show (UInt32.ofNat _).toNat = _
    rw [UInt32.toNat_ofNat']
    exact Nat.mod_eq_of_lt (by have e1 : Jvm.FP.Core.b32.exps * Jvm.FP.Core.b32.tails = 2147483648 := by decide
                               rw [e1] at h; exact h)
  · exact ⟨by unfold vf_n64; decide +kernel, by decide +kernel⟩
set_option maxRecDepth 100000 in
set_option maxHeartbeats 1000000 in
theorem s_stateOf (l : Launch) (hlt : l.stackTraces = false) (x : Int32) : lT l jJ yX9_stateOf cX9_stateOf 2 (some FieldType.int) rm_X9_stateOf rx_X9_stateOf yX10_stateOf cX10_stateOf 2 (some FieldType.int) rm_X10_stateOf [.int x] := by
  intro G w v K zc zm hw hv hJ
  obtain ⟨mc, dc, Y, ⟨hB, em, ed, eY⟩, ⟨hO, qm, qd, qY⟩, hC, hE, hI, hY⟩ := hJ.v
  have h8 : mc ≤ 8 := hI.1.2.1
  have h4 : dc ≤ 4 := hI.1.2.2.2.1
  by_cases hin : inR x mc
  · left
    obtain ⟨mi, hmi, rfl⟩ := inR_nat hin (by omega)
    have hq : inR (nI mi) (mQ zm 12) := by rw [qm]; exact hin
    have cm : (nI mi).toNatClampNeg = mi := nI_clamp (by omega)
    refine ⟨_, _, fun sz => c_X9_stateOf l G w K hw zc sz mi  hB (by rw [em]; exact hmi) , fun sz => c_X10_stateOf l G v hv zm sz (nI mi)  hO, ?_⟩
    rintro a b z1 z2 ⟨rfl, rfl⟩ ⟨rfl, rfl⟩
    refine ⟨?_, ck_0 hq, hJ.u0 _⟩
    rw [if_pos hq, cm]
    exact (hE.2.2.1 mi hmi).2.2.1
  · right
    refine ⟨_, fun sz => t_X9_stateOf l hlt G w K hw zc sz x  hB (by rw [em]; exact hin), fun sz => c_X10_stateOf l G v hv zm sz x  hO, ?_⟩
    rintro b z2 ⟨rfl, rfl⟩
    exact ⟨ck_1 (by rw [qm]; exact hin), hJ.u0 _⟩
set_option maxRecDepth 100000 in
set_option maxHeartbeats 1000000 in
theorem s_lastAllocation (l : Launch) (hlt : l.stackTraces = false) (x : Int32) : lT l jJ yX9_lastAllocation cX9_lastAllocation 2 (some FieldType.int) rm_X9_lastAllocation rx_X9_lastAllocation yX10_lastAllocation cX10_lastAllocation 2 (some FieldType.int) rm_X10_lastAllocation [.int x] := by
  intro G w v K zc zm hw hv hJ
  obtain ⟨mc, dc, Y, ⟨hB, em, ed, eY⟩, ⟨hO, qm, qd, qY⟩, hC, hE, hI, hY⟩ := hJ.v
  have h8 : mc ≤ 8 := hI.1.2.1
  have h4 : dc ≤ 4 := hI.1.2.2.2.1
  by_cases hin : inR x mc
  · left
    obtain ⟨mi, hmi, rfl⟩ := inR_nat hin (by omega)
    have hq : inR (nI mi) (mQ zm 12) := by rw [qm]; exact hin
    have cm : (nI mi).toNatClampNeg = mi := nI_clamp (by omega)
    refine ⟨_, _, fun sz => c_X9_lastAllocation l G w K hw zc sz mi  hB (by rw [em]; exact hmi) , fun sz => c_X10_lastAllocation l G v hv zm sz (nI mi)  hO, ?_⟩
    rintro a b z1 z2 ⟨rfl, rfl⟩ ⟨rfl, rfl⟩
    refine ⟨?_, ck_0 hq, hJ.u0 _⟩
    rw [if_pos hq, cm]
    exact (hE.2.2.1 mi hmi).2.2.2.2.1
  · right
    refine ⟨_, fun sz => t_X9_lastAllocation l hlt G w K hw zc sz x  hB (by rw [em]; exact hin), fun sz => c_X10_lastAllocation l G v hv zm sz x  hO, ?_⟩
    rintro b z2 ⟨rfl, rfl⟩
    exact ⟨ck_1 (by rw [qm]; exact hin), hJ.u0 _⟩
set_option maxRecDepth 100000 in
set_option maxHeartbeats 1000000 in
theorem s_lastRecapture (l : Launch) (hlt : l.stackTraces = false) (x : Int32) : lT l jJ yX9_lastRecapture cX9_lastRecapture 2 (some FieldType.int) rm_X9_lastRecapture rx_X9_lastRecapture yX10_lastRecapture cX10_lastRecapture 2 (some FieldType.int) rm_X10_lastRecapture [.int x] := by
  intro G w v K zc zm hw hv hJ
  obtain ⟨mc, dc, Y, ⟨hB, em, ed, eY⟩, ⟨hO, qm, qd, qY⟩, hC, hE, hI, hY⟩ := hJ.v
  have h8 : mc ≤ 8 := hI.1.2.1
  have h4 : dc ≤ 4 := hI.1.2.2.2.1
  by_cases hin : inR x mc
  · left
    obtain ⟨mi, hmi, rfl⟩ := inR_nat hin (by omega)
    have hq : inR (nI mi) (mQ zm 12) := by rw [qm]; exact hin
    have cm : (nI mi).toNatClampNeg = mi := nI_clamp (by omega)
    refine ⟨_, _, fun sz => c_X9_lastRecapture l G w K hw zc sz mi  hB (by rw [em]; exact hmi) , fun sz => c_X10_lastRecapture l G v hv zm sz (nI mi)  hO, ?_⟩
    rintro a b z1 z2 ⟨rfl, rfl⟩ ⟨rfl, rfl⟩
    refine ⟨?_, ck_0 hq, hJ.u0 _⟩
    rw [if_pos hq, cm]
    exact (hE.2.2.1 mi hmi).2.2.2.2.2
  · right
    refine ⟨_, fun sz => t_X9_lastRecapture l hlt G w K hw zc sz x  hB (by rw [em]; exact hin), fun sz => c_X10_lastRecapture l G v hv zm sz x  hO, ?_⟩
    rintro b z2 ⟨rfl, rfl⟩
    exact ⟨ck_1 (by rw [qm]; exact hin), hJ.u0 _⟩
set_option maxRecDepth 100000 in
set_option maxHeartbeats 1000000 in
theorem s_installmentsLeft (l : Launch) (hlt : l.stackTraces = false) (x : Int32) : lT l jJ yX9_installmentsLeft cX9_installmentsLeft 2 (some FieldType.int) rm_X9_installmentsLeft rx_X9_installmentsLeft yX10_installmentsLeft cX10_installmentsLeft 2 (some FieldType.int) rm_X10_installmentsLeft [.int x] := by
  intro G w v K zc zm hw hv hJ
  obtain ⟨mc, dc, Y, ⟨hB, em, ed, eY⟩, ⟨hO, qm, qd, qY⟩, hC, hE, hI, hY⟩ := hJ.v
  have h8 : mc ≤ 8 := hI.1.2.1
  have h4 : dc ≤ 4 := hI.1.2.2.2.1
  by_cases hin : inR x mc
  · left
    obtain ⟨mi, hmi, rfl⟩ := inR_nat hin (by omega)
    have hq : inR (nI mi) (mQ zm 12) := by rw [qm]; exact hin
    have cm : (nI mi).toNatClampNeg = mi := nI_clamp (by omega)
    refine ⟨_, _, fun sz => c_X9_installmentsLeft l G w K hw zc sz mi  hB (by rw [em]; exact hmi) , fun sz => c_X10_installmentsLeft l G v hv zm sz (nI mi)  hO, ?_⟩
    rintro a b z1 z2 ⟨rfl, rfl⟩ ⟨rfl, rfl⟩
    refine ⟨?_, ck_0 hq, hJ.u0 _⟩
    rw [if_pos hq, cm]
    exact (hE.2.2.1 mi hmi).2.2.2.1
  · right
    refine ⟨_, fun sz => t_X9_installmentsLeft l hlt G w K hw zc sz x  hB (by rw [em]; exact hin), fun sz => c_X10_installmentsLeft l G v hv zm sz x  hO, ?_⟩
    rintro b z2 ⟨rfl, rfl⟩
    exact ⟨ck_1 (by rw [qm]; exact hin), hJ.u0 _⟩
set_option maxRecDepth 100000 in
set_option maxHeartbeats 1000000 in
theorem s_equityOf (l : Launch) (hlt : l.stackTraces = false) (x : Int32) : lT l jJ yX9_equityOf cX9_equityOf 2 (some FieldType.int) rm_X9_equityOf rx_X9_equityOf yX10_equityOf cX10_equityOf 2 (some FieldType.int) rm_X10_equityOf [.int x] := by
  intro G w v K zc zm hw hv hJ
  obtain ⟨mc, dc, Y, ⟨hB, em, ed, eY⟩, ⟨hO, qm, qd, qY⟩, hC, hE, hI, hY⟩ := hJ.v
  have h8 : mc ≤ 8 := hI.1.2.1
  have h4 : dc ≤ 4 := hI.1.2.2.2.1
  by_cases hin : inR x mc
  · left
    obtain ⟨mi, hmi, rfl⟩ := inR_nat hin (by omega)
    have hq : inR (nI mi) (mQ zm 12) := by rw [qm]; exact hin
    have cm : (nI mi).toNatClampNeg = mi := nI_clamp (by omega)
    refine ⟨_, _, fun sz => c_X9_equityOf l G w K hw zc sz mi  hB (by rw [em]; exact hmi) , fun sz => c_X10_equityOf l G v hv zm sz (nI mi)  hO, ?_⟩
    rintro a b z1 z2 ⟨rfl, rfl⟩ ⟨rfl, rfl⟩
    refine ⟨?_, ck_0 hq, hJ.u0 _⟩
    rw [if_pos hq, cm]
    exact eq_eq hE hmi
  · right
    refine ⟨_, fun sz => t_X9_equityOf l hlt G w K hw zc sz x  hB (by rw [em]; exact hin), fun sz => c_X10_equityOf l G v hv zm sz x  hO, ?_⟩
    rintro b z2 ⟨rfl, rfl⟩
    exact ⟨ck_1 (by rw [qm]; exact hin), hJ.u0 _⟩
set_option maxRecDepth 100000 in
set_option maxHeartbeats 1000000 in
theorem s_consents (l : Launch) (hlt : l.stackTraces = false) (x : Int32) : lT l jJ yX9_consents cX9_consents 2 (some FieldType.boolean) rm_X9_consents rx_X9_consents yX10_consents cX10_consents 2 (some FieldType.boolean) rm_X10_consents [.int x] := by
  intro G w v K zc zm hw hv hJ
  obtain ⟨mc, dc, Y, ⟨hB, em, ed, eY⟩, ⟨hO, qm, qd, qY⟩, hC, hE, hI, hY⟩ := hJ.v
  have h8 : mc ≤ 8 := hI.1.2.1
  have h4 : dc ≤ 4 := hI.1.2.2.2.1
  by_cases hin : inR x mc
  · left
    obtain ⟨mi, hmi, rfl⟩ := inR_nat hin (by omega)
    have hq : inR (nI mi) (mQ zm 12) := by rw [qm]; exact hin
    have cm : (nI mi).toNatClampNeg = mi := nI_clamp (by omega)
    refine ⟨_, _, fun sz => c_X9_consents l G w K hw zc sz mi  hB (by rw [em]; exact hmi) hC, fun sz => c_X10_consents l G v hv zm sz (nI mi)  hO, ?_⟩
    rintro a b z1 z2 ⟨rfl, rfl⟩ ⟨rfl, rfl⟩
    refine ⟨?_, ck_0 hq, hJ.u0 _⟩
    have e1 := (hE.2.2.1 mi hmi).2.1
    rw [cm]
    rcases hC mi (by omega) with e | e
    · rw [if_neg (fun h => absurd (h.2.symm.trans (e1.symm.trans e)) (by decide))]; exact e
    · rw [if_pos ⟨hq, e1.symm.trans e⟩]; exact e
  · right
    refine ⟨_, fun sz => t_X9_consents l hlt G w K hw zc sz x  hB (by rw [em]; exact hin), fun sz => c_X10_consents l G v hv zm sz x  hO, ?_⟩
    rintro b z2 ⟨rfl, rfl⟩
    exact ⟨ck_1 (by rw [qm]; exact hin), hJ.u0 _⟩
set_option maxRecDepth 100000 in
set_option maxHeartbeats 1000000 in
theorem s_certificate (l : Launch) (hlt : l.stackTraces = false) (x y : Int32) : lT l jJ yX9_certificate cX9_certificate 4 (some FieldType.int) rm_X9_certificate rx_X9_certificate yX10_certificate cX10_certificate 3 (some FieldType.int) rm_X10_certificate [.int x, .int y] := by
  intro G w v K zc zm hw hv hJ
  obtain ⟨mc, dc, Y, ⟨hB, em, ed, eY⟩, ⟨hO, qm, qd, qY⟩, hC, hE, hI, hY⟩ := hJ.v
  have h8 : mc ≤ 8 := hI.1.2.1
  have h4 : dc ≤ 4 := hI.1.2.2.2.1
  by_cases hin : inR x mc
  · left
    obtain ⟨mi, hmi, rfl⟩ := inR_nat hin (by omega)
    have hq : inR (nI mi) (mQ zm 12) := by rw [qm]; exact hin
    have cm : (nI mi).toNatClampNeg = mi := nI_clamp (by omega)
    refine ⟨_, _, fun sz => c_X9_certificate l G w K hw zc sz mi y hB (by rw [em]; exact hmi) , fun sz => c_X10_certificate l G v hv zm sz (nI mi) y hO, ?_⟩
    rintro a b z1 z2 ⟨rfl, rfl⟩ ⟨rfl, rfl⟩
    refine ⟨?_, ck_0 hq, hJ.u0 _⟩
    rw [if_pos hq, cm, eY, qY]
    by_cases hy : inR y Y
    · obtain ⟨k, hk, rfl⟩ := inR_nat hy (by omega)
      rw [if_pos hy, if_pos hy, nI_clamp (by omega)]
      exact (hE.2.2.2.2.1 mi k hmi (by omega)).1
    · rw [if_neg hy, if_neg hy]
  · right
    refine ⟨_, fun sz => t_X9_certificate l hlt G w K hw zc sz x y hB (by rw [em]; exact hin), fun sz => c_X10_certificate l G v hv zm sz x y hO, ?_⟩
    rintro b z2 ⟨rfl, rfl⟩
    exact ⟨ck_1 (by rw [qm]; exact hin), hJ.u0 _⟩
set_option maxRecDepth 100000 in
set_option maxHeartbeats 1000000 in
theorem s_kindOf (l : Launch) (hlt : l.stackTraces = false) (x y : Int32) : lT l jJ yX9_kindOf cX9_kindOf 4 (some FieldType.int) rm_X9_kindOf rx_X9_kindOf yX10_kindOf cX10_kindOf 3 (some FieldType.int) rm_X10_kindOf [.int x, .int y] := by
  intro G w v K zc zm hw hv hJ
  obtain ⟨mc, dc, Y, ⟨hB, em, ed, eY⟩, ⟨hO, qm, qd, qY⟩, hC, hE, hI, hY⟩ := hJ.v
  have h8 : mc ≤ 8 := hI.1.2.1
  have h4 : dc ≤ 4 := hI.1.2.2.2.1
  by_cases hin : inR x mc
  · left
    obtain ⟨mi, hmi, rfl⟩ := inR_nat hin (by omega)
    have hq : inR (nI mi) (mQ zm 12) := by rw [qm]; exact hin
    have cm : (nI mi).toNatClampNeg = mi := nI_clamp (by omega)
    refine ⟨_, _, fun sz => c_X9_kindOf l G w K hw zc sz mi y hB (by rw [em]; exact hmi) , fun sz => c_X10_kindOf l G v hv zm sz (nI mi) y hO, ?_⟩
    rintro a b z1 z2 ⟨rfl, rfl⟩ ⟨rfl, rfl⟩
    refine ⟨?_, ck_0 hq, hJ.u0 _⟩
    rw [if_pos hq, cm, eY, qY]
    by_cases hy : inR y Y
    · obtain ⟨k, hk, rfl⟩ := inR_nat hy (by omega)
      rw [if_pos hy, if_pos hy, nI_clamp (by omega)]
      obtain ⟨e1, e2⟩ := hE.2.2.2.2.1 mi k hmi (by omega)
      obtain ⟨a, ha, ea⟩ := (hI.2.2.2.2.1 mi k (by omega) (by omega)).1
      show (if 0 < z1.1 (oLf 0 mi) k then z1.1 (oKd 0 mi) k else -1) = (if zm.1 4 (61 + 24 * mi + k) = 0 then -1 else zm.1 4 (253 + 24 * mi + k))
      rw [e1, e2, ea]
      by_cases e : a = 0
      · rw [e, if_neg (by decide), if_pos (by decide)]
      · rw [if_pos (nI_0lt (by omega) (by omega)), if_neg (nI_ne0 (by omega) (by omega))]
    · rw [if_neg hy, if_neg hy]
  · right
    refine ⟨_, fun sz => t_X9_kindOf l hlt G w K hw zc sz x y hB (by rw [em]; exact hin), fun sz => c_X10_kindOf l G v hv zm sz x y hO, ?_⟩
    rintro b z2 ⟨rfl, rfl⟩
    exact ⟨ck_1 (by rw [qm]; exact hin), hJ.u0 _⟩
set_option maxRecDepth 100000 in
set_option maxHeartbeats 1000000 in
theorem s_equityIn (l : Launch) (hlt : l.stackTraces = false) (x kd : Int32) : lT l jJ yX9_equityIn cX9_equityIn 4 (some FieldType.int) rm_X9_equityIn rx_X9_equityIn yX10_equityIn cX10_equityIn 3 (some FieldType.int) rm_X10_equityIn [.int x, .int kd] := by
  intro G w v K zc zm hw hv hJ
  obtain ⟨mc, dc, Y, ⟨hB, em, ed, eY⟩, ⟨hO, qm, qd, qY⟩, hC, hE, hI, hY⟩ := hJ.v
  have h8 : mc ≤ 8 := hI.1.2.1
  have h4 : dc ≤ 4 := hI.1.2.2.2.1
  by_cases hin : inR x mc
  · left
    obtain ⟨mi, hmi, rfl⟩ := inR_nat hin (by omega)
    have hq : inR (nI mi) (mQ zm 12) := by rw [qm]; exact hin
    have cm : (nI mi).toNatClampNeg = mi := nI_clamp (by omega)
    refine ⟨_, _, fun sz => c_X9_equityIn l G w K hw zc sz mi kd hB (by rw [em]; exact hmi) , fun sz => c_X10_equityIn l G v hv zm sz (nI mi) kd hO, ?_⟩
    rintro a b z1 z2 ⟨rfl, rfl⟩ ⟨rfl, rfl⟩
    refine ⟨?_, ck_0 hq, hJ.u0 _⟩
    rw [if_pos hq, cm, qY]
    by_cases hk : kd = 0 ∨ kd = nI 1
    · rw [if_pos hk, if_pos hk]
      exact kd_eq hE hI hY hmi kd
    · rw [if_neg hk, if_neg hk]
  · right
    refine ⟨_, fun sz => t_X9_equityIn l hlt G w K hw zc sz x kd hB (by rw [em]; exact hin), fun sz => c_X10_equityIn l G v hv zm sz x kd hO, ?_⟩
    rintro b z2 ⟨rfl, rfl⟩
    exact ⟨ck_1 (by rw [qm]; exact hin), hJ.u0 _⟩
set_option maxRecDepth 100000 in
set_option maxHeartbeats 1000000 in
theorem s_paidTo (l : Launch) (hlt : l.stackTraces = false) (x y : Int32) : lT l jJ yX9_paidTo cX9_paidTo 4 (some FieldType.int) rm_X9_paidTo rx_X9_paidTo yX10_paidTo cX10_paidTo 3 (some FieldType.int) rm_X10_paidTo [.int x, .int y] := by
  intro G w v K zc zm hw hv hJ
  obtain ⟨mc, dc, Y, ⟨hB, em, ed, eY⟩, ⟨hO, qm, qd, qY⟩, hC, hE, hI, hY⟩ := hJ.v
  have h8 : mc ≤ 8 := hI.1.2.1
  have h4 : dc ≤ 4 := hI.1.2.2.2.1
  by_cases hin : inR x mc
  · left
    obtain ⟨mi, hmi, rfl⟩ := inR_nat hin (by omega)
    have hq : inR (nI mi) (mQ zm 12) := by rw [qm]; exact hin
    have cm : (nI mi).toNatClampNeg = mi := nI_clamp (by omega)
    refine ⟨_, _, fun sz => c_X9_paidTo l G w K hw zc sz mi y hB (by rw [em]; exact hmi) , fun sz => c_X10_paidTo l G v hv zm sz (nI mi) y hO, ?_⟩
    rintro a b z1 z2 ⟨rfl, rfl⟩ ⟨rfl, rfl⟩
    refine ⟨?_, ck_0 hq, hJ.u0 _⟩
    rw [if_pos hq, cm]
    by_cases hy : inR y 3
    · obtain ⟨k, hk, rfl⟩ := inR_nat hy (by omega)
      rw [if_pos hy, if_pos hy, nI_clamp (by omega)]
      exact hE.2.2.2.2.2.2.1 mi k hmi hk
    · rw [if_neg hy, if_neg hy]
  · right
    refine ⟨_, fun sz => t_X9_paidTo l hlt G w K hw zc sz x y hB (by rw [em]; exact hin), fun sz => c_X10_paidTo l G v hv zm sz x y hO, ?_⟩
    rintro b z2 ⟨rfl, rfl⟩
    exact ⟨ck_1 (by rw [qm]; exact hin), hJ.u0 _⟩
set_option maxRecDepth 100000 in
set_option maxHeartbeats 1000000 in
theorem s_oldestYear (l : Launch) (hlt : l.stackTraces = false) (x : Int32) : lT l jJ yX9_oldestYear cX9_oldestYear 2 (some FieldType.int) rm_X9_oldestYear rx_X9_oldestYear yX10_oldestYear cX10_oldestYear 3 (some FieldType.int) rm_X10_oldestYear [.int x] := by
  intro G w v K zc zm hw hv hJ
  obtain ⟨mc, dc, Y, ⟨hB, em, ed, eY⟩, ⟨hO, qm, qd, qY⟩, hC, hE, hI, hY⟩ := hJ.v
  have h8 : mc ≤ 8 := hI.1.2.1
  have h4 : dc ≤ 4 := hI.1.2.2.2.1
  by_cases hin : inR x mc
  · left
    obtain ⟨mi, hmi, rfl⟩ := inR_nat hin (by omega)
    have hq : inR (nI mi) (mQ zm 12) := by rw [qm]; exact hin
    have cm : (nI mi).toNatClampNeg = mi := nI_clamp (by omega)
    refine ⟨_, _, fun sz => c_X9_oldestYear l G w K hw zc sz mi  hB (by rw [em]; exact hmi) , fun sz => c_X10_oldestYear l G v hv zm sz (nI mi)  hO, ?_⟩
    rintro a b z1 z2 ⟨rfl, rfl⟩ ⟨rfl, rfl⟩
    refine ⟨?_, ck_0 hq, hJ.u0 _⟩
    rw [if_pos hq, cm, qY, show 25 = Y + (25 - Y) by omega]
    rw [xff_cut (fun j h1 h2 => ?_)]
    · refine xff_cong (fun j h1 h2 => ?_)
      show decide (0 < z1.1 (oLf 0 mi) j) = decide (0 < zm.1 4 (61 + 24 * mi + j))
      rw [(hE.2.2.2.2.1 mi j hmi (by omega)).1]
    · have e0 : z1.1 (oLf 0 mi) j = 0 := by
        by_cases e : j = 24
        · rw [e]; exact hE.2.2.2.2.2.1 mi hmi
        · rw [(hE.2.2.2.2.1 mi j hmi (by omega)).1]
          exact ((hI.2.2.2.2.1 mi j (by omega) (by omega)).2 (by omega)).1
      rw [e0]; decide
  · right
    refine ⟨_, fun sz => t_X9_oldestYear l hlt G w K hw zc sz x  hB (by rw [em]; exact hin), fun sz => c_X10_oldestYear l G v hv zm sz x  hO, ?_⟩
    rintro b z2 ⟨rfl, rfl⟩
    exact ⟨ck_1 (by rw [qm]; exact hin), hJ.u0 _⟩
set_option maxRecDepth 100000 in
set_option maxHeartbeats 1000000 in
theorem s_isUniform (l : Launch) (hlt : l.stackTraces = false) (x : Int32) : lT l jJ yX9_isUniform cX9_isUniform 3 (some FieldType.boolean) rm_X9_isUniform rx_X9_isUniform yX10_isUniform cX10_isUniform 2 (some FieldType.boolean) rm_X10_isUniform [.int x] := by
  intro G w v K zc zm hw hv hJ
  obtain ⟨mc, dc, Y, ⟨hB, em, ed, eY⟩, ⟨hO, qm, qd, qY⟩, hC, hE, hI, hY⟩ := hJ.v
  have h8 : mc ≤ 8 := hI.1.2.1
  have h4 : dc ≤ 4 := hI.1.2.2.2.1
  by_cases hin : inR x mc
  · left
    obtain ⟨mi, hmi, rfl⟩ := inR_nat hin (by omega)
    have hq : inR (nI mi) (mQ zm 12) := by rw [qm]; exact hin
    have cm : (nI mi).toNatClampNeg = mi := nI_clamp (by omega)
    refine ⟨_, _, fun sz => c_X9_isUniform l G w K hw zc sz mi  hB (by rw [em]; exact hmi) , fun sz => c_X10_isUniform l G v hv zm sz (nI mi)  hO, ?_⟩
    rintro a b z1 z2 ⟨rfl, rfl⟩ ⟨rfl, rfl⟩
    refine ⟨?_, ck_0 hq, hJ.u0 _⟩
    rw [cm, qY, kd_eq hE hI hY hmi 0, kd_eq hE hI hY hmi 1]
    by_cases hk : bx_sum (fun y => if zm.1 4 (253 + 24 * mi + y) = 0 then lfQ zm mi y else 0) Y = 0 ∨ bx_sum (fun y => if zm.1 4 (253 + 24 * mi + y) = 1 then lfQ zm mi y else 0) Y = 0
    · rw [if_pos hk, if_pos ⟨hq, hk⟩]
    · rw [if_neg hk, if_neg (fun h => hk h.2)]
  · right
    refine ⟨_, fun sz => t_X9_isUniform l hlt G w K hw zc sz x  hB (by rw [em]; exact hin), fun sz => c_X10_isUniform l G v hv zm sz x  hO, ?_⟩
    rintro b z2 ⟨rfl, rfl⟩
    exact ⟨ck_1 (by rw [qm]; exact hin), hJ.u0 _⟩
set_option maxRecDepth 100000 in
set_option maxHeartbeats 1000000 in
theorem s_yearsUntil (l : Launch) (hlt : l.stackTraces = false) (x y : Int32) : lT l jJ yX9_yearsUntil cX9_yearsUntil 4 (some FieldType.int) rm_X9_yearsUntil rx_X9_yearsUntil yX10_yearsUntil cX10_yearsUntil 3 (some FieldType.int) rm_X10_yearsUntil [.int x, .int y] := by
  intro G w v K zc zm hw hv hJ
  obtain ⟨mc, dc, Y, ⟨hB, em, ed, eY⟩, ⟨hO, qm, qd, qY⟩, hC, hE, hI, hY⟩ := hJ.v
  have h8 : mc ≤ 8 := hI.1.2.1
  have h4 : dc ≤ 4 := hI.1.2.2.2.1
  by_cases hin : inR x mc
  · left
    obtain ⟨mi, hmi, rfl⟩ := inR_nat hin (by omega)
    have hq : inR (nI mi) (mQ zm 12) := by rw [qm]; exact hin
    have cm : (nI mi).toNatClampNeg = mi := nI_clamp (by omega)
    refine ⟨_, _, fun sz => c_X9_yearsUntil l G w K hw zc sz mi y hB (by rw [em]; exact hmi) , fun sz => c_X10_yearsUntil l G v hv zm sz (nI mi) y hO, ?_⟩
    rintro a b z1 z2 ⟨rfl, rfl⟩ ⟨rfl, rfl⟩
    refine ⟨?_, ck_0 hq, hJ.u0 _⟩
    rw [if_pos hq, cm, eY, qY]
    by_cases hy : inR y Y
    · obtain ⟨k, hk, rfl⟩ := inR_nat hy (by omega)
      rw [if_pos hy, if_pos hy, nI_clamp (by omega), (hE.2.2.2.2.1 mi k hmi (by omega)).1, (hE.2.2.1 mi hmi).2.2.1, hE.2.1 3 (by omega), hE.1.2.2.1]
      first | done | rfl
    · rw [if_neg hy, if_neg hy]
  · right
    refine ⟨_, fun sz => t_X9_yearsUntil l hlt G w K hw zc sz x y hB (by rw [em]; exact hin), fun sz => c_X10_yearsUntil l G v hv zm sz x y hO, ?_⟩
    rintro b z2 ⟨rfl, rfl⟩
    exact ⟨ck_1 (by rw [qm]; exact hin), hJ.u0 _⟩
set_option maxRecDepth 100000 in
set_option maxHeartbeats 1000000 in
theorem s_installment (l : Launch) (hlt : l.stackTraces = false) (x k : Int32) : lT l jJ yX9_installment cX9_installment 3 (some FieldType.int) rm_X9_installment rx_X9_installment yX10_installment cX10_installment 6 (some FieldType.int) rm_X10_installment [.int x, .int k] := by
  intro G w v K zc zm hw hv hJ
  obtain ⟨mc, dc, Y, ⟨hB, em, ed, eY⟩, ⟨hO, qm, qd, qY⟩, hC, hE, hI, hY⟩ := hJ.v
  have h8 : mc ≤ 8 := hI.1.2.1
  have h4 : dc ≤ 4 := hI.1.2.2.2.1
  by_cases hin : inR x mc
  · left
    obtain ⟨mi, hmi, rfl⟩ := inR_nat hin (by omega)
    have hq : inR (nI mi) (mQ zm 12) := by rw [qm]; exact hin
    have cm : (nI mi).toNatClampNeg = mi := nI_clamp (by omega)
    refine ⟨_, _, fun sz => c_X9_installment l G w K hw zc sz mi k hB (by rw [em]; exact hmi) , fun sz => c_X10_installment l G v hv zm sz (nI mi) k hO, ?_⟩
    rintro a b z1 z2 ⟨rfl, rfl⟩ ⟨rfl, rfl⟩
    refine ⟨?_, ck_0 hq, hJ.u0 _⟩
    have e1 := (hE.2.2.1 mi hmi).2.2.2.1
    obtain ⟨n, hn, en⟩ := (hI.2.2.1 mi (by omega)).2.2.1
    rw [if_pos hq, cm, e1, en, eq_eq hE hmi]
    by_cases hk : k < 0 ∨ ¬ k < nI n
    · rw [if_pos hk, if_pos hk]
    · rw [if_neg hk, if_neg hk]
      obtain ⟨j, hj, rfl⟩ := inR_nat (x := k) (n := n) ⟨fun h => hk (Or.inl h), Decidable.of_not_not (fun h => hk (Or.inr h))⟩ (by omega)
      rw [nI_clamp (by omega), ins_is j hj (by omega)]
      exact rup_is (by omega) (by omega)
  · right
    refine ⟨_, fun sz => t_X9_installment l hlt G w K hw zc sz x k hB (by rw [em]; exact hin), fun sz => c_X10_installment l G v hv zm sz x k hO, ?_⟩
    rintro b z2 ⟨rfl, rfl⟩
    exact ⟨ck_1 (by rw [qm]; exact hin), hJ.u0 _⟩
set_option maxRecDepth 100000 in
set_option maxHeartbeats 1000000 in
theorem s_meanAge (l : Launch) (hlt : l.stackTraces = false) (x : Int32) : lTd l jJ yX9_meanAge cX9_meanAge 4 (some FieldType.double) rm_X9_meanAge rx_X9_meanAge yX10_meanAge cX10_meanAge 5 (some FieldType.double) rm_X10_meanAge [.int x] := by
  intro G w v K zc zm hw hv hJ
  obtain ⟨mc, dc, Y, ⟨hB, em, ed, eY⟩, ⟨hO, qm, qd, qY⟩, hC, hE, hI, hY⟩ := hJ.v
  have h8 : mc ≤ 8 := hI.1.2.1
  have h4 : dc ≤ 4 := hI.1.2.2.2.1
  by_cases hin : inR x mc
  · left
    obtain ⟨mi, hmi, rfl⟩ := inR_nat hin (by omega)
    have hq : inR (nI mi) (mQ zm 12) := by rw [qm]; exact hin
    have cm : (nI mi).toNatClampNeg = mi := nI_clamp (by omega)
    refine ⟨_, _, fun sz => c_X9_meanAge l G w K hw zc sz mi  hB (by rw [em]; exact hmi) , fun sz => c_X10_meanAge l G v hv zm sz (nI mi)  hO, ?_⟩
    rintro a b z1 z2 ⟨rfl, rfl⟩ ⟨rfl, rfl⟩
    refine ⟨?_, ck_0 hq, hJ.u0 _⟩
    rw [if_pos hq, cm, qY, eq_eq hE hmi]
    by_cases e0 : eqQ zm mi = 0
    · rw [if_pos e0, if_pos e0]
    · rw [if_neg e0, if_neg e0, xls_cut (Y := Y) (by omega) (fun j h1 h2 => ?_)]
      · rw [xls_cong (g := fun y => (lfQ zm mi y).toInt64 * (zm.1 4 494 - nI y).toInt64) (fun j hj => ?_)]
        show (z1.1 (oLf 0 mi) j).toInt64 * (z1.1 (oB 0) 5 - nI j).toInt64 = (zm.1 4 (61 + 24 * mi + j)).toInt64 * (zm.1 4 494 - nI j).toInt64
        rw [(hE.2.2.2.2.1 mi j hmi (by omega)).1, hE.1.2.2.1]
      · have e0 : z1.1 (oLf 0 mi) j = 0 := by
          by_cases e : j = 24
          · rw [e]; exact hE.2.2.2.2.2.1 mi hmi
          · rw [(hE.2.2.2.2.1 mi j hmi (by omega)).1]
            exact ((hI.2.2.2.2.1 mi j (by omega) (by omega)).2 (by omega)).1
        show (z1.1 (oLf 0 mi) j).toInt64 * _ = 0
        rw [e0, show (0 : Int32).toInt64 = 0 from rfl, Int64.zero_mul]
  · right
    refine ⟨_, fun sz => t_X9_meanAge l hlt G w K hw zc sz x  hB (by rw [em]; exact hin), fun sz => c_X10_meanAge l G v hv zm sz x  hO, ?_⟩
    rintro b z2 ⟨rfl, rfl⟩
    exact ⟨ck_1 (by rw [qm]; exact hin), hJ.u0 _⟩
set_option maxRecDepth 100000 in
set_option maxHeartbeats 1000000 in
theorem s_partOf (l : Launch) (hlt : l.stackTraces = false) (x : Int32) : lTd l jJ yX9_partOf cX9_partOf 4 (some FieldType.double) rm_X9_partOf rx_X9_partOf yX10_partOf cX10_partOf 4 (some FieldType.double) rm_X10_partOf [.int x] := by
  intro G w v K zc zm hw hv hJ
  obtain ⟨mc, dc, Y, ⟨hB, em, ed, eY⟩, ⟨hO, qm, qd, qY⟩, hC, hE, hI, hY⟩ := hJ.v
  have h8 : mc ≤ 8 := hI.1.2.1
  have h4 : dc ≤ 4 := hI.1.2.2.2.1
  by_cases hin : inR x mc
  · left
    obtain ⟨mi, hmi, rfl⟩ := inR_nat hin (by omega)
    have hq : inR (nI mi) (mQ zm 12) := by rw [qm]; exact hin
    have cm : (nI mi).toNatClampNeg = mi := nI_clamp (by omega)
    refine ⟨_, _, fun sz => c_X9_partOf l G w K hw zc sz mi  hB (by rw [em]; exact hmi) , fun sz => c_X10_partOf l G v hv zm sz (nI mi)  hO, ?_⟩
    rintro a b z1 z2 ⟨rfl, rfl⟩ ⟨rfl, rfl⟩
    refine ⟨?_, ck_0 hq, hJ.u0 _⟩
    rw [if_pos hq, cm, qm, em, eq_eq hE hmi, eq_all hE]
  · right
    refine ⟨_, fun sz => t_X9_partOf l hlt G w K hw zc sz x  hB (by rw [em]; exact hin), fun sz => c_X10_partOf l G v hv zm sz x  hO, ?_⟩
    rintro b z2 ⟨rfl, rfl⟩
    exact ⟨ck_1 (by rw [qm]; exact hin), hJ.u0 _⟩
set_option maxRecDepth 100000 in
set_option maxHeartbeats 1000000 in
theorem s_totalPatronage (l : Launch) (hlt : l.stackTraces = false) (x : Int32) : lT l jJ yX9_totalPatronage cX9_totalPatronage 2 (some FieldType.int) rm_X9_totalPatronage rx_X9_totalPatronage yX10_totalPatronage cX10_totalPatronage 2 (some FieldType.int) rm_X10_totalPatronage [.int x] := by
  intro G w v K zc zm hw hv hJ
  obtain ⟨mc, dc, Y, ⟨hB, em, ed, eY⟩, ⟨hO, qm, qd, qY⟩, hC, hE, hI, hY⟩ := hJ.v
  have h8 : mc ≤ 8 := hI.1.2.1
  have h4 : dc ≤ 4 := hI.1.2.2.2.1
  by_cases hin : inR x dc
  · left
    obtain ⟨mi, hmi, rfl⟩ := inR_nat hin (by omega)
    have hq : inR (nI mi) (mQ zm 13) := by rw [qd]; exact hin
    have cm : (nI mi).toNatClampNeg = mi := nI_clamp (by omega)
    refine ⟨_, _, fun sz => c_X9_totalPatronage l G w K hw zc sz mi  hB (by rw [ed]; exact hmi) , fun sz => c_X10_totalPatronage l G v hv zm sz (nI mi)  hO, ?_⟩
    rintro a b z1 z2 ⟨rfl, rfl⟩ ⟨rfl, rfl⟩
    refine ⟨?_, ck_0 hq, hJ.u0 _⟩
    rw [if_pos hq, cm, qm, em]
    exact bx_cong (fun m hm => hE.2.2.2.1 m mi hm (by omega))
  · right
    refine ⟨_, fun sz => t_X9_totalPatronage l hlt G w K hw zc sz x  hB (by rw [ed]; exact hin), fun sz => c_X10_totalPatronage l G v hv zm sz x  hO, ?_⟩
    rintro b z2 ⟨rfl, rfl⟩
    exact ⟨ck_1 (by rw [qd]; exact hin), hJ.u0 _⟩
set_option maxRecDepth 100000 in
set_option maxHeartbeats 1000000 in
theorem s_rateOf (l : Launch) (hlt : l.stackTraces = false) (x : Int32) : lTf l jJ yX9_rateOf cX9_rateOf 2 (some FieldType.float) rm_X9_rateOf rx_X9_rateOf yX10_rateOf cX10_rateOf 2 (some FieldType.float) rm_X10_rateOf [.int x] := by
  intro G w v K zc zm hw hv hJ
  obtain ⟨mc, dc, Y, ⟨hB, em, ed, eY⟩, ⟨hO, qm, qd, qY⟩, hC, hE, hI, hY⟩ := hJ.v
  have h8 : mc ≤ 8 := hI.1.2.1
  have h4 : dc ≤ 4 := hI.1.2.2.2.1
  by_cases hin : inR x dc
  · left
    obtain ⟨mi, hmi, rfl⟩ := inR_nat hin (by omega)
    have hq : inR (nI mi) (mQ zm 13) := by rw [qd]; exact hin
    have cm : (nI mi).toNatClampNeg = mi := nI_clamp (by omega)
    refine ⟨_, _, fun sz => c_X9_rateOf l G w K hw zc sz mi  hB (by rw [ed]; exact hmi) , fun sz => c_X10_rateOf l G v hv zm sz (nI mi)  hO, ?_, ?_⟩
    · rintro a z1 ⟨rfl, rfl⟩
      exact f2d_rte _ _
    rintro a b z1 z2 ⟨rfl, rfl⟩ ⟨rfl, rfl⟩
    refine ⟨?_, ck_0 hq, hJ.u0 _⟩
    obtain ⟨-, e1, e2⟩ := hE.2.2.2.2.2.2.2 mi hmi
    rw [if_pos hq, cm, e1, e2]
    exact rt_eq (by omega) (hI.2.2.2.2.2 mi (by omega))
  · right
    refine ⟨_, fun sz => t_X9_rateOf l hlt G w K hw zc sz x  hB (by rw [ed]; exact hin), fun sz => c_X10_rateOf l G v hv zm sz x  hO, ?_⟩
    rintro b z2 ⟨rfl, rfl⟩
    exact ⟨ck_1 (by rw [qd]; exact hin), hJ.u0 _⟩
set_option maxRecDepth 100000 in
set_option maxHeartbeats 1000000 in
theorem s_ratePoints (l : Launch) (hlt : l.stackTraces = false) (x : Int32) : lT l jJ yX9_ratePoints cX9_ratePoints 2 (some FieldType.int) rm_X9_ratePoints rx_X9_ratePoints yX10_ratePoints cX10_ratePoints 2 (some FieldType.int) rm_X10_ratePoints [.int x] := by
  intro G w v K zc zm hw hv hJ
  obtain ⟨mc, dc, Y, ⟨hB, em, ed, eY⟩, ⟨hO, qm, qd, qY⟩, hC, hE, hI, hY⟩ := hJ.v
  have h8 : mc ≤ 8 := hI.1.2.1
  have h4 : dc ≤ 4 := hI.1.2.2.2.1
  by_cases hin : inR x dc
  · left
    obtain ⟨mi, hmi, rfl⟩ := inR_nat hin (by omega)
    have hq : inR (nI mi) (mQ zm 13) := by rw [qd]; exact hin
    have cm : (nI mi).toNatClampNeg = mi := nI_clamp (by omega)
    refine ⟨_, _, fun sz => c_X9_ratePoints l G w K hw zc sz mi  hB (by rw [ed]; exact hmi) , fun sz => c_X10_ratePoints l G v hv zm sz (nI mi)  hO, ?_⟩
    rintro a b z1 z2 ⟨rfl, rfl⟩ ⟨rfl, rfl⟩
    refine ⟨?_, ck_0 hq, hJ.u0 _⟩
    obtain ⟨-, e1, e2⟩ := hE.2.2.2.2.2.2.2 mi hmi
    rw [if_pos hq, cm, e1, e2, rt_eq (by omega) (hI.2.2.2.2.2 mi (by omega))]
  · right
    refine ⟨_, fun sz => t_X9_ratePoints l hlt G w K hw zc sz x  hB (by rw [ed]; exact hin), fun sz => c_X10_ratePoints l G v hv zm sz x  hO, ?_⟩
    rintro b z2 ⟨rfl, rfl⟩
    exact ⟨ck_1 (by rw [qd]; exact hin), hJ.u0 _⟩
set_option maxRecDepth 100000 in
set_option maxHeartbeats 1000000 in
theorem s_patronage (l : Launch) (hlt : l.stackTraces = false) (x y : Int32) : lT2 l jJ yX9_patronage cX9_patronage 4 (some FieldType.int) rm_X9_patronage rx_X9_patronage rx2_X9_patronage yX10_patronage cX10_patronage 3 (some FieldType.int) rm_X10_patronage [.int x, .int y] := by
  intro G w v K zc zm hw hv hJ
  obtain ⟨mc, dc, Y, ⟨hB, em, ed, eY⟩, ⟨hO, qm, qd, qY⟩, hC, hE, hI, hY⟩ := hJ.v
  have h8 : mc ≤ 8 := hI.1.2.1
  have h4 : dc ≤ 4 := hI.1.2.2.2.1
  by_cases hin : inR x mc
  · obtain ⟨mi, hmi, rfl⟩ := inR_nat hin (by omega)
    have hq : inR (nI mi) (mQ zm 12) := by rw [qm]; exact hin
    have cm : (nI mi).toNatClampNeg = mi := nI_clamp (by omega)
    by_cases hi2 : inR y dc
    · left
      obtain ⟨di, hdi, rfl⟩ := inR_nat hi2 (by omega)
      have hq2 : inR (nI di) (mQ zm 13) := by rw [qd]; exact hi2
      have cd : (nI di).toNatClampNeg = di := nI_clamp (by omega)
      refine ⟨_, _, fun sz => c_X9_patronage l G w K hw zc sz mi di hB (by rw [em]; exact hmi) (by rw [ed]; exact hdi), fun sz => c_X10_patronage l G v hv zm sz (nI mi) (nI di) hO, ?_⟩
      rintro a b z1 z2 ⟨rfl, rfl⟩ ⟨rfl, rfl⟩
      refine ⟨?_, ck_0 ⟨hq, hq2⟩, hJ.u0 _⟩
      rw [if_pos ⟨hq, hq2⟩, cm, cd]
      exact hE.2.2.2.1 mi di hmi (by omega)
    · right
      refine ⟨_, Or.inr (fun sz => t2_X9_patronage l hlt G w K hw zc sz mi y hB (by rw [em]; exact hmi) (by rw [ed]; exact hi2)), fun sz => c_X10_patronage l G v hv zm sz (nI mi) y hO, ?_⟩
      rintro b z2 ⟨rfl, rfl⟩
      exact ⟨ck_1 (fun h => hi2 (by rw [← qd]; exact h.2)), hJ.u0 _⟩
  · right
    refine ⟨_, Or.inl (fun sz => t_X9_patronage l hlt G w K hw zc sz x y hB (by rw [em]; exact hin)), fun sz => c_X10_patronage l G v hv zm sz x y hO, ?_⟩
    rintro b z2 ⟨rfl, rfl⟩
    exact ⟨ck_1 (fun h => hin (by rw [← qm]; exact h.1)), hJ.u0 _⟩
set_option maxRecDepth 100000 in
set_option maxHeartbeats 1000000 in
theorem s_errorPosition (l : Launch) : lP l jJ yX9_errorPosition cX9_errorPosition 1 (some FieldType.int) rm_X9_errorPosition yX10_errorPosition cX10_errorPosition 1 (some FieldType.int) rm_X10_errorPosition [] := by
  intro G w v K zc zm hw hv hJ
  obtain ⟨mc, dc, Y, ⟨hB, em, ed, eY⟩, ⟨hO, qm, qd, qY⟩, hC, hE, hI, hY⟩ := hJ.v
  have h8 : mc ≤ 8 := hI.1.2.1
  have h4 : dc ≤ 4 := hI.1.2.2.2.1
  refine ⟨_, _, fun sz => c_X9_errorPosition l G w K hw zc sz  , fun sz => c_X10_errorPosition l G v hv zm sz  , ?_⟩
  rintro a b z1 z2 ⟨rfl, rfl⟩ ⟨rfl, rfl⟩
  refine ⟨?_, hJ.u0 _⟩
  exact hJ.2.1
set_option maxRecDepth 100000 in
set_option maxHeartbeats 1000000 in
theorem s_memberCount (l : Launch) : lP l jJ yX9_memberCount cX9_memberCount 1 (some FieldType.int) rm_X9_memberCount yX10_memberCount cX10_memberCount 1 (some FieldType.int) rm_X10_memberCount [] := by
  intro G w v K zc zm hw hv hJ
  obtain ⟨mc, dc, Y, ⟨hB, em, ed, eY⟩, ⟨hO, qm, qd, qY⟩, hC, hE, hI, hY⟩ := hJ.v
  have h8 : mc ≤ 8 := hI.1.2.1
  have h4 : dc ≤ 4 := hI.1.2.2.2.1
  refine ⟨_, _, fun sz => c_X9_memberCount l G w K hw zc sz  , fun sz => c_X10_memberCount l G v hv zm sz  , ?_⟩
  rintro a b z1 z2 ⟨rfl, rfl⟩ ⟨rfl, rfl⟩
  refine ⟨?_, hJ.u0 _⟩
  exact hE.1.1
set_option maxRecDepth 100000 in
set_option maxHeartbeats 1000000 in
theorem s_departmentCount (l : Launch) : lP l jJ yX9_departmentCount cX9_departmentCount 1 (some FieldType.int) rm_X9_departmentCount yX10_departmentCount cX10_departmentCount 1 (some FieldType.int) rm_X10_departmentCount [] := by
  intro G w v K zc zm hw hv hJ
  obtain ⟨mc, dc, Y, ⟨hB, em, ed, eY⟩, ⟨hO, qm, qd, qY⟩, hC, hE, hI, hY⟩ := hJ.v
  have h8 : mc ≤ 8 := hI.1.2.1
  have h4 : dc ≤ 4 := hI.1.2.2.2.1
  refine ⟨_, _, fun sz => c_X9_departmentCount l G w K hw zc sz  , fun sz => c_X10_departmentCount l G v hv zm sz  , ?_⟩
  rintro a b z1 z2 ⟨rfl, rfl⟩ ⟨rfl, rfl⟩
  refine ⟨?_, hJ.u0 _⟩
  exact hE.1.2.1
set_option maxRecDepth 100000 in
set_option maxHeartbeats 1000000 in
theorem s_year (l : Launch) : lP l jJ yX9_year cX9_year 1 (some FieldType.int) rm_X9_year yX10_year cX10_year 1 (some FieldType.int) rm_X10_year [] := by
  intro G w v K zc zm hw hv hJ
  obtain ⟨mc, dc, Y, ⟨hB, em, ed, eY⟩, ⟨hO, qm, qd, qY⟩, hC, hE, hI, hY⟩ := hJ.v
  have h8 : mc ≤ 8 := hI.1.2.1
  have h4 : dc ≤ 4 := hI.1.2.2.2.1
  refine ⟨_, _, fun sz => c_X9_year l G w K hw zc sz  , fun sz => c_X10_year l G v hv zm sz  , ?_⟩
  rintro a b z1 z2 ⟨rfl, rfl⟩ ⟨rfl, rfl⟩
  refine ⟨?_, hJ.u0 _⟩
  exact hE.1.2.2.1
set_option maxRecDepth 100000 in
set_option maxHeartbeats 1000000 in
theorem s_undoCount (l : Launch) : lP l jJ yX9_undoCount cX9_undoCount 1 (some FieldType.int) rm_X9_undoCount yX10_undoCount cX10_undoCount 1 (some FieldType.int) rm_X10_undoCount [] := by
  intro G w v K zc zm hw hv hJ
  obtain ⟨mc, dc, Y, ⟨hB, em, ed, eY⟩, ⟨hO, qm, qd, qY⟩, hC, hE, hI, hY⟩ := hJ.v
  have h8 : mc ≤ 8 := hI.1.2.1
  have h4 : dc ≤ 4 := hI.1.2.2.2.1
  refine ⟨_, _, fun sz => c_X9_undoCount l G w K hw zc sz  , fun sz => c_X10_undoCount l G v hv zm sz  , ?_⟩
  rintro a b z1 z2 ⟨rfl, rfl⟩ ⟨rfl, rfl⟩
  refine ⟨?_, hJ.u0 _⟩
  obtain ⟨-, -, -, mc, dc, Y, u, f, ⟨d1, d2, -⟩, -⟩ := hJ
  exact d1.trans d2.symm
set_option maxRecDepth 100000 in
set_option maxHeartbeats 1000000 in
theorem s_memberNamed (l : Launch) (x : Int32) : lP l jJ yX9_memberNamed cX9_memberNamed 2 (some FieldType.int) rm_X9_memberNamed yX10_memberNamed cX10_memberNamed 2 (some FieldType.int) rm_X10_memberNamed [.int x] := by
  intro G w v K zc zm hw hv hJ
  obtain ⟨mc, dc, Y, ⟨hB, em, ed, eY⟩, ⟨hO, qm, qd, qY⟩, hC, hE, hI, hY⟩ := hJ.v
  have h8 : mc ≤ 8 := hI.1.2.1
  have h4 : dc ≤ 4 := hI.1.2.2.2.1
  refine ⟨_, _, fun sz => c_X9_memberNamed l G w K hw zc sz x hB, fun sz => c_X10_memberNamed l G v hv zm sz x hO, ?_⟩
  rintro a b z1 z2 ⟨rfl, rfl⟩ ⟨rfl, rfl⟩
  refine ⟨?_, hJ.u0 _⟩
  unfold fM
  rw [em, qm]
  refine xff_cong (fun j _ h2 => ?_)
  rw [(hE.2.2.1 j (by omega)).1, Nat.zero_add]
set_option maxRecDepth 100000 in
set_option maxHeartbeats 1000000 in
theorem s_departmentNamed (l : Launch) (x : Int32) : lP l jJ yX9_departmentNamed cX9_departmentNamed 2 (some FieldType.int) rm_X9_departmentNamed yX10_departmentNamed cX10_departmentNamed 2 (some FieldType.int) rm_X10_departmentNamed [.int x] := by
  intro G w v K zc zm hw hv hJ
  obtain ⟨mc, dc, Y, ⟨hB, em, ed, eY⟩, ⟨hO, qm, qd, qY⟩, hC, hE, hI, hY⟩ := hJ.v
  have h8 : mc ≤ 8 := hI.1.2.1
  have h4 : dc ≤ 4 := hI.1.2.2.2.1
  refine ⟨_, _, fun sz => c_X9_departmentNamed l G w K hw zc sz x hB, fun sz => c_X10_departmentNamed l G v hv zm sz x hO, ?_⟩
  rintro a b z1 z2 ⟨rfl, rfl⟩ ⟨rfl, rfl⟩
  refine ⟨?_, hJ.u0 _⟩
  unfold fD
  rw [ed, qd]
  refine xff_cong (fun j _ h2 => ?_)
  rw [(hE.2.2.2.2.2.2.2 j (by omega)).1]
set_option maxRecDepth 100000 in
set_option maxHeartbeats 1000000 in
theorem s_getSetting (l : Launch) (x : Int32) : lP l jJ yX9_getSetting cX9_getSetting 2 (some FieldType.int) rm_X9_getSetting yX10_getSetting cX10_getSetting 2 (some FieldType.int) rm_X10_getSetting [.int x] := by
  intro G w v K zc zm hw hv hJ
  obtain ⟨mc, dc, Y, ⟨hB, em, ed, eY⟩, ⟨hO, qm, qd, qY⟩, hC, hE, hI, hY⟩ := hJ.v
  have h8 : mc ≤ 8 := hI.1.2.1
  have h4 : dc ≤ 4 := hI.1.2.2.2.1
  refine ⟨_, _, fun sz => c_X9_getSetting l G w K hw zc sz x , fun sz => c_X10_getSetting l G v hv zm sz x , ?_⟩
  rintro a b z1 z2 ⟨rfl, rfl⟩ ⟨rfl, rfl⟩
  refine ⟨?_, hJ.u0 _⟩
  by_cases hy : inR x 5
  · obtain ⟨k, hk, rfl⟩ := inR_nat hy (by omega)
    rw [if_pos hy, if_pos hy, nI_clamp (by omega), Nat.zero_add]
    exact hE.2.1 k hk
  · rw [if_neg hy, if_neg hy]
set_option maxRecDepth 100000 in
set_option maxHeartbeats 1000000 in
theorem s_totalEquity (l : Launch) : lP l jJ yX9_totalEquity cX9_totalEquity 1 (some FieldType.int) rm_X9_totalEquity yX10_totalEquity cX10_totalEquity 3 (some FieldType.int) rm_X10_totalEquity [] := by
  intro G w v K zc zm hw hv hJ
  obtain ⟨mc, dc, Y, ⟨hB, em, ed, eY⟩, ⟨hO, qm, qd, qY⟩, hC, hE, hI, hY⟩ := hJ.v
  have h8 : mc ≤ 8 := hI.1.2.1
  have h4 : dc ≤ 4 := hI.1.2.2.2.1
  refine ⟨_, _, fun sz => c_X9_totalEquity l G w K hw zc sz  hB, fun sz => c_X10_totalEquity l G v hv zm sz  hO, ?_⟩
  rintro a b z1 z2 ⟨rfl, rfl⟩ ⟨rfl, rfl⟩
  refine ⟨?_, hJ.u0 _⟩
  rw [em, qm]
  exact eq_all hE
set_option maxRecDepth 100000 in
set_option maxHeartbeats 1000000 in
theorem s_reserve (l : Launch) : lP l jJ yX9_reserve cX9_reserve 1 (some FieldType.int) rm_X9_reserve yX10_reserve cX10_reserve 1 (some FieldType.int) rm_X10_reserve [] := by
  intro G w v K zc zm hw hv hJ
  obtain ⟨mc, dc, Y, ⟨hB, em, ed, eY⟩, ⟨hO, qm, qd, qY⟩, hC, hE, hI, hY⟩ := hJ.v
  have h8 : mc ≤ 8 := hI.1.2.1
  have h4 : dc ≤ 4 := hI.1.2.2.2.1
  refine ⟨_, _, fun sz => c_X9_reserve l G w K hw zc sz  , fun sz => c_X10_reserve l G v hv zm sz  , ?_⟩
  rintro a b z1 z2 ⟨rfl, rfl⟩ ⟨rfl, rfl⟩
  refine ⟨?_, hJ.u0 _⟩
  exact hE.1.2.2.2.1
set_option maxRecDepth 100000 in
set_option maxHeartbeats 1000000 in
theorem s_equityOfYear (l : Launch) (x : Int32) : lP l jJ yX9_equityOfYear cX9_equityOfYear 4 (some FieldType.int) rm_X9_equityOfYear yX10_equityOfYear cX10_equityOfYear 4 (some FieldType.int) rm_X10_equityOfYear [.int x] := by
  intro G w v K zc zm hw hv hJ
  obtain ⟨mc, dc, Y, ⟨hB, em, ed, eY⟩, ⟨hO, qm, qd, qY⟩, hC, hE, hI, hY⟩ := hJ.v
  have h8 : mc ≤ 8 := hI.1.2.1
  have h4 : dc ≤ 4 := hI.1.2.2.2.1
  refine ⟨_, _, fun sz => c_X9_equityOfYear l G w K hw zc sz x hB, fun sz => c_X10_equityOfYear l G v hv zm sz x hO, ?_⟩
  rintro a b z1 z2 ⟨rfl, rfl⟩ ⟨rfl, rfl⟩
  refine ⟨?_, hJ.u0 _⟩
  rw [em, qm, eY, qY]
  by_cases hy : inR x Y
  · obtain ⟨k, hk, rfl⟩ := inR_nat hy (by omega)
    rw [if_pos hy, if_pos hy, nI_clamp (by omega)]
    exact bx_cong (fun m hm => (hE.2.2.2.2.1 m k hm (by omega)).1)
  · rw [if_neg hy, if_neg hy]
set_option maxRecDepth 100000 in
set_option maxHeartbeats 1000000 in
theorem s_richest (l : Launch) : lP l jJ yX9_richest cX9_richest 5 (some FieldType.int) rm_X9_richest yX10_richest cX10_richest 3 (some FieldType.int) rm_X10_richest [] := by
  intro G w v K zc zm hw hv hJ
  obtain ⟨mc, dc, Y, ⟨hB, em, ed, eY⟩, ⟨hO, qm, qd, qY⟩, hC, hE, hI, hY⟩ := hJ.v
  have h8 : mc ≤ 8 := hI.1.2.1
  have h4 : dc ≤ 4 := hI.1.2.2.2.1
  refine ⟨_, _, fun sz => c_X9_richest l G w K hw zc sz  hB, fun sz => c_X10_richest l G v hv zm sz  hO, ?_⟩
  rintro a b z1 z2 ⟨rfl, rfl⟩ ⟨rfl, rfl⟩
  refine ⟨?_, hJ.u0 _⟩
  rw [em, qm, mxI_cong (fun m hm => eq_eq hE hm)]
set_option maxRecDepth 100000 in
set_option maxHeartbeats 1000000 in
theorem s_membersIn (l : Launch) (x : Int32) : lP l jJ yX9_membersIn cX9_membersIn 4 (some FieldType.int) rm_X9_membersIn yX10_membersIn cX10_membersIn 4 (some FieldType.int) rm_X10_membersIn [.int x] := by
  intro G w v K zc zm hw hv hJ
  obtain ⟨mc, dc, Y, ⟨hB, em, ed, eY⟩, ⟨hO, qm, qd, qY⟩, hC, hE, hI, hY⟩ := hJ.v
  have h8 : mc ≤ 8 := hI.1.2.1
  have h4 : dc ≤ 4 := hI.1.2.2.2.1
  refine ⟨_, _, fun sz => c_X9_membersIn l G w K hw zc sz x hB, fun sz => c_X10_membersIn l G v hv zm sz x hO, ?_⟩
  rintro a b z1 z2 ⟨rfl, rfl⟩ ⟨rfl, rfl⟩
  refine ⟨?_, hJ.u0 _⟩
  rw [em, qm, ctN_cong (q := fun m => decide (zm.1 4 (5 + m) = x)) (fun m hm => by rw [(hE.2.2.1 m hm).2.2.1])]
  have hh : (x = 0 ∨ x = nI 1 ∨ x = nI 2) ↔ (¬ x < 0 ∧ x ≤ nI 2) := st_iff x
  by_cases hk : x = 0 ∨ x = nI 1 ∨ x = nI 2
  · rw [if_pos hk, if_pos (hh.mp hk)]
  · rw [if_neg hk, if_neg (fun h => hk (hh.mpr h))]
set_option maxRecDepth 100000 in
set_option maxHeartbeats 1000000 in
theorem s_balance (l : Launch) : lP l jJ yX9_balance cX9_balance 1 (some FieldType.int) rm_X9_balance yX10_balance cX10_balance 3 (some FieldType.int) rm_X10_balance [] := by
  intro G w v K zc zm hw hv hJ
  obtain ⟨mc, dc, Y, ⟨hB, em, ed, eY⟩, ⟨hO, qm, qd, qY⟩, hC, hE, hI, hY⟩ := hJ.v
  have h8 : mc ≤ 8 := hI.1.2.1
  have h4 : dc ≤ 4 := hI.1.2.2.2.1
  refine ⟨_, _, fun sz => c_X9_balance l G w K hw zc sz  hB, fun sz => c_X10_balance l G v hv zm sz  hO, ?_⟩
  rintro a b z1 z2 ⟨rfl, rfl⟩ ⟨rfl, rfl⟩
  refine ⟨?_, hJ.u0 _⟩
  rw [em, bl_is, qm, ← hE.1.2.2.2.2.2, hE.1.2.2.2.2.1, bx_cong (n := mc) (f := fun m => z1.1 (oPd 0 m) 1) (g := fun m => zm.1 4 (445 + 3 * m + 1)) (fun m hm => hE.2.2.2.2.2.2.1 m 1 hm (by omega)), bx_cong (n := mc) (f := fun m => z1.1 (oPd 0 m) 2) (g := fun m => zm.1 4 (445 + 3 * m + 2)) (fun m hm => hE.2.2.2.2.2.2.1 m 2 hm (by omega))]
  exact i32_bal _ _ _ _ _
