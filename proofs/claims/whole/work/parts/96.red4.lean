/-! REDEMPTION: the plan of payments on both sides -/
theorem cS_12 {z : xSt} {b i : Nat} {L : List (Nat × Nat)} (hi : i < L.length) : (cS z b L).1 12 i = cAm z b L i ∧ (cS z b L).1 13 i = 0 ∧ (cS z b L).1 11 i = cYr L i := by
  unfold cS
  refine ⟨?_, ?_, ?_⟩
  · rw [ur_ne _ _ (by omega), ur_at, pre_lt hi]
  · rw [ur_at, pre_lt hi]
  · rw [ur_ne _ _ (by omega), ur_ne _ _ (by omega), ur_at, pre_lt hi]
theorem fpd_cong {p p2 o o2 : Nat → Int32} : ∀ {k i : Nat}, (∀ j, i ≤ j → j < i + k → p j = p2 j ∧ o j = o2 j) → fpd p o k i = fpd p2 o2 k i
  | 0, _, _ => rfl
  | k + 1, i, h => by
    obtain ⟨h1, h2⟩ := h i (Nat.le_refl i) (by omega)
    rw [fpd_s rfl, fpd_s rfl, h1, h2, fpd_cong (fun j a1 a2 => h j (by omega) (by omega))]
theorem fpd_0 {p o : Nat → Int32} : ∀ {k i : Nat}, (∀ j, i ≤ j → j < i + k → p j = 0) → fpd p o k i = -1
  | 0, _, _ => rfl
  | k + 1, i, h => by
    rw [fpd_s rfl, h i (Nat.le_refl i) (by omega), if_neg (by decide)]
    exact fpd_0 (fun j a1 a2 => h j (by omega) (by omega))
theorem bx_0 {f : Nat → Int32} : ∀ {n : Nat}, (∀ i, i < n → f i = 0) → bx_sum f n = 0
  | 0, _ => rfl
  | n + 1, h => by
    show bx_sum f n + f n = 0
    rw [bx_0 (fun i hi => h i (by omega)), h n (by omega)]
    rfl
def amN (z : xSt) (L : List (Nat × Nat)) (i : Nat) : Nat := (amt z L i).toNatClampNeg
theorem lp_lt {z : xSt} {mc dc Y : Nat} (hI : rI mc dc Y (z.1 2) (z.1 4)) (hm : mQ z 12 = mc) (T : Nat) (hT : T ≤ 24) : ltO (lcs z mc T) (amN z (lcs z mc T)) ∧ (∀ i, i < (lcs z mc T).length → amt z (lcs z mc T) i = nI (amN z (lcs z mc T) i)) ∧ ∀ i, i < (lcs z mc T).length → ((lcs z mc T).getD i (0, 0)).2 < mc ∧ ((lcs z mc T).getD i (0, 0)).1 < T := by
  have h8 : mc ≤ 8 := hI.1.2.1
  have hlen := lcs_len z h8 T
  have hb : ∀ i, i < (lcs z mc T).length → ((lcs z mc T).getD i (0, 0)).1 < T ∧ ((lcs z mc T).getD i (0, 0)).2 < mc := fun i hi => lcs_mem (getD_mem hi)
  have hN : ∀ i, i < (lcs z mc T).length → ∃ a, 1 ≤ a ∧ a ≤ 5000000 ∧ amt z (lcs z mc T) i = nI a := fun i hi => by
    obtain ⟨b1, b2⟩ := hb i hi
    have hp := lcs_pos (getD_mem hi)
    obtain ⟨a, ha, ea⟩ := (hI.2.2.2.2.1 ((lcs z mc T).getD i (0, 0)).2 ((lcs z mc T).getD i (0, 0)).1 (by omega) (by omega)).1
    refine ⟨a, ?_, ha, ea⟩
    rcases Nat.eq_zero_or_pos a with q | q
    · exact absurd (show lfQ z ((lcs z mc T).getD i (0, 0)).2 ((lcs z mc T).getD i (0, 0)).1 = 0 from by unfold lfQ; rw [ea, q]; rfl) hp
    · exact q
  refine ⟨⟨by omega, lcs_ord T, fun i hi => ?_⟩, fun i hi => ?_, fun i hi => ⟨(hb i hi).2, (hb i hi).1⟩⟩
  · obtain ⟨a, a1, a2, ea⟩ := hN i hi
    unfold amN
    rw [ea, nI_clamp (by omega)]
    exact ⟨a1, a2, by have := hb i hi; omega⟩
  · obtain ⟨a, a1, a2, ea⟩ := hN i hi
    unfold amN
    rw [ea, nI_clamp (by omega)]
theorem lS_s13 {z : xSt} {L : List (Nat × Nat)} {i : Nat} (hi : i < L.length) : (lS z L).1 13 i = 0 ∧ (lS z L).1 15 i = nI (L.getD i (0, 0)).1 ∧ amt (lS z L) L i = amt z L i := ⟨pre_lt (f := fun _ => (0 : Int32)) hi, pre_lt (f := cYr L) hi, rfl⟩
theorem cpy_0 {f g : Nat → Int32} {n i : Nat} (h : i < n) : va_cpy f g 0 0 n i = f i := by
  unfold va_cpy
  rw [if_pos ⟨Nat.zero_le i, by omega⟩, Nat.sub_zero, Nat.zero_add]
set_option maxHeartbeats 4000000 in
theorem pay_eq {zc z : xSt} {b mc dc Y B : Nat} (hE : eqB zc b mc dc (z.1 2) (z.1 4)) (hI : rI mc dc Y (z.1 2) (z.1 4)) (hY : Y < 200) (hB : B ≤ 10000000) :
    cts zc b mc 25 = lpL z Y ∧ lpOk z Y (nI B) ∧ plR zc b mc (nI B) = imin (lSum z (lpL z Y)) (nI B) ∧ (∀ i, i < (lpL z Y).length → (plZ zc b mc (nI B)).1 13 i = (lpZ z Y (nI B)).1 13 i ∧ isN ((lpZ z Y (nI B)).1 13 i) (amN z (lpL z Y) i)) ∧ (∃ T, T ≤ 10000000 ∧ imin (lSum z (lpL z Y)) (nI B) = nI T) ∧ (imin (lSum z (lpL z Y)) (nI B) = 0 → ∀ i, i < (lpL z Y).length → (lpZ z Y (nI B)).1 13 i = 0) ∧ ∀ i, i < (lpL z Y).length → ((lpL z Y).getD i (0, 0)).2 < mc ∧ ((lpL z Y).getD i (0, 0)).1 < 24 := by
  have h8 : mc ≤ 8 := hI.1.2.1
  have qm : mQ z 12 = mc := by unfold mQ; rw [hI.1.1, nI_clamp (by omega)]
  have eT := cts_lcs (N := 25) hE hI hY (Nat.le_refl 25)
  rw [show min 25 (min Y 24) = min Y 24 by omega] at eT
  have eL : lpL z Y = lcs z mc (yst z (min Y 24) 0) := by unfold lpL; rw [qm]
  rw [← eL] at eT
  have hTl := yst_le z (min Y 24) 0
  obtain ⟨hL, hA, hb⟩ := lp_lt hI qm (yst z (min Y 24) 0) (by omega)
  rw [← eL] at hL hA hb
  unfold lpOk plR plZ lpZ
  dsimp only
  rw [eT]
  generalize lpL z Y = L at *
  have hlen := hL.1
  have e4 : zc.1 (oSt b) 4 = z.1 4 4 := hE.2.1 4 (by omega)
  have eAm : ∀ i, i < L.length → cAm zc b L i = nI (amN z L i) := fun i hi => by
    rw [← hA i hi]
    exact (hE.2.2.2.2.1 _ _ (hb i hi).1 (by have := (hb i hi).2; omega)).1
  obtain ⟨b1, b2⟩ := hL.sum (f := 0) (n := L.length) (by omega)
  have e0 : sN (fun i => amN z L (0 + i)) L.length = sN (amN z L) L.length := sN_cong (fun i _ => by rw [Nat.zero_add])
  rw [e0] at b1 b2
  have eS : lSum z L = nI (sN (amN z L) L.length) := by rw [lSum_bx]; exact bx_sN hA
  have eC : cSum zc b L = nI (sN (amN z L) L.length) := by rw [cSum_bx]; exact bx_sN eAm
  rw [eS, eC, imin_nat (by omega) (by omega)]
  have sS : ltS L (amN z L) (lS z L) := fun i hi => ⟨(lS_s13 hi).2.1, by rw [(lS_s13 hi).2.2]; exact hA i hi⟩
  have s13 : ∀ i, i < L.length → (lS z L).1 13 i = 0 := fun i hi => (lS_s13 hi).1
  have c11 : ∀ i, i < L.length → (cS zc b L).1 11 i = nI (L.getD i (0, 0)).1 := fun i hi => (cS_12 hi).2.2
  have c12 : ∀ i, i < L.length → (cS zc b L).1 12 i = nI (amN z L i) := fun i hi => by rw [(cS_12 hi).1]; exact eAm i hi
  have c13 : ∀ i, i < L.length → (cS zc b L).1 13 i = 0 := fun i hi => (cS_12 hi).2.1
  have hA5 : ∀ i, i < L.length → amN z L i ≤ 5000000 := fun i hi => (hL.2.2 i hi).2.1
  have hA31 : ∀ i, i < L.length → amN z L i ≤ 2147483647 := fun i hi => by have := hA5 i hi; omega
  generalize hs : sN (amN z L) L.length = S at *
  have hT2 : min S B ≤ 1000000000 := by omega
  -- what the reference pays
  have hp1 : 0 < L.length → ∀ i, i < L.length → ∀ T, T ≤ S → (saQ (lS z L) L 0 L.length (nI T)).1 13 i = nI (shN (amN z L) L.length T i) := fun h0 i hi T hTS => by
    rw [saQ_13 (g := amN z L) (by omega) (fun i hi => by rw [Nat.zero_add]; exact (sS i (by omega)).2) (fun i hi => hA5 i (by omega)) (by omega) (by rw [Nat.sub_zero, hs]; exact b2 h0) (by rw [Nat.sub_zero, hs]; exact hTS), if_pos ⟨Nat.zero_le i, hi⟩]
    rfl
  have hq1 : 0 < L.length → ∀ i, i < L.length → ∀ T, T ≤ S → (psZ (cS zc b L) 0 L.length (nI T)).1 13 i = nI (shN (amN z L) L.length T i) := fun h0 i hi T hTS => by
    rw [psZ_13 (g := amN z L) (by omega) (fun i hi => by rw [Nat.zero_add]; exact c12 i (by omega)) (fun i hi => hA5 i (by omega)) (by omega) (by rw [Nat.sub_zero, hs]; exact b2 h0) (by rw [Nat.sub_zero, hs]; exact hTS), if_pos ⟨Nat.zero_le i, hi⟩]
    rfl
  refine ⟨rfl, ⟨fun _ => pb_ok hL _ _ _ _ sS hT2, fun _ _ => shA_of (by omega) (fun k _ hk => ⟨amN z L k, by have := hA5 k hk; omega, (sS k hk).2⟩) (by omega), fun _ _ k hk => ?_⟩, ?_, fun i hi => ?_, ⟨min S B, by omega, rfl⟩, fun h0 i hi => ?_, fun i hi => ⟨(hb i hi).1, by have := (hb i hi).2; omega⟩⟩
  · rw [(sS k hk).2]; exact nI_0lt (hL.2.2 k hk).1 (by have := hA5 k hk; omega)
  · by_cases c : S ≤ B
    · rw [if_pos (nI_le c (by omega)), Nat.min_eq_left c]
    · rw [if_neg (fun q => by
        have q := Int32.le_iff_toInt_le.mp q
        rw [nI_toInt (by omega), nI_toInt (by omega)] at q
        omega), Nat.min_eq_right (by omega)]
  · have h0 : 0 < L.length := by omega
    by_cases c : S ≤ B
    · rw [if_pos (nI_le c (by omega)), Nat.min_eq_left c]
      have eP : (ur (cS zc b L) 13 (va_cpy ((cS zc b L).1 12) ((cS zc b L).1 13) 0 0 L.length)).1 13 i = nI (amN z L i) := by
        rw [ur_at]
        rw [cpy_0 hi]; exact c12 i hi
      have eR : (if z.1 4 4 = 0 then pbQ L L.length (lS z L) 0 (nI S) else if z.1 4 4 = nI 1 then saQ (lS z L) L 0 L.length (nI S) else ur (lS z L) 13 (psm (amt z L) L.length L.length ((lS z L).1 13) (nI S)).1).1 13 i = nI (amN z L i) := by
        by_cases p0 : z.1 4 4 = 0
        · rw [if_pos p0]
          have := pb_full hL L.length (lS z L) 0 sS (by omega) (Nat.zero_le _) (fun i hi => absurd hi (Nat.not_lt_zero i)) i hi
          rw [Nat.sub_zero, e0] at this
          exact this
        · rw [if_neg p0]
          by_cases p1 : z.1 4 4 = nI 1
          · rw [if_pos p1, hp1 h0 i hi S (Nat.le_refl S), ← hs, shN_all hlen hA31 (by omega) (by rw [hs]; exact b2 h0) hi]
          · rw [if_neg p1, ur_at]
            refine psm_full (P := fun _ => 0) hA (fun i hi => ⟨(hL.2.2 i hi).1, hA5 i hi⟩) (by omega) (fun i hi => ⟨s13 i hi, Or.inl rfl⟩) ?_ ?_ i hi
            · rw [← hs]; exact sN_cong (fun i _ => (if_pos rfl).symm)
            · have := sN_bd (g := fun i : Nat => if (fun _ : Nat => (0 : Nat)) i = 0 then 1 else 0) (B := 1) (n := L.length) (fun i _ => by rw [if_pos rfl]; exact Nat.le_refl 1)
              rw [Nat.mul_one] at this
              exact this
      rw [eP, eR]
      exact ⟨rfl, _, Nat.le_refl _, rfl⟩
    · have cn : ¬ nI S ≤ nI B := fun q => by
        have q := Int32.le_iff_toInt_le.mp q
        rw [nI_toInt (by omega), nI_toInt (by omega)] at q
        omega
      rw [if_neg cn, Nat.min_eq_right (by omega), e4]
      by_cases p0 : z.1 4 4 = 0
      · rw [if_pos p0, if_pos p0]
        obtain ⟨q1, q2⟩ := pb_agree hL c11 c12 c13 sS s13 (R := B) (by omega) i hi
        rw [← q1]
        exact ⟨rfl, q2⟩
      · rw [if_neg p0, if_neg p0]
        by_cases p1 : z.1 4 4 = nI 1
        · rw [if_pos p1, if_pos (show z.1 4 4 = 1 from p1), hp1 h0 i hi B (by omega), hq1 h0 i hi B (by omega)]
          exact ⟨rfl, _, (shN_cap hlen hA31 (by omega) (by rw [hs]; exact b2 h0) (by omega) hi).2, rfl⟩
        · rw [if_neg p1, if_neg (show ¬ z.1 4 4 = 1 from p1), ur_at, ur_at]
          refine ⟨psm_cong (fun i hi => by rw [c12 i hi, hA i hi]) (fun i hi => by rw [c13 i hi, s13 i hi]) i hi, psm_cap hA hA5 (by omega) (fun i hi => ⟨0, Nat.zero_le _, s13 i hi⟩) i hi⟩
  · have h1 : min S B = 0 := nI_inj (by omega) (by omega) h0
    rw [h1]
    by_cases p0 : z.1 4 4 = 0
    · rw [if_pos p0]; exact pb_zero hL sS s13 i hi
    · rw [if_neg p0]
      by_cases p1 : z.1 4 4 = nI 1
      · rw [if_pos p1, hp1 (by omega) i hi 0 (Nat.zero_le _), shN_0 hlen hA31 (by rw [hs]; exact b2 (by omega)) hi]
        rfl
      · rw [if_neg p1, ur_at, psm_no (by decide)]
        exact s13 i hi
