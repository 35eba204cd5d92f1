/-! THE REFERENCE: names and figures -/
theorem fi_k {z : xSt} {P : Prop} [Decidable P] {c : Int32} {k : Nat} (h1 : k ≠ 26) (h2 : k ≠ 27) : (fiZ z P c).1 0 k = z.1 0 k := by
  unfold fiZ; split
  · rw [u1_sne _ _ _ h2, u1_sne _ _ _ h1]
  · rfl
theorem fi_o {z : xSt} {P : Prop} [Decidable P] {c : Int32} {o : Nat} (h : o ≠ 0) : (fiZ z P c).1 o = z.1 o := by
  unfold fiZ; split
  · rw [u1_ne _ h, u1_ne _ h]
  · rfl
theorem fi_2 {z : xSt} {P : Prop} [Decidable P] {c : Int32} : (fiZ z P c).2 = z.2 := by unfold fiZ; split <;> rfl
/-- no error afterwards: none before, and the reason did not hold -/
theorem fi_e {z : xSt} {P : Prop} [Decidable P] {c : Int32} (hc : c ≠ 0) (h : (fiZ z P c).1 0 26 = 0) : z.1 0 26 = 0 ∧ ¬ P := by
  unfold fiZ at h
  split at h
  · exact absurd h (by rw [u1_sne _ _ _ (by decide), u1_at, va_up_self]; exact hc)
  · rename_i hn; exact ⟨h, fun q => hn ⟨h, q⟩⟩
theorem fi_n {z : xSt} {P : Prop} [Decidable P] {c : Int32} (h : ¬ P) : fiZ z P c = z := if_neg (fun q => h q.2)
/-- only row 0 changes -/
def fr0 (z z2 : xSt) : Prop := (∀ o, o ≠ 0 → z2.1 o = z.1 o) ∧ z2.2 = z.2
theorem fr0.r0 {z : xSt} : fr0 z z := ⟨fun _ _ => rfl, rfl⟩
theorem fr0.tr {a b c : xSt} (h : fr0 a b) (g : fr0 b c) : fr0 a c := ⟨fun o ho => (g.1 o ho).trans (h.1 o ho), g.2.trans h.2⟩
theorem fr0.ok {z z2 : xSt} (h : fr0 z z2) (o : rOk z) : rOk z2 := o.of (h.1 2 (by decide)) (h.1 4 (by decide))
theorem fr0.u {z z2 : xSt} (h : fr0 z z2) (k : Nat) (v : Int32) : fr0 z (u1 z2 0 k v) := ⟨fun o ho => (u1_ne _ ho).trans (h.1 o ho), h.2⟩
theorem fi_fr (z : xSt) (P : Prop) [Decidable P] (c : Int32) : fr0 z (fiZ z P c) := ⟨fun _ ho => fi_o ho, fi_2⟩
theorem rq_fr (z : xSt) (a p t v : Int32) : fr0 z (RQr z a p t v) := ⟨fun _ ho => ur_ne _ _ ho, rfl⟩
theorem nq_fr (z : xSt) : fr0 z (nqZ z) := by
  unfold nqZ
  split
  · exact rq_fr ..
  · split
    · exact rq_fr ..
    · split <;> exact rq_fr ..
theorem rq_k {z : xSt} {a p t v : Int32} {k : Nat} (h : k < 21 ∨ 24 < k) : (RQr z a p t v).1 0 k = z.1 0 k := by
  unfold RQr
  rw [ur_at, va_up_ne _ _ (by omega), va_up_ne _ _ (by omega), va_up_ne _ _ (by omega), va_up_ne _ _ (by omega)]
theorem nq_k {z : xSt} {k : Nat} (h : k < 21 ∨ 24 < k) : (nqZ z).1 0 k = z.1 0 k := by
  unfold nqZ
  split
  · exact rq_k h
  · split
    · exact rq_k h
    · split <;> exact rq_k h
theorem go_fr (z : xSt) : fr0 z (goZ z) := by unfold goZ; split <;> first | exact nq_fr z | exact fr0.r0
theorem go_k {z : xSt} {k : Nat} (h : k < 21 ∨ 24 < k) : (goZ z).1 0 k = z.1 0 k := by
  unfold goZ; split
  · exact nq_k h
  · rfl
def pQ (z : xSt) : Nat := (z.1 0 22).toNatClampNeg
def wok (x : Int32) : Prop := x = (-1) ∨ ∃ n : Nat, n ≤ 10 ∧ x = nI n
def zOk (z : xSt) : Prop := zPr z ∧ z.1 0 22 = nI (pQ z) ∧ pQ z ≤ aQ z ∧ (z.1 0 23 = 0 → wok (z.1 0 24))
theorem zOk.of {z z2 : xSt} (h : zOk z) (e : ∀ k, 20 ≤ k → k ≤ 24 → z2.1 0 k = z.1 0 k) : zOk z2 := by
  unfold zOk zPr pQ aQ sQ at h ⊢
  rw [e 20 (by omega) (by omega), e 21 (by omega) (by omega), e 22 (by omega) (by omega), e 23 (by omega) (by omega), e 24 (by omega) (by omega)]
  exact h
theorem zOk.fi {z : xSt} {P : Prop} [Decidable P] {c : Int32} (h : zOk z) : zOk (fiZ z P c) := h.of (fun k h1 h2 => fi_k (by omega) (by omega))
theorem wsQ_b (r : Nat → Int32) (n : Nat) : ∀ k a, a ≤ wsQ r n k a ∧ wsQ r n k a ≤ a + k
  | 0, a => ⟨Nat.le_refl _, Nat.le_refl _⟩
  | k + 1, a => by
    have h := wsQ_b r n k (a + 1)
    rw [wsQ_s rfl]
    split <;> omega
theorem smQ_b (r : Nat → Int32) (n : Nat) : ∀ k a, a ≤ smQ r n k a ∧ smQ r n k a ≤ a + k
  | 0, a => ⟨Nat.le_refl _, Nat.le_refl _⟩
  | k + 1, a => by
    have h := smQ_b r n k (a + 1)
    rw [smQ_s rfl]
    split <;> omega
theorem dgR_b (r : Nat → Int32) (n : Nat) : ∀ k a v, a ≤ (dgR r n k a v).1 ∧ (dgR r n k a v).1 ≤ a + k
  | 0, a, _ => ⟨Nat.le_refl _, Nat.le_refl _⟩
  | k + 1, a, v => by
    rw [dgR_s rfl]
    split
    · have h := dgR_b r n k (a + 1) (if v ≤ nI 10000000 then nI 10 * v + hQ r n a - nI 48 else v)
      omega
    · exact ⟨Nat.le_refl _, Nat.le_add_right _ _⟩
theorem wdQ_w (r : Nat → Int32) (p a : Nat) : wok (wdQ r p a 71 0 0) := by
  have st : ∀ {f n k k2 : Nat}, n ≤ 10 → skS (70 - k) k + 1 = k2 → wok (wdQ r p a f (n + 1) k2) → wok (wdQ r p a (f + 1) n k) := by
    intro f n k k2 hn hk h
    rw [wdQ_s rfl, hk]
    split
    · split
      · exact Or.inr ⟨n, hn, rfl⟩
      · exact h
    · exact Or.inl rfl
  refine st (k2 := 7) (by decide) (by decide) (st (k2 := 15) (by decide) (by decide) (st (k2 := 21) (by decide) (by decide) (st (k2 := 27) (by decide) (by decide) (st (k2 := 31) (by decide) (by decide) (st (k2 := 39) (by decide) (by decide) (st (k2 := 44) (by decide) (by decide) (st (k2 := 52) (by decide) (by decide) (st (k2 := 58) (by decide) (by decide) (st (k2 := 63) (by decide) (by decide) (st (k2 := 70) (by decide) (by decide) ?_))))))))))
  rw [wdQ_e (by decide)]; exact Or.inl rfl
theorem rq_ok {z : xSt} {a p : Nat} {t v : Int32} (h : zPr z) (hp : p ≤ a) (ha : a ≤ sQ z) (hw : t = 0 → wok v) : zOk (RQr z (nI a) (nI p) t v) := by
  have h9 := h.2.2.2
  have e1 : aQ (RQr z (nI a) (nI p) t v) = a := by show (nI a).toNatClampNeg = _; exact nI_clamp (by omega)
  have e2 : pQ (RQr z (nI a) (nI p) t v) = p := by show (nI p).toNatClampNeg = _; exact nI_clamp (by omega)
  have e3 : sQ (RQr z (nI a) (nI p) t v) = sQ z := rfl
  refine ⟨⟨?_, ?_, ?_, ?_⟩, ?_, ?_, ?_⟩
  · rw [e1]; rfl
  · rw [e3]; exact h.2.1
  · rw [e1, e3]; exact ha
  · rw [e3]; exact h9
  · rw [e2]; rfl
  · rw [e1, e2]; exact hp
  · exact hw
theorem nq_ok {z : xSt} (h : zPr z) : zOk (nqZ z) := by
  have h3 := h.2.2.1
  have b1 := wsQ_b (z.1 1) (sQ z) (sQ z - aQ z) (aQ z)
  have e1 : wsQ (z.1 1) (sQ z) (sQ z - aQ z) (aQ z) = nqS z := rfl
  rw [e1] at b1
  have b2 := smQ_b (z.1 1) (sQ z) (sQ z - nqS z) (nqS z)
  have e2 : smQ (z.1 1) (sQ z) (sQ z - nqS z) (nqS z) = nqW z := rfl
  rw [e2] at b2
  have b3 := dgR_b (z.1 1) (sQ z) (sQ z - nqS z) (nqS z) (nI 0)
  have e3 : dgR (z.1 1) (sQ z) (sQ z - nqS z) (nqS z) (nI 0) = nqD z := rfl
  rw [e3] at b3
  unfold nqZ
  split
  · exact rq_ok h (Nat.le_refl _) (by omega) (fun q => absurd q (by decide))
  · rename_i hc
    have hl : nqS z < sQ z := hQ_lt hc
    split
    · exact rq_ok h (by omega) (by omega) (fun _ => wdQ_w ..)
    · split
      · exact rq_ok h (by omega) (by omega) (fun q => absurd q (by decide))
      · refine rq_ok h (by omega) (by omega) (fun q => ?_)
        split at q
        · exact absurd q (by decide)
        · split at q <;> exact absurd q (by decide)
theorem go_ok {z : xSt} (h : zOk z) : zOk (goZ z) := by
  unfold goZ; split
  · exact nq_ok h.1
  · exact h
def fgZ (z : xSt) (lo hi : Int32) : xSt := fiZ (fiZ z (¬ z.1 0 23 = nI 1) (-11)) (z.1 0 24 < lo ∨ ¬ z.1 0 24 ≤ hi) (-12)
def fgR (z : xSt) (lo hi : Int32) : Int32 := if (fgZ z lo hi).1 0 26 = 0 then z.1 0 24 else lo
theorem fg_fr (z : xSt) (lo hi : Int32) : fr0 z (fgZ z lo hi) := (fi_fr ..).tr (fi_fr ..)
theorem fg_ok {z : xSt} {lo hi : Int32} (h : zOk z) : zOk (fgZ z lo hi) := h.fi.fi
theorem fg_e {z : xSt} {lo hi : Int32} (h : (fgZ z lo hi).1 0 26 = 0) : z.1 0 26 = 0 := (fi_e (by decide) (fi_e (by decide) h).1).1
def ltQ (z : xSt) : Nat → Int32
  | 0 => nI 0
  | k + 1 => (ltQ z k <<< (nI 5 &&& 31)) ||| (if pQ z + k < aQ z then z.1 1 (pQ z + k) - nI 97 + nI 1 else nI 0)
theorem ltQ_y {z : xSt} {k : Nat} (h : pQ z + k < aQ z) : ltQ z (k + 1) = (ltQ z k <<< (nI 5 &&& 31)) ||| (z.1 1 (pQ z + k) - nI 97 + nI 1) := by
  show (ltQ z k <<< (nI 5 &&& 31)) ||| (if pQ z + k < aQ z then z.1 1 (pQ z + k) - nI 97 + nI 1 else nI 0) = _
  rw [if_pos h]
theorem ltQ_n {z : xSt} {k : Nat} (h : ¬ pQ z + k < aQ z) : ltQ z (k + 1) = (ltQ z k <<< (nI 5 &&& 31)) ||| nI 0 := by
  show (ltQ z k <<< (nI 5 &&& 31)) ||| (if pQ z + k < aQ z then z.1 1 (pQ z + k) - nI 97 + nI 1 else nI 0) = _
  rw [if_neg h]
def snP (z : xSt) : xSt := fiZ z (¬ z.1 0 23 = 0 ∨ ¬ z.1 0 24 = (-1) ∨ ¬ aQ z - pQ z ≤ 6) (-11)
def snZ (z : xSt) : xSt := if (fiZ z (¬ z.1 0 23 = 0 ∨ ¬ z.1 0 24 = (-1) ∨ ¬ aQ z - pQ z ≤ 6) (-11)).1 0 26 = 0 then u1 (fiZ z (¬ z.1 0 23 = 0 ∨ ¬ z.1 0 24 = (-1) ∨ ¬ aQ z - pQ z ≤ 6) (-11)) 0 25 (ltQ z 6) else u1 (fiZ z (¬ z.1 0 23 = 0 ∨ ¬ z.1 0 24 = (-1) ∨ ¬ aQ z - pQ z ≤ 6) (-11)) 0 25 0
theorem sn_k {z : xSt} {k : Nat} (h : k ≠ 25) : (snZ z).1 0 k = (snP z).1 0 k := by
  unfold snZ; split <;> exact u1_sne _ _ _ h
theorem sn_fr (z : xSt) : fr0 z (snZ z) := by
  unfold snZ; split <;> exact (fi_fr ..).u 25 _
theorem sn_ok {z : xSt} (h : zOk z) : zOk (snZ z) := h.of (fun k h1 h2 => by rw [sn_k (by omega)]; exact fi_k (by omega) (by omega))
theorem sn_e {z : xSt} (h : (snZ z).1 0 26 = 0) : z.1 0 26 = 0 := by
  rw [sn_k (by decide)] at h
  exact (fi_e (by decide) h).1
abbrev hdQ (z : xSt) : Prop := ¬ xff (fun k => decide (z.1 2 (0 + k) = z.1 0 25)) (mQ z 12) 0 = (-1) ∨ ¬ xff (fun k => decide (z.1 2 (8 + k) = z.1 0 25)) (mQ z 13) 0 = (-1)
def nnZ (z : xSt) : xSt := goZ (fiZ (snZ z) ((snZ z).1 0 26 = 0 ∧ hdQ (snZ z)) (-14))
theorem nn_25 (z : xSt) : (nnZ z).1 0 25 = (snZ z).1 0 25 := by
  unfold nnZ; rw [go_k (by decide), fi_k (by decide) (by decide)]
theorem nn_fr (z : xSt) : fr0 z (nnZ z) := ((sn_fr z).tr (fi_fr ..)).tr (go_fr _)
theorem nn_ok {z : xSt} (h : zOk z) : zOk (nnZ z) := go_ok (sn_ok h).fi
theorem nn_e {z : xSt} (h : (nnZ z).1 0 26 = 0) : z.1 0 26 = 0 := by
  unfold nnZ at h
  rw [go_k (by decide)] at h
  exact sn_e (fi_e (by decide) h).1
def onX (z : xSt) (f n : Nat) : Int32 := if (snZ z).1 0 26 = 0 then xff (fun k => decide ((snZ z).1 2 (f + k) = (snZ z).1 0 25)) n 0 else 0
def onZ (z : xSt) (f n : Nat) : xSt := goZ (fiZ (snZ z) (onX z f n = (-1)) (-13))
def onR (z : xSt) (f n : Nat) : Nat := if (onZ z f n).1 0 26 = 0 then (onX z f n).toNatClampNeg else 0
theorem on_fr (z : xSt) (f n : Nat) : fr0 z (onZ z f n) := ((sn_fr z).tr (fi_fr ..)).tr (go_fr _)
theorem on_ok {z : xSt} {f n : Nat} (h : zOk z) : zOk (onZ z f n) := go_ok (sn_ok h).fi
theorem xff_m {p : Nat → Bool} : ∀ {n i : Nat}, i + n < 1000 → xff p n i = (-1) ∨ ¬ xff p n i < 0
  | 0, _, _ => Or.inl rfl
  | n + 1, i, h => by
    rw [xff_s rfl]
    split
    · exact Or.inr (nI_pos (by omega))
    · exact xff_m (by omega)
theorem on_e {z : xSt} {f n : Nat} (hn : n ≤ 8) (h : (onZ z f n).1 0 26 = 0) : z.1 0 26 = 0 ∧ onX z f n = nI (onR z f n) ∧ onR z f n < n := by
  have h0 := h
  unfold onZ at h
  rw [go_k (by decide)] at h
  have h1 := fi_e (by decide) h
  have e : onX z f n = xff (fun k => decide ((snZ z).1 2 (f + k) = (snZ z).1 0 25)) n 0 := if_pos h1.1
  have h2 := xff_k hn ((xff_m (p := fun k => decide ((snZ z).1 2 (f + k) = (snZ z).1 0 25)) (n := n) (i := 0) (by omega)).resolve_left (fun q => h1.2 (e.trans q)))
  rw [← e] at h2
  have e2 : onR z f n = (onX z f n).toNatClampNeg := if_pos h0
  rw [e2]
  exact ⟨sn_e h1.1, h2.1, h2.2⟩
theorem on_n {z : xSt} {f n : Nat} (h : ¬ (onZ z f n).1 0 26 = 0) : onR z f n = 0 := if_neg h
theorem on_lt {z : xSt} {f n : Nat} (hn : n ≤ 8) : onR z f n < 8 := by
  by_cases h : (onZ z f n).1 0 26 = 0
  · have := (on_e hn h).2.2; omega
  · rw [on_n h]; omega
def rm_X10_figure : Room := { frames := 1, cells := 0, slots := 0, locals := 22 }
set_option maxRecDepth 100000 in
set_option maxHeartbeats 4000000 in
theorem c_X10_figure (l : Launch) (G : xGl) (w : xWd) (hw : isM w) (z : xSt) (sz : Nat) (lo : Int32) (hi : Int32)  : xMi l yX10_figure cX10_figure 3 (some FieldType.int) rm_X10_figure G w z sz [.ref (w.2.2 0), .int lo, .int hi] (fun r z1 => r = fgR z lo hi ∧ z1 = fgZ z lo hi) := by
  refine x_mi (by decide) (Nat.le_of_ble_eq_true rfl) ?_
  intro p e s mt args below meth c ls Q hsz X hR hS hl hret
  obtain ⟨hx, hcb, hml, hown, hts, hlk, hK, hZ⟩ := X
  have hl : lv_has ls 3 [(0, .ref (w.2.2 0)), (1, .int lo), (2, .int hi)] := hl
  refine lv_aload_n hx hcb dX10_figure_0 rfl (lv_at hl 0 rfl) ?_
  refine lv_aload_n hx hcb dX10_figure_1 rfl (lv_at hl 0 rfl) ?_
  refine x_getI hx hcb hts hown hK xc10 hR (hw.lo (by decide)) (hw.s0 rfl) 23 (by decide) rfl q_1189 dX10_figure_2 ?_
  refine lv_iconst (v := (nI 1)) hx hcb dX10_figure_5 (by decide) ?_
  refine lv_icmp_eq (tgt := 13) hx hcb dX10_figure_6 (by decide) (fun c_1 => ?_) (fun c_1 => ?_)
  · skip
    have hA_ : ¬ ¬ z.1 0 23 = nI 1 := fun q_ => q_ c_1
    refine lv_iconst (v := (nI 0)) hx hcb dX10_figure_13 (by decide) ?_
    refine lv_bipush (v := (-11)) hx hcb dX10_figure_14 (by decide) ?_
    refine x_cv0 rfl rfl (x_runV hx hcb hml hown hts (c_X10_failsIf l G w hw z _ 0 (-11) (¬ z.1 0 23 = nI 1) (by first | (rw [if_pos hA_]; first | done | rfl) | (rw [if_neg hA_]; first | done | rfl))) mv_X10_failsIf q_1308 hK hZ hR hS (hw.lo (by decide)) xc10 (hw.s0 rfl) rfl hl.1 rfl (Nat.le_of_ble_eq_true rfl) dX10_figure_16 ⟨by decide, by decide⟩ ⟨by decide, by decide⟩) hS (fun z_3 H locs hp_4 hR hS => ?_)
    rw [hp_4] at hR
    refine lv_aload_n hx hcb dX10_figure_19 rfl (lv_at hl 0 rfl) ?_
    refine lv_aload_n hx hcb dX10_figure_20 rfl (lv_at hl 0 rfl) ?_
    refine x_getI hx hcb hts hown hK xc10 hR (hw.lo (by decide)) (hw.s0 rfl) 24 (by decide) rfl q_1190 dX10_figure_21 ?_
    refine x_top (show ((fiZ z (¬ z.1 0 23 = nI 1) (-11)).1 0 24) = (z.1 0 24) from fi_k (by decide) (by decide)) ?_
    refine lv_iload_n hx hcb dX10_figure_24 rfl (lv_at hl 1 rfl) ?_
    refine lv_icmp_lt (tgt := 36) hx hcb dX10_figure_25 (by decide) (fun c_5 => ?_) (fun c_5 => ?_)
    · skip
      have hB_ : z.1 0 24 < lo ∨ ¬ z.1 0 24 ≤ hi := Or.inl c_5
      refine lv_iconst (v := (nI 1)) hx hcb dX10_figure_36 (by decide) ?_
      refine lv_goto (tgt := 41) hx hcb dX10_figure_37 (by decide) ?_
      refine lv_bipush (v := (-12)) hx hcb dX10_figure_41 (by decide) ?_
      refine x_cv0 rfl rfl (x_runV hx hcb hml hown hts (c_X10_failsIf l G w hw (fiZ z (¬ z.1 0 23 = nI 1) (-11)) _ 1 (-12) (z.1 0 24 < lo ∨ ¬ z.1 0 24 ≤ hi) (by first | (rw [if_pos hB_]; first | done | rfl) | (rw [if_neg hB_]; first | done | rfl))) mv_X10_failsIf q_1308 hK hZ hR hS (hw.lo (by decide)) xc10 (hw.s0 rfl) rfl hl.1 rfl (Nat.le_of_ble_eq_true rfl) dX10_figure_43 ⟨by decide, by decide⟩ ⟨by decide, by decide⟩) hS (fun z_7 H locs hp_8 hR hS => ?_)
      rw [hp_8] at hR
      refine lv_aload_n hx hcb dX10_figure_46 rfl (lv_at hl 0 rfl) ?_
      refine x_getI hx hcb hts hown hK xc10 hR (hw.lo (by decide)) (hw.s0 rfl) 26 (by decide) rfl q_1192 dX10_figure_47 ?_
      refine lv_if_ne (tgt := 60) hx hcb dX10_figure_50 (by decide) (fun c_9 => ?_) (fun c_9 => ?_)
      · skip
        have hE_ : ¬ (fgZ z lo hi).1 0 26 = 0 := c_9
        refine lv_iload_n hx hcb dX10_figure_60 rfl (lv_at hl 1 rfl) ?_
        exact hret lo (fiZ (fiZ z (¬ z.1 0 23 = nI 1) (-11)) (z.1 0 24 < lo ∨ ¬ z.1 0 24 ≤ hi) (-12)) _ _ _ _ dX10_figure_61 rfl hR hS (⟨by unfold fgR; first | rw [if_pos hE_] | rw [if_neg hE_], rfl⟩)
      · skip
        have hE_ : (fgZ z lo hi).1 0 26 = 0 := c_9
        refine lv_aload_n hx hcb dX10_figure_53 rfl (lv_at hl 0 rfl) ?_
        refine x_getI hx hcb hts hown hK xc10 hR (hw.lo (by decide)) (hw.s0 rfl) 24 (by decide) rfl q_1190 dX10_figure_54 ?_
        refine x_top (show ((fiZ (fiZ z (¬ z.1 0 23 = nI 1) (-11)) (z.1 0 24 < lo ∨ ¬ z.1 0 24 ≤ hi) (-12)).1 0 24) = (z.1 0 24) from (fi_k (by decide) (by decide)).trans (fi_k (by decide) (by decide))) ?_
        refine lv_goto (tgt := 61) hx hcb dX10_figure_57 (by decide) ?_
        exact hret (z.1 0 24) (fiZ (fiZ z (¬ z.1 0 23 = nI 1) (-11)) (z.1 0 24 < lo ∨ ¬ z.1 0 24 ≤ hi) (-12)) _ _ _ _ dX10_figure_61 rfl hR hS (⟨by unfold fgR; first | rw [if_pos hE_] | rw [if_neg hE_], rfl⟩)
    · skip
      have hB0_ := c_5
      refine lv_aload_n hx hcb dX10_figure_28 rfl (lv_at hl 0 rfl) ?_
      refine x_getI hx hcb hts hown hK xc10 hR (hw.lo (by decide)) (hw.s0 rfl) 24 (by decide) rfl q_1190 dX10_figure_29 ?_
      refine x_top (show ((fiZ z (¬ z.1 0 23 = nI 1) (-11)).1 0 24) = (z.1 0 24) from fi_k (by decide) (by decide)) ?_
      refine lv_iload_n hx hcb dX10_figure_32 rfl (lv_at hl 2 rfl) ?_
      refine lv_icmp_le (tgt := 40) hx hcb dX10_figure_33 (by decide) (fun c_10 => ?_) (fun c_10 => ?_)
      · skip
        have hB_ : ¬ (z.1 0 24 < lo ∨ ¬ z.1 0 24 ≤ hi) := fun q_ => q_.elim hB0_ (fun t_ => t_ c_10)
        refine lv_iconst (v := (nI 0)) hx hcb dX10_figure_40 (by decide) ?_
        refine lv_bipush (v := (-12)) hx hcb dX10_figure_41 (by decide) ?_
        refine x_cv0 rfl rfl (x_runV hx hcb hml hown hts (c_X10_failsIf l G w hw (fiZ z (¬ z.1 0 23 = nI 1) (-11)) _ 0 (-12) (z.1 0 24 < lo ∨ ¬ z.1 0 24 ≤ hi) (by first | (rw [if_pos hB_]; first | done | rfl) | (rw [if_neg hB_]; first | done | rfl))) mv_X10_failsIf q_1308 hK hZ hR hS (hw.lo (by decide)) xc10 (hw.s0 rfl) rfl hl.1 rfl (Nat.le_of_ble_eq_true rfl) dX10_figure_43 ⟨by decide, by decide⟩ ⟨by decide, by decide⟩) hS (fun z_12 H locs hp_13 hR hS => ?_)
        rw [hp_13] at hR
        refine lv_aload_n hx hcb dX10_figure_46 rfl (lv_at hl 0 rfl) ?_
        refine x_getI hx hcb hts hown hK xc10 hR (hw.lo (by decide)) (hw.s0 rfl) 26 (by decide) rfl q_1192 dX10_figure_47 ?_
        refine lv_if_ne (tgt := 60) hx hcb dX10_figure_50 (by decide) (fun c_14 => ?_) (fun c_14 => ?_)
        · skip
          have hE_ : ¬ (fgZ z lo hi).1 0 26 = 0 := c_14
          refine lv_iload_n hx hcb dX10_figure_60 rfl (lv_at hl 1 rfl) ?_
          exact hret lo (fiZ (fiZ z (¬ z.1 0 23 = nI 1) (-11)) (z.1 0 24 < lo ∨ ¬ z.1 0 24 ≤ hi) (-12)) _ _ _ _ dX10_figure_61 rfl hR hS (⟨by unfold fgR; first | rw [if_pos hE_] | rw [if_neg hE_], rfl⟩)
        · skip
          have hE_ : (fgZ z lo hi).1 0 26 = 0 := c_14
          refine lv_aload_n hx hcb dX10_figure_53 rfl (lv_at hl 0 rfl) ?_
          refine x_getI hx hcb hts hown hK xc10 hR (hw.lo (by decide)) (hw.s0 rfl) 24 (by decide) rfl q_1190 dX10_figure_54 ?_
          refine x_top (show ((fiZ (fiZ z (¬ z.1 0 23 = nI 1) (-11)) (z.1 0 24 < lo ∨ ¬ z.1 0 24 ≤ hi) (-12)).1 0 24) = (z.1 0 24) from (fi_k (by decide) (by decide)).trans (fi_k (by decide) (by decide))) ?_
          refine lv_goto (tgt := 61) hx hcb dX10_figure_57 (by decide) ?_
          exact hret (z.1 0 24) (fiZ (fiZ z (¬ z.1 0 23 = nI 1) (-11)) (z.1 0 24 < lo ∨ ¬ z.1 0 24 ≤ hi) (-12)) _ _ _ _ dX10_figure_61 rfl hR hS (⟨by unfold fgR; first | rw [if_pos hE_] | rw [if_neg hE_], rfl⟩)
      · skip
        have hB_ : z.1 0 24 < lo ∨ ¬ z.1 0 24 ≤ hi := Or.inr c_10
        refine lv_iconst (v := (nI 1)) hx hcb dX10_figure_36 (by decide) ?_
        refine lv_goto (tgt := 41) hx hcb dX10_figure_37 (by decide) ?_
        refine lv_bipush (v := (-12)) hx hcb dX10_figure_41 (by decide) ?_
        refine x_cv0 rfl rfl (x_runV hx hcb hml hown hts (c_X10_failsIf l G w hw (fiZ z (¬ z.1 0 23 = nI 1) (-11)) _ 1 (-12) (z.1 0 24 < lo ∨ ¬ z.1 0 24 ≤ hi) (by first | (rw [if_pos hB_]; first | done | rfl) | (rw [if_neg hB_]; first | done | rfl))) mv_X10_failsIf q_1308 hK hZ hR hS (hw.lo (by decide)) xc10 (hw.s0 rfl) rfl hl.1 rfl (Nat.le_of_ble_eq_true rfl) dX10_figure_43 ⟨by decide, by decide⟩ ⟨by decide, by decide⟩) hS (fun z_16 H locs hp_17 hR hS => ?_)
        rw [hp_17] at hR
        refine lv_aload_n hx hcb dX10_figure_46 rfl (lv_at hl 0 rfl) ?_
        refine x_getI hx hcb hts hown hK xc10 hR (hw.lo (by decide)) (hw.s0 rfl) 26 (by decide) rfl q_1192 dX10_figure_47 ?_
        refine lv_if_ne (tgt := 60) hx hcb dX10_figure_50 (by decide) (fun c_18 => ?_) (fun c_18 => ?_)
        · skip
          have hE_ : ¬ (fgZ z lo hi).1 0 26 = 0 := c_18
          refine lv_iload_n hx hcb dX10_figure_60 rfl (lv_at hl 1 rfl) ?_
          exact hret lo (fiZ (fiZ z (¬ z.1 0 23 = nI 1) (-11)) (z.1 0 24 < lo ∨ ¬ z.1 0 24 ≤ hi) (-12)) _ _ _ _ dX10_figure_61 rfl hR hS (⟨by unfold fgR; first | rw [if_pos hE_] | rw [if_neg hE_], rfl⟩)
        · skip
          have hE_ : (fgZ z lo hi).1 0 26 = 0 := c_18
          refine lv_aload_n hx hcb dX10_figure_53 rfl (lv_at hl 0 rfl) ?_
          refine x_getI hx hcb hts hown hK xc10 hR (hw.lo (by decide)) (hw.s0 rfl) 24 (by decide) rfl q_1190 dX10_figure_54 ?_
          refine x_top (show ((fiZ (fiZ z (¬ z.1 0 23 = nI 1) (-11)) (z.1 0 24 < lo ∨ ¬ z.1 0 24 ≤ hi) (-12)).1 0 24) = (z.1 0 24) from (fi_k (by decide) (by decide)).trans (fi_k (by decide) (by decide))) ?_
          refine lv_goto (tgt := 61) hx hcb dX10_figure_57 (by decide) ?_
          exact hret (z.1 0 24) (fiZ (fiZ z (¬ z.1 0 23 = nI 1) (-11)) (z.1 0 24 < lo ∨ ¬ z.1 0 24 ≤ hi) (-12)) _ _ _ _ dX10_figure_61 rfl hR hS (⟨by unfold fgR; first | rw [if_pos hE_] | rw [if_neg hE_], rfl⟩)
  · skip
    have hA_ : ¬ z.1 0 23 = nI 1 := c_1
    refine lv_iconst (v := (nI 1)) hx hcb dX10_figure_9 (by decide) ?_
    refine lv_goto (tgt := 14) hx hcb dX10_figure_10 (by decide) ?_
    refine lv_bipush (v := (-11)) hx hcb dX10_figure_14 (by decide) ?_
    refine x_cv0 rfl rfl (x_runV hx hcb hml hown hts (c_X10_failsIf l G w hw z _ 1 (-11) (¬ z.1 0 23 = nI 1) (by first | (rw [if_pos hA_]; first | done | rfl) | (rw [if_neg hA_]; first | done | rfl))) mv_X10_failsIf q_1308 hK hZ hR hS (hw.lo (by decide)) xc10 (hw.s0 rfl) rfl hl.1 rfl (Nat.le_of_ble_eq_true rfl) dX10_figure_16 ⟨by decide, by decide⟩ ⟨by decide, by decide⟩) hS (fun z_20 H locs hp_21 hR hS => ?_)
    rw [hp_21] at hR
    refine lv_aload_n hx hcb dX10_figure_19 rfl (lv_at hl 0 rfl) ?_
    refine lv_aload_n hx hcb dX10_figure_20 rfl (lv_at hl 0 rfl) ?_
    refine x_getI hx hcb hts hown hK xc10 hR (hw.lo (by decide)) (hw.s0 rfl) 24 (by decide) rfl q_1190 dX10_figure_21 ?_
    refine x_top (show ((fiZ z (¬ z.1 0 23 = nI 1) (-11)).1 0 24) = (z.1 0 24) from fi_k (by decide) (by decide)) ?_
    refine lv_iload_n hx hcb dX10_figure_24 rfl (lv_at hl 1 rfl) ?_
    refine lv_icmp_lt (tgt := 36) hx hcb dX10_figure_25 (by decide) (fun c_22 => ?_) (fun c_22 => ?_)
    · skip
      have hB_ : z.1 0 24 < lo ∨ ¬ z.1 0 24 ≤ hi := Or.inl c_22
      refine lv_iconst (v := (nI 1)) hx hcb dX10_figure_36 (by decide) ?_
      refine lv_goto (tgt := 41) hx hcb dX10_figure_37 (by decide) ?_
      refine lv_bipush (v := (-12)) hx hcb dX10_figure_41 (by decide) ?_
      refine x_cv0 rfl rfl (x_runV hx hcb hml hown hts (c_X10_failsIf l G w hw (fiZ z (¬ z.1 0 23 = nI 1) (-11)) _ 1 (-12) (z.1 0 24 < lo ∨ ¬ z.1 0 24 ≤ hi) (by first | (rw [if_pos hB_]; first | done | rfl) | (rw [if_neg hB_]; first | done | rfl))) mv_X10_failsIf q_1308 hK hZ hR hS (hw.lo (by decide)) xc10 (hw.s0 rfl) rfl hl.1 rfl (Nat.le_of_ble_eq_true rfl) dX10_figure_43 ⟨by decide, by decide⟩ ⟨by decide, by decide⟩) hS (fun z_24 H locs hp_25 hR hS => ?_)
      rw [hp_25] at hR
      refine lv_aload_n hx hcb dX10_figure_46 rfl (lv_at hl 0 rfl) ?_
      refine x_getI hx hcb hts hown hK xc10 hR (hw.lo (by decide)) (hw.s0 rfl) 26 (by decide) rfl q_1192 dX10_figure_47 ?_
      refine lv_if_ne (tgt := 60) hx hcb dX10_figure_50 (by decide) (fun c_26 => ?_) (fun c_26 => ?_)
      · skip
        have hE_ : ¬ (fgZ z lo hi).1 0 26 = 0 := c_26
        refine lv_iload_n hx hcb dX10_figure_60 rfl (lv_at hl 1 rfl) ?_
        exact hret lo (fiZ (fiZ z (¬ z.1 0 23 = nI 1) (-11)) (z.1 0 24 < lo ∨ ¬ z.1 0 24 ≤ hi) (-12)) _ _ _ _ dX10_figure_61 rfl hR hS (⟨by unfold fgR; first | rw [if_pos hE_] | rw [if_neg hE_], rfl⟩)
      · skip
        have hE_ : (fgZ z lo hi).1 0 26 = 0 := c_26
        refine lv_aload_n hx hcb dX10_figure_53 rfl (lv_at hl 0 rfl) ?_
        refine x_getI hx hcb hts hown hK xc10 hR (hw.lo (by decide)) (hw.s0 rfl) 24 (by decide) rfl q_1190 dX10_figure_54 ?_
        refine x_top (show ((fiZ (fiZ z (¬ z.1 0 23 = nI 1) (-11)) (z.1 0 24 < lo ∨ ¬ z.1 0 24 ≤ hi) (-12)).1 0 24) = (z.1 0 24) from (fi_k (by decide) (by decide)).trans (fi_k (by decide) (by decide))) ?_
        refine lv_goto (tgt := 61) hx hcb dX10_figure_57 (by decide) ?_
        exact hret (z.1 0 24) (fiZ (fiZ z (¬ z.1 0 23 = nI 1) (-11)) (z.1 0 24 < lo ∨ ¬ z.1 0 24 ≤ hi) (-12)) _ _ _ _ dX10_figure_61 rfl hR hS (⟨by unfold fgR; first | rw [if_pos hE_] | rw [if_neg hE_], rfl⟩)
    · skip
      have hB0_ := c_22
      refine lv_aload_n hx hcb dX10_figure_28 rfl (lv_at hl 0 rfl) ?_
      refine x_getI hx hcb hts hown hK xc10 hR (hw.lo (by decide)) (hw.s0 rfl) 24 (by decide) rfl q_1190 dX10_figure_29 ?_
      refine x_top (show ((fiZ z (¬ z.1 0 23 = nI 1) (-11)).1 0 24) = (z.1 0 24) from fi_k (by decide) (by decide)) ?_
      refine lv_iload_n hx hcb dX10_figure_32 rfl (lv_at hl 2 rfl) ?_
      refine lv_icmp_le (tgt := 40) hx hcb dX10_figure_33 (by decide) (fun c_27 => ?_) (fun c_27 => ?_)
      · skip
        have hB_ : ¬ (z.1 0 24 < lo ∨ ¬ z.1 0 24 ≤ hi) := fun q_ => q_.elim hB0_ (fun t_ => t_ c_27)
        refine lv_iconst (v := (nI 0)) hx hcb dX10_figure_40 (by decide) ?_
        refine lv_bipush (v := (-12)) hx hcb dX10_figure_41 (by decide) ?_
        refine x_cv0 rfl rfl (x_runV hx hcb hml hown hts (c_X10_failsIf l G w hw (fiZ z (¬ z.1 0 23 = nI 1) (-11)) _ 0 (-12) (z.1 0 24 < lo ∨ ¬ z.1 0 24 ≤ hi) (by first | (rw [if_pos hB_]; first | done | rfl) | (rw [if_neg hB_]; first | done | rfl))) mv_X10_failsIf q_1308 hK hZ hR hS (hw.lo (by decide)) xc10 (hw.s0 rfl) rfl hl.1 rfl (Nat.le_of_ble_eq_true rfl) dX10_figure_43 ⟨by decide, by decide⟩ ⟨by decide, by decide⟩) hS (fun z_29 H locs hp_30 hR hS => ?_)
        rw [hp_30] at hR
        refine lv_aload_n hx hcb dX10_figure_46 rfl (lv_at hl 0 rfl) ?_
        refine x_getI hx hcb hts hown hK xc10 hR (hw.lo (by decide)) (hw.s0 rfl) 26 (by decide) rfl q_1192 dX10_figure_47 ?_
        refine lv_if_ne (tgt := 60) hx hcb dX10_figure_50 (by decide) (fun c_31 => ?_) (fun c_31 => ?_)
        · skip
          have hE_ : ¬ (fgZ z lo hi).1 0 26 = 0 := c_31
          refine lv_iload_n hx hcb dX10_figure_60 rfl (lv_at hl 1 rfl) ?_
          exact hret lo (fiZ (fiZ z (¬ z.1 0 23 = nI 1) (-11)) (z.1 0 24 < lo ∨ ¬ z.1 0 24 ≤ hi) (-12)) _ _ _ _ dX10_figure_61 rfl hR hS (⟨by unfold fgR; first | rw [if_pos hE_] | rw [if_neg hE_], rfl⟩)
        · skip
          have hE_ : (fgZ z lo hi).1 0 26 = 0 := c_31
          refine lv_aload_n hx hcb dX10_figure_53 rfl (lv_at hl 0 rfl) ?_
          refine x_getI hx hcb hts hown hK xc10 hR (hw.lo (by decide)) (hw.s0 rfl) 24 (by decide) rfl q_1190 dX10_figure_54 ?_
          refine x_top (show ((fiZ (fiZ z (¬ z.1 0 23 = nI 1) (-11)) (z.1 0 24 < lo ∨ ¬ z.1 0 24 ≤ hi) (-12)).1 0 24) = (z.1 0 24) from (fi_k (by decide) (by decide)).trans (fi_k (by decide) (by decide))) ?_
          refine lv_goto (tgt := 61) hx hcb dX10_figure_57 (by decide) ?_
          exact hret (z.1 0 24) (fiZ (fiZ z (¬ z.1 0 23 = nI 1) (-11)) (z.1 0 24 < lo ∨ ¬ z.1 0 24 ≤ hi) (-12)) _ _ _ _ dX10_figure_61 rfl hR hS (⟨by unfold fgR; first | rw [if_pos hE_] | rw [if_neg hE_], rfl⟩)
      · skip
        have hB_ : z.1 0 24 < lo ∨ ¬ z.1 0 24 ≤ hi := Or.inr c_27
        refine lv_iconst (v := (nI 1)) hx hcb dX10_figure_36 (by decide) ?_
        refine lv_goto (tgt := 41) hx hcb dX10_figure_37 (by decide) ?_
        refine lv_bipush (v := (-12)) hx hcb dX10_figure_41 (by decide) ?_
        refine x_cv0 rfl rfl (x_runV hx hcb hml hown hts (c_X10_failsIf l G w hw (fiZ z (¬ z.1 0 23 = nI 1) (-11)) _ 1 (-12) (z.1 0 24 < lo ∨ ¬ z.1 0 24 ≤ hi) (by first | (rw [if_pos hB_]; first | done | rfl) | (rw [if_neg hB_]; first | done | rfl))) mv_X10_failsIf q_1308 hK hZ hR hS (hw.lo (by decide)) xc10 (hw.s0 rfl) rfl hl.1 rfl (Nat.le_of_ble_eq_true rfl) dX10_figure_43 ⟨by decide, by decide⟩ ⟨by decide, by decide⟩) hS (fun z_33 H locs hp_34 hR hS => ?_)
        rw [hp_34] at hR
        refine lv_aload_n hx hcb dX10_figure_46 rfl (lv_at hl 0 rfl) ?_
        refine x_getI hx hcb hts hown hK xc10 hR (hw.lo (by decide)) (hw.s0 rfl) 26 (by decide) rfl q_1192 dX10_figure_47 ?_
        refine lv_if_ne (tgt := 60) hx hcb dX10_figure_50 (by decide) (fun c_35 => ?_) (fun c_35 => ?_)
        · skip
          have hE_ : ¬ (fgZ z lo hi).1 0 26 = 0 := c_35
          refine lv_iload_n hx hcb dX10_figure_60 rfl (lv_at hl 1 rfl) ?_
          exact hret lo (fiZ (fiZ z (¬ z.1 0 23 = nI 1) (-11)) (z.1 0 24 < lo ∨ ¬ z.1 0 24 ≤ hi) (-12)) _ _ _ _ dX10_figure_61 rfl hR hS (⟨by unfold fgR; first | rw [if_pos hE_] | rw [if_neg hE_], rfl⟩)
        · skip
          have hE_ : (fgZ z lo hi).1 0 26 = 0 := c_35
          refine lv_aload_n hx hcb dX10_figure_53 rfl (lv_at hl 0 rfl) ?_
          refine x_getI hx hcb hts hown hK xc10 hR (hw.lo (by decide)) (hw.s0 rfl) 24 (by decide) rfl q_1190 dX10_figure_54 ?_
          refine x_top (show ((fiZ (fiZ z (¬ z.1 0 23 = nI 1) (-11)) (z.1 0 24 < lo ∨ ¬ z.1 0 24 ≤ hi) (-12)).1 0 24) = (z.1 0 24) from (fi_k (by decide) (by decide)).trans (fi_k (by decide) (by decide))) ?_
          refine lv_goto (tgt := 61) hx hcb dX10_figure_57 (by decide) ?_
          exact hret (z.1 0 24) (fiZ (fiZ z (¬ z.1 0 23 = nI 1) (-11)) (z.1 0 24 < lo ∨ ¬ z.1 0 24 ≤ hi) (-12)) _ _ _ _ dX10_figure_61 rfl hR hS (⟨by unfold fgR; first | rw [if_pos hE_] | rw [if_neg hE_], rfl⟩)
def rm_X10_seesName : Room := { frames := 1, cells := 0, slots := 0, locals := 22 }
set_option maxRecDepth 100000 in
set_option maxHeartbeats 4000000 in
theorem c_X10_seesName (l : Launch) (G : xGl) (w : xWd) (hw : isM w) (z : xSt) (sz : Nat)  (hT : zOk z) : xMv l yX10_seesName cX10_seesName 2 rm_X10_seesName G w z sz [.ref (w.2.2 0)] (fun z1 => z1 = snZ z) := by
  refine x_mv (by decide) (Nat.le_of_ble_eq_true rfl) ?_
  intro p e s mt args below meth c ls Q hsz X hR hS hl hret
  obtain ⟨hx, hcb, hml, hown, hts, hlk, hK, hZ⟩ := X
  have hl : lv_has ls 2 [(0, .ref (w.2.2 0))] := hl
  have hT1_ := hT.1.1
  have hT2_ := hT.1.2.1
  have hT3_ := hT.1.2.2.1
  have hT4_ := hT.1.2.2.2
  have hT5_ := hT.2.1
  have hT6_ := hT.2.2.1
  refine lv_aload_n hx hcb dX10_seesName_0 rfl (lv_at hl 0 rfl) ?_
  refine lv_aload_n hx hcb dX10_seesName_1 rfl (lv_at hl 0 rfl) ?_
  refine x_getI hx hcb hts hown hK xc10 hR (hw.lo (by decide)) (hw.s0 rfl) 23 (by decide) rfl q_1189 dX10_seesName_2 ?_
  refine lv_if_ne (tgt := 30) hx hcb dX10_seesName_5 (by decide) (fun c_1 => ?_) (fun c_1 => ?_)
  · skip
    have hA_ : ¬ z.1 0 23 = 0 ∨ ¬ z.1 0 24 = (-1) ∨ ¬ aQ z - pQ z ≤ 6 := Or.inl c_1
    refine lv_iconst (v := (nI 1)) hx hcb dX10_seesName_30 (by decide) ?_
    refine lv_goto (tgt := 35) hx hcb dX10_seesName_31 (by decide) ?_
    refine lv_bipush (v := (-11)) hx hcb dX10_seesName_35 (by decide) ?_
    refine x_cv0 rfl rfl (x_runV hx hcb hml hown hts (c_X10_failsIf l G w hw z _ 1 (-11) (¬ z.1 0 23 = 0 ∨ ¬ z.1 0 24 = (-1) ∨ ¬ aQ z - pQ z ≤ 6) (by first | (rw [if_pos hA_]; first | done | rfl) | (rw [if_neg hA_]; first | done | rfl))) mv_X10_failsIf q_1308 hK hZ hR hS (hw.lo (by decide)) xc10 (hw.s0 rfl) rfl hl.1 rfl (Nat.le_of_ble_eq_true rfl) dX10_seesName_37 ⟨by decide, by decide⟩ ⟨by decide, by decide⟩) hS (fun z_3 H locs hp_4 hR hS => ?_)
    rw [hp_4] at hR
    refine lv_aload_n hx hcb dX10_seesName_40 rfl (lv_at hl 0 rfl) ?_
    refine lv_iconst (v := (nI 0)) hx hcb dX10_seesName_41 (by decide) ?_
    refine x_putI hx hcb hts hown hK xc10 hR hS (hw.lo (by decide)) (hw.s0 rfl) 25 (by decide) rfl q_1191 rfl (v := 0) rfl rfl dX10_seesName_42 (fun H locs hR hS => ?_)
    refine lv_iconst (v := (nI 0)) hx hcb dX10_seesName_45 (by decide) ?_
    refine lv_istore_n (lv' := [(1, .int (nI 0)), (0, .ref (w.2.2 0))]) hx hcb dX10_seesName_46 rfl hl (by decide) rfl (fun ls hl => ?_)
    by_cases hE_ : (fiZ z (¬ z.1 0 23 = 0 ∨ ¬ z.1 0 24 = (-1) ∨ ¬ aQ z - pQ z ≤ 6) (-11)).1 0 26 = 0
    · skip
      rw [show u1 (fiZ z (¬ z.1 0 23 = 0 ∨ ¬ z.1 0 24 = (-1) ∨ ¬ aQ z - pQ z ≤ 6) (-11)) 0 25 0 = u1 (fiZ z (¬ z.1 0 23 = 0 ∨ ¬ z.1 0 24 = (-1) ∨ ¬ aQ z - pQ z ≤ 6) (-11)) 0 25 (ltQ z 0) from rfl] at hR
      suffices LP_47 : ∀ (nn : Nat) (i_ : Nat) (_ : 6 - i_ < nn) (hi_ : i_ ≤ 6) (H : Heap) (locs : List Loc) (ls : Array Slot), Rh G w (u1 (fiZ z (¬ z.1 0 23 = 0 ∨ ¬ z.1 0 24 = (-1) ∨ ¬ aQ z - pQ z ≤ 6) (-11)) 0 25 (ltQ z i_)) H → va_S (xA w s.heap.size) s.heap H locs → lv_has ls 2 [(0, .ref (w.2.2 0)), (1, .int (nI i_))] → W p l e rm_X10_seesName s mt args below meth c H locs 0 0 Q (F0 mt 47 ls []) from LP_47 ((_) + 1) 0 (Nat.lt_succ_self _) (by omega) _ _ _ hR hS (lv_sub hl [1, 0] rfl)
      intro nn
      induction nn with
      | zero => intro i_ hm_ ; exact absurd hm_ (Nat.not_lt_zero _)
      | succ nn ih_47 =>
        intro i_ hm_47 hi_ H locs ls hR hS hl
        refine lv_iload_n hx hcb dX10_seesName_47 rfl (lv_at hl 1 rfl) ?_
        refine lv_bipush (v := (nI 6)) hx hcb dX10_seesName_48 (by decide) ?_
        refine lv_icmp_ge (tgt := 110) hx hcb dX10_seesName_50 (by decide) (fun c_5 => ?_) (fun c_5 => ?_)
        · skip
          have c_5 : 6 ≤ i_ := (nI_leI (by omega) (by omega)).mp c_5
          obtain rfl : 6 = i_ := by omega
          exact hret (u1 (fiZ z (¬ z.1 0 23 = 0 ∨ ¬ z.1 0 24 = (-1) ∨ ¬ aQ z - pQ z ≤ 6) (-11)) 0 25 (ltQ z 6)) _ _ _ _ dX10_seesName_110 hR hS (by unfold snZ; first | (rw [if_pos hE_]; done) | (rw [if_neg hE_]; done) | (rw [if_pos hE_]; rfl) | (rw [if_neg hE_]; rfl))
        · skip
          have c_5 : ¬ 6 ≤ i_ := fun h_ => c_5 ((nI_leI (by omega) (by omega)).mpr h_)
          refine lv_aload_n hx hcb dX10_seesName_53 rfl (lv_at hl 0 rfl) ?_
          refine x_getI hx hcb hts hown hK xc10 hR (hw.lo (by decide)) (hw.s0 rfl) 26 (by decide) rfl q_1192 dX10_seesName_54 ?_
          refine x_top (show ((u1 (fiZ z (¬ z.1 0 23 = 0 ∨ ¬ z.1 0 24 = (-1) ∨ ¬ aQ z - pQ z ≤ 6) (-11)) 0 25 (ltQ z i_)).1 0 26) = ((fiZ z (¬ z.1 0 23 = 0 ∨ ¬ z.1 0 24 = (-1) ∨ ¬ aQ z - pQ z ≤ 6) (-11)).1 0 26) from rfl) ?_
          refine lv_if_ne (tgt := 110) hx hcb dX10_seesName_57 (by decide) (fun c_6 => ?_) (fun c_6 => ?_)
          · skip
            exact absurd hE_ c_6
          · skip
            refine lv_aload_n hx hcb dX10_seesName_60 rfl (lv_at hl 0 rfl) ?_
            refine lv_aload_n hx hcb dX10_seesName_61 rfl (lv_at hl 0 rfl) ?_
            refine x_getI hx hcb hts hown hK xc10 hR (hw.lo (by decide)) (hw.s0 rfl) 25 (by decide) rfl q_1191 dX10_seesName_62 ?_
            refine x_top (show ((u1 (fiZ z (¬ z.1 0 23 = 0 ∨ ¬ z.1 0 24 = (-1) ∨ ¬ aQ z - pQ z ≤ 6) (-11)) 0 25 (ltQ z i_)).1 0 25) = (ltQ z i_) from rfl) ?_
            refine lv_iconst (v := (nI 5)) hx hcb dX10_seesName_65 (by decide) ?_
            refine lv_ishl hx hcb dX10_seesName_66 ?_
            refine lv_aload_n hx hcb dX10_seesName_67 rfl (lv_at hl 0 rfl) ?_
            refine x_getI hx hcb hts hown hK xc10 hR (hw.lo (by decide)) (hw.s0 rfl) 22 (by decide) rfl q_1188 dX10_seesName_68 ?_
            refine x_top (show ((u1 (fiZ z (¬ z.1 0 23 = 0 ∨ ¬ z.1 0 24 = (-1) ∨ ¬ aQ z - pQ z ≤ 6) (-11)) 0 25 (ltQ z i_)).1 0 22) = (nI (pQ z)) from (fi_k (z := z) (k := 22) (by decide) (by decide)).trans hT5_) ?_
            refine lv_iload_n hx hcb dX10_seesName_71 rfl (lv_at hl 1 rfl) ?_
            refine x_iaddN hx hcb dX10_seesName_72 ?_
            refine lv_aload_n hx hcb dX10_seesName_73 rfl (lv_at hl 0 rfl) ?_
            refine x_getI hx hcb hts hown hK xc10 hR (hw.lo (by decide)) (hw.s0 rfl) 21 (by decide) rfl q_1187 dX10_seesName_74 ?_
            refine x_top (show ((u1 (fiZ z (¬ z.1 0 23 = 0 ∨ ¬ z.1 0 24 = (-1) ∨ ¬ aQ z - pQ z ≤ 6) (-11)) 0 25 (ltQ z i_)).1 0 21) = (nI (aQ z)) from (fi_k (z := z) (k := 21) (by decide) (by decide)).trans hT1_) ?_
            refine lv_icmp_ge (tgt := 99) hx hcb dX10_seesName_77 (by decide) (fun c_7 => ?_) (fun c_7 => ?_)
            · skip
              have c_7 : (aQ z) ≤ ((pQ z) + i_) := (nI_leI (by omega) (by omega)).mp c_7
              have hq_ : ¬ pQ z + i_ < aQ z := by omega
              refine lv_iconst (v := (nI 0)) hx hcb dX10_seesName_99 (by decide) ?_
              refine lv_ior hx hcb dX10_seesName_100 ?_
              refine x_putI hx hcb hts hown hK xc10 hR hS (hw.lo (by decide)) (hw.s0 rfl) 25 (by decide) rfl q_1191 rfl (v := (((ltQ z i_) <<< ((nI 5) &&& 31)) ||| (nI 0))) rfl rfl dX10_seesName_101 (fun H locs hR hS => ?_)
              refine lv_iinc (v := (nI (i_ + 1))) (lv' := [(1, .int (nI (i_ + 1))), (0, .ref (w.2.2 0))]) hx hcb dX10_seesName_104 hl (k := 1) rfl (x_iinc1 _) (by decide) rfl (fun ls hl => ?_)
              refine lv_goto (tgt := 47) hx hcb dX10_seesName_107 (by decide) ?_
              rw [show (u1 (u1 (fiZ z (¬ z.1 0 23 = 0 ∨ ¬ z.1 0 24 = (-1) ∨ ¬ aQ z - pQ z ≤ 6) (-11)) 0 25 (ltQ z i_)) 0 25 (((ltQ z i_) <<< ((nI 5) &&& 31)) ||| (nI 0))) = (u1 (fiZ z (¬ z.1 0 23 = 0 ∨ ¬ z.1 0 24 = (-1) ∨ ¬ aQ z - pQ z ≤ 6) (-11)) 0 25 (ltQ z (i_ + 1))) from by rw [u1_u1]; first | rw [ltQ_y hq_] | rw [ltQ_n hq_]] at hR
              exact ih_47 (i_ + 1) (by omega) (by omega) _ _ _ hR hS (lv_sub hl [1, 0] rfl)
            · skip
              have c_7 : ¬ (aQ z) ≤ ((pQ z) + i_) := fun h_ => c_7 ((nI_leI (by omega) (by omega)).mpr h_)
              have hq_ : pQ z + i_ < aQ z := by omega
              refine lv_aload_n hx hcb dX10_seesName_80 rfl (lv_at hl 0 rfl) ?_
              refine x_getR hx hcb hts hown hK xc10 hR (hw.lo (by decide)) (hw.s0 rfl) 1 (by decide) rfl q_1167 dX10_seesName_81 ?_
              refine lv_aload_n hx hcb dX10_seesName_84 rfl (lv_at hl 0 rfl) ?_
              refine x_getI hx hcb hts hown hK xc10 hR (hw.lo (by decide)) (hw.s0 rfl) 22 (by decide) rfl q_1188 dX10_seesName_85 ?_
              refine x_top (show ((u1 (fiZ z (¬ z.1 0 23 = 0 ∨ ¬ z.1 0 24 = (-1) ∨ ¬ aQ z - pQ z ≤ 6) (-11)) 0 25 (ltQ z i_)).1 0 22) = (nI (pQ z)) from (fi_k (z := z) (k := 22) (by decide) (by decide)).trans hT5_) ?_
              refine lv_iload_n hx hcb dX10_seesName_88 rfl (lv_at hl 1 rfl) ?_
              refine x_iaddN hx hcb dX10_seesName_89 ?_
              refine x_iald hx hcb hK hR (hw.lo (by decide)) (hw.s0 rfl) (k := ((pQ z) + i_)) (by omega) (by decide) dX10_seesName_90 ?_
              refine x_top (show ((u1 (fiZ z (¬ z.1 0 23 = 0 ∨ ¬ z.1 0 24 = (-1) ∨ ¬ aQ z - pQ z ≤ 6) (-11)) 0 25 (ltQ z i_)).1 1 ((pQ z) + i_)) = (z.1 1 (pQ z + i_)) from congrFun (fi_o (z := z) (o := 1) (by decide)) _) ?_
              refine lv_bipush (v := (nI 97)) hx hcb dX10_seesName_91 (by decide) ?_
              refine lv_isub hx hcb dX10_seesName_93 ?_
              refine lv_iconst (v := (nI 1)) hx hcb dX10_seesName_94 (by decide) ?_
              refine lv_iadd hx hcb dX10_seesName_95 ?_
              refine lv_goto (tgt := 100) hx hcb dX10_seesName_96 (by decide) ?_
              refine lv_ior hx hcb dX10_seesName_100 ?_
              refine x_putI hx hcb hts hown hK xc10 hR hS (hw.lo (by decide)) (hw.s0 rfl) 25 (by decide) rfl q_1191 rfl (v := (((ltQ z i_) <<< ((nI 5) &&& 31)) ||| (((z.1 1 (pQ z + i_)) - (nI 97)) + (nI 1)))) rfl rfl dX10_seesName_101 (fun H locs hR hS => ?_)
              refine lv_iinc (v := (nI (i_ + 1))) (lv' := [(1, .int (nI (i_ + 1))), (0, .ref (w.2.2 0))]) hx hcb dX10_seesName_104 hl (k := 1) rfl (x_iinc1 _) (by decide) rfl (fun ls hl => ?_)
              refine lv_goto (tgt := 47) hx hcb dX10_seesName_107 (by decide) ?_
              rw [show (u1 (u1 (fiZ z (¬ z.1 0 23 = 0 ∨ ¬ z.1 0 24 = (-1) ∨ ¬ aQ z - pQ z ≤ 6) (-11)) 0 25 (ltQ z i_)) 0 25 (((ltQ z i_) <<< ((nI 5) &&& 31)) ||| (((z.1 1 (pQ z + i_)) - (nI 97)) + (nI 1)))) = (u1 (fiZ z (¬ z.1 0 23 = 0 ∨ ¬ z.1 0 24 = (-1) ∨ ¬ aQ z - pQ z ≤ 6) (-11)) 0 25 (ltQ z (i_ + 1))) from by rw [u1_u1]; first | rw [ltQ_y hq_] | rw [ltQ_n hq_]] at hR
              exact ih_47 (i_ + 1) (by omega) (by omega) _ _ _ hR hS (lv_sub hl [1, 0] rfl)
    · skip
      refine lv_iload_n hx hcb dX10_seesName_47 rfl (lv_at hl 0 rfl) ?_
      refine lv_bipush (v := (nI 6)) hx hcb dX10_seesName_48 (by decide) ?_
      refine lv_icmp_ge (tgt := 110) hx hcb dX10_seesName_50 (by decide) (fun c_8 => ?_) (fun c_8 => ?_)
      · skip
        first | exact absurd c_8 (by decide) | exact absurd (by decide) c_8
      · skip
        refine lv_aload_n hx hcb dX10_seesName_53 rfl (lv_at hl 1 rfl) ?_
        refine x_getI hx hcb hts hown hK xc10 hR (hw.lo (by decide)) (hw.s0 rfl) 26 (by decide) rfl q_1192 dX10_seesName_54 ?_
        refine x_top (show ((u1 (fiZ z (¬ z.1 0 23 = 0 ∨ ¬ z.1 0 24 = (-1) ∨ ¬ aQ z - pQ z ≤ 6) (-11)) 0 25 0).1 0 26) = ((fiZ z (¬ z.1 0 23 = 0 ∨ ¬ z.1 0 24 = (-1) ∨ ¬ aQ z - pQ z ≤ 6) (-11)).1 0 26) from rfl) ?_
        refine lv_if_ne (tgt := 110) hx hcb dX10_seesName_57 (by decide) (fun c_9 => ?_) (fun c_9 => ?_)
        · skip
          exact hret (u1 (fiZ z (¬ z.1 0 23 = 0 ∨ ¬ z.1 0 24 = (-1) ∨ ¬ aQ z - pQ z ≤ 6) (-11)) 0 25 0) _ _ _ _ dX10_seesName_110 hR hS (by unfold snZ; first | (rw [if_pos hE_]; done) | (rw [if_neg hE_]; done) | (rw [if_pos hE_]; rfl) | (rw [if_neg hE_]; rfl))
        · skip
          exact absurd c_9 hE_
  · skip
    have h0_ := c_1
    refine lv_aload_n hx hcb dX10_seesName_8 rfl (lv_at hl 0 rfl) ?_
    refine x_getI hx hcb hts hown hK xc10 hR (hw.lo (by decide)) (hw.s0 rfl) 24 (by decide) rfl q_1190 dX10_seesName_9 ?_
    refine lv_iconst (v := (-1)) hx hcb dX10_seesName_12 (by decide) ?_
    refine lv_icmp_ne (tgt := 30) hx hcb dX10_seesName_13 (by decide) (fun c_10 => ?_) (fun c_10 => ?_)
    · skip
      have hA_ : ¬ z.1 0 23 = 0 ∨ ¬ z.1 0 24 = (-1) ∨ ¬ aQ z - pQ z ≤ 6 := Or.inr (Or.inl c_10)
      refine lv_iconst (v := (nI 1)) hx hcb dX10_seesName_30 (by decide) ?_
      refine lv_goto (tgt := 35) hx hcb dX10_seesName_31 (by decide) ?_
      refine lv_bipush (v := (-11)) hx hcb dX10_seesName_35 (by decide) ?_
      refine x_cv0 rfl rfl (x_runV hx hcb hml hown hts (c_X10_failsIf l G w hw z _ 1 (-11) (¬ z.1 0 23 = 0 ∨ ¬ z.1 0 24 = (-1) ∨ ¬ aQ z - pQ z ≤ 6) (by first | (rw [if_pos hA_]; first | done | rfl) | (rw [if_neg hA_]; first | done | rfl))) mv_X10_failsIf q_1308 hK hZ hR hS (hw.lo (by decide)) xc10 (hw.s0 rfl) rfl hl.1 rfl (Nat.le_of_ble_eq_true rfl) dX10_seesName_37 ⟨by decide, by decide⟩ ⟨by decide, by decide⟩) hS (fun z_12 H locs hp_13 hR hS => ?_)
      rw [hp_13] at hR
      refine lv_aload_n hx hcb dX10_seesName_40 rfl (lv_at hl 0 rfl) ?_
      refine lv_iconst (v := (nI 0)) hx hcb dX10_seesName_41 (by decide) ?_
      refine x_putI hx hcb hts hown hK xc10 hR hS (hw.lo (by decide)) (hw.s0 rfl) 25 (by decide) rfl q_1191 rfl (v := 0) rfl rfl dX10_seesName_42 (fun H locs hR hS => ?_)
      refine lv_iconst (v := (nI 0)) hx hcb dX10_seesName_45 (by decide) ?_
      refine lv_istore_n (lv' := [(1, .int (nI 0)), (0, .ref (w.2.2 0))]) hx hcb dX10_seesName_46 rfl hl (by decide) rfl (fun ls hl => ?_)
      by_cases hE_ : (fiZ z (¬ z.1 0 23 = 0 ∨ ¬ z.1 0 24 = (-1) ∨ ¬ aQ z - pQ z ≤ 6) (-11)).1 0 26 = 0
      · skip
        rw [show u1 (fiZ z (¬ z.1 0 23 = 0 ∨ ¬ z.1 0 24 = (-1) ∨ ¬ aQ z - pQ z ≤ 6) (-11)) 0 25 0 = u1 (fiZ z (¬ z.1 0 23 = 0 ∨ ¬ z.1 0 24 = (-1) ∨ ¬ aQ z - pQ z ≤ 6) (-11)) 0 25 (ltQ z 0) from rfl] at hR
        suffices LP_47 : ∀ (nn : Nat) (i_ : Nat) (_ : 6 - i_ < nn) (hi_ : i_ ≤ 6) (H : Heap) (locs : List Loc) (ls : Array Slot), Rh G w (u1 (fiZ z (¬ z.1 0 23 = 0 ∨ ¬ z.1 0 24 = (-1) ∨ ¬ aQ z - pQ z ≤ 6) (-11)) 0 25 (ltQ z i_)) H → va_S (xA w s.heap.size) s.heap H locs → lv_has ls 2 [(0, .ref (w.2.2 0)), (1, .int (nI i_))] → W p l e rm_X10_seesName s mt args below meth c H locs 0 0 Q (F0 mt 47 ls []) from LP_47 ((_) + 1) 0 (Nat.lt_succ_self _) (by omega) _ _ _ hR hS (lv_sub hl [1, 0] rfl)
        intro nn
        induction nn with
        | zero => intro i_ hm_ ; exact absurd hm_ (Nat.not_lt_zero _)
        | succ nn ih_47 =>
          intro i_ hm_47 hi_ H locs ls hR hS hl
          refine lv_iload_n hx hcb dX10_seesName_47 rfl (lv_at hl 1 rfl) ?_
          refine lv_bipush (v := (nI 6)) hx hcb dX10_seesName_48 (by decide) ?_
          refine lv_icmp_ge (tgt := 110) hx hcb dX10_seesName_50 (by decide) (fun c_14 => ?_) (fun c_14 => ?_)
          · skip
            have c_14 : 6 ≤ i_ := (nI_leI (by omega) (by omega)).mp c_14
            obtain rfl : 6 = i_ := by omega
            exact hret (u1 (fiZ z (¬ z.1 0 23 = 0 ∨ ¬ z.1 0 24 = (-1) ∨ ¬ aQ z - pQ z ≤ 6) (-11)) 0 25 (ltQ z 6)) _ _ _ _ dX10_seesName_110 hR hS (by unfold snZ; first | (rw [if_pos hE_]; done) | (rw [if_neg hE_]; done) | (rw [if_pos hE_]; rfl) | (rw [if_neg hE_]; rfl))
          · skip
            have c_14 : ¬ 6 ≤ i_ := fun h_ => c_14 ((nI_leI (by omega) (by omega)).mpr h_)
            refine lv_aload_n hx hcb dX10_seesName_53 rfl (lv_at hl 0 rfl) ?_
            refine x_getI hx hcb hts hown hK xc10 hR (hw.lo (by decide)) (hw.s0 rfl) 26 (by decide) rfl q_1192 dX10_seesName_54 ?_
            refine x_top (show ((u1 (fiZ z (¬ z.1 0 23 = 0 ∨ ¬ z.1 0 24 = (-1) ∨ ¬ aQ z - pQ z ≤ 6) (-11)) 0 25 (ltQ z i_)).1 0 26) = ((fiZ z (¬ z.1 0 23 = 0 ∨ ¬ z.1 0 24 = (-1) ∨ ¬ aQ z - pQ z ≤ 6) (-11)).1 0 26) from rfl) ?_
            refine lv_if_ne (tgt := 110) hx hcb dX10_seesName_57 (by decide) (fun c_15 => ?_) (fun c_15 => ?_)
            · skip
              exact absurd hE_ c_15
            · skip
              refine lv_aload_n hx hcb dX10_seesName_60 rfl (lv_at hl 0 rfl) ?_
              refine lv_aload_n hx hcb dX10_seesName_61 rfl (lv_at hl 0 rfl) ?_
              refine x_getI hx hcb hts hown hK xc10 hR (hw.lo (by decide)) (hw.s0 rfl) 25 (by decide) rfl q_1191 dX10_seesName_62 ?_
              refine x_top (show ((u1 (fiZ z (¬ z.1 0 23 = 0 ∨ ¬ z.1 0 24 = (-1) ∨ ¬ aQ z - pQ z ≤ 6) (-11)) 0 25 (ltQ z i_)).1 0 25) = (ltQ z i_) from rfl) ?_
              refine lv_iconst (v := (nI 5)) hx hcb dX10_seesName_65 (by decide) ?_
              refine lv_ishl hx hcb dX10_seesName_66 ?_
              refine lv_aload_n hx hcb dX10_seesName_67 rfl (lv_at hl 0 rfl) ?_
              refine x_getI hx hcb hts hown hK xc10 hR (hw.lo (by decide)) (hw.s0 rfl) 22 (by decide) rfl q_1188 dX10_seesName_68 ?_
              refine x_top (show ((u1 (fiZ z (¬ z.1 0 23 = 0 ∨ ¬ z.1 0 24 = (-1) ∨ ¬ aQ z - pQ z ≤ 6) (-11)) 0 25 (ltQ z i_)).1 0 22) = (nI (pQ z)) from (fi_k (z := z) (k := 22) (by decide) (by decide)).trans hT5_) ?_
              refine lv_iload_n hx hcb dX10_seesName_71 rfl (lv_at hl 1 rfl) ?_
              refine x_iaddN hx hcb dX10_seesName_72 ?_
              refine lv_aload_n hx hcb dX10_seesName_73 rfl (lv_at hl 0 rfl) ?_
              refine x_getI hx hcb hts hown hK xc10 hR (hw.lo (by decide)) (hw.s0 rfl) 21 (by decide) rfl q_1187 dX10_seesName_74 ?_
              refine x_top (show ((u1 (fiZ z (¬ z.1 0 23 = 0 ∨ ¬ z.1 0 24 = (-1) ∨ ¬ aQ z - pQ z ≤ 6) (-11)) 0 25 (ltQ z i_)).1 0 21) = (nI (aQ z)) from (fi_k (z := z) (k := 21) (by decide) (by decide)).trans hT1_) ?_
              refine lv_icmp_ge (tgt := 99) hx hcb dX10_seesName_77 (by decide) (fun c_16 => ?_) (fun c_16 => ?_)
              · skip
                have c_16 : (aQ z) ≤ ((pQ z) + i_) := (nI_leI (by omega) (by omega)).mp c_16
                have hq_ : ¬ pQ z + i_ < aQ z := by omega
                refine lv_iconst (v := (nI 0)) hx hcb dX10_seesName_99 (by decide) ?_
                refine lv_ior hx hcb dX10_seesName_100 ?_
                refine x_putI hx hcb hts hown hK xc10 hR hS (hw.lo (by decide)) (hw.s0 rfl) 25 (by decide) rfl q_1191 rfl (v := (((ltQ z i_) <<< ((nI 5) &&& 31)) ||| (nI 0))) rfl rfl dX10_seesName_101 (fun H locs hR hS => ?_)
                refine lv_iinc (v := (nI (i_ + 1))) (lv' := [(1, .int (nI (i_ + 1))), (0, .ref (w.2.2 0))]) hx hcb dX10_seesName_104 hl (k := 1) rfl (x_iinc1 _) (by decide) rfl (fun ls hl => ?_)
                refine lv_goto (tgt := 47) hx hcb dX10_seesName_107 (by decide) ?_
                rw [show (u1 (u1 (fiZ z (¬ z.1 0 23 = 0 ∨ ¬ z.1 0 24 = (-1) ∨ ¬ aQ z - pQ z ≤ 6) (-11)) 0 25 (ltQ z i_)) 0 25 (((ltQ z i_) <<< ((nI 5) &&& 31)) ||| (nI 0))) = (u1 (fiZ z (¬ z.1 0 23 = 0 ∨ ¬ z.1 0 24 = (-1) ∨ ¬ aQ z - pQ z ≤ 6) (-11)) 0 25 (ltQ z (i_ + 1))) from by rw [u1_u1]; first | rw [ltQ_y hq_] | rw [ltQ_n hq_]] at hR
                exact ih_47 (i_ + 1) (by omega) (by omega) _ _ _ hR hS (lv_sub hl [1, 0] rfl)
              · skip
                have c_16 : ¬ (aQ z) ≤ ((pQ z) + i_) := fun h_ => c_16 ((nI_leI (by omega) (by omega)).mpr h_)
                have hq_ : pQ z + i_ < aQ z := by omega
                refine lv_aload_n hx hcb dX10_seesName_80 rfl (lv_at hl 0 rfl) ?_
                refine x_getR hx hcb hts hown hK xc10 hR (hw.lo (by decide)) (hw.s0 rfl) 1 (by decide) rfl q_1167 dX10_seesName_81 ?_
                refine lv_aload_n hx hcb dX10_seesName_84 rfl (lv_at hl 0 rfl) ?_
                refine x_getI hx hcb hts hown hK xc10 hR (hw.lo (by decide)) (hw.s0 rfl) 22 (by decide) rfl q_1188 dX10_seesName_85 ?_
                refine x_top (show ((u1 (fiZ z (¬ z.1 0 23 = 0 ∨ ¬ z.1 0 24 = (-1) ∨ ¬ aQ z - pQ z ≤ 6) (-11)) 0 25 (ltQ z i_)).1 0 22) = (nI (pQ z)) from (fi_k (z := z) (k := 22) (by decide) (by decide)).trans hT5_) ?_
                refine lv_iload_n hx hcb dX10_seesName_88 rfl (lv_at hl 1 rfl) ?_
                refine x_iaddN hx hcb dX10_seesName_89 ?_
                refine x_iald hx hcb hK hR (hw.lo (by decide)) (hw.s0 rfl) (k := ((pQ z) + i_)) (by omega) (by decide) dX10_seesName_90 ?_
                refine x_top (show ((u1 (fiZ z (¬ z.1 0 23 = 0 ∨ ¬ z.1 0 24 = (-1) ∨ ¬ aQ z - pQ z ≤ 6) (-11)) 0 25 (ltQ z i_)).1 1 ((pQ z) + i_)) = (z.1 1 (pQ z + i_)) from congrFun (fi_o (z := z) (o := 1) (by decide)) _) ?_
                refine lv_bipush (v := (nI 97)) hx hcb dX10_seesName_91 (by decide) ?_
                refine lv_isub hx hcb dX10_seesName_93 ?_
                refine lv_iconst (v := (nI 1)) hx hcb dX10_seesName_94 (by decide) ?_
                refine lv_iadd hx hcb dX10_seesName_95 ?_
                refine lv_goto (tgt := 100) hx hcb dX10_seesName_96 (by decide) ?_
                refine lv_ior hx hcb dX10_seesName_100 ?_
                refine x_putI hx hcb hts hown hK xc10 hR hS (hw.lo (by decide)) (hw.s0 rfl) 25 (by decide) rfl q_1191 rfl (v := (((ltQ z i_) <<< ((nI 5) &&& 31)) ||| (((z.1 1 (pQ z + i_)) - (nI 97)) + (nI 1)))) rfl rfl dX10_seesName_101 (fun H locs hR hS => ?_)
                refine lv_iinc (v := (nI (i_ + 1))) (lv' := [(1, .int (nI (i_ + 1))), (0, .ref (w.2.2 0))]) hx hcb dX10_seesName_104 hl (k := 1) rfl (x_iinc1 _) (by decide) rfl (fun ls hl => ?_)
                refine lv_goto (tgt := 47) hx hcb dX10_seesName_107 (by decide) ?_
                rw [show (u1 (u1 (fiZ z (¬ z.1 0 23 = 0 ∨ ¬ z.1 0 24 = (-1) ∨ ¬ aQ z - pQ z ≤ 6) (-11)) 0 25 (ltQ z i_)) 0 25 (((ltQ z i_) <<< ((nI 5) &&& 31)) ||| (((z.1 1 (pQ z + i_)) - (nI 97)) + (nI 1)))) = (u1 (fiZ z (¬ z.1 0 23 = 0 ∨ ¬ z.1 0 24 = (-1) ∨ ¬ aQ z - pQ z ≤ 6) (-11)) 0 25 (ltQ z (i_ + 1))) from by rw [u1_u1]; first | rw [ltQ_y hq_] | rw [ltQ_n hq_]] at hR
                exact ih_47 (i_ + 1) (by omega) (by omega) _ _ _ hR hS (lv_sub hl [1, 0] rfl)
      · skip
        refine lv_iload_n hx hcb dX10_seesName_47 rfl (lv_at hl 0 rfl) ?_
        refine lv_bipush (v := (nI 6)) hx hcb dX10_seesName_48 (by decide) ?_
        refine lv_icmp_ge (tgt := 110) hx hcb dX10_seesName_50 (by decide) (fun c_17 => ?_) (fun c_17 => ?_)
        · skip
          first | exact absurd c_17 (by decide) | exact absurd (by decide) c_17
        · skip
          refine lv_aload_n hx hcb dX10_seesName_53 rfl (lv_at hl 1 rfl) ?_
          refine x_getI hx hcb hts hown hK xc10 hR (hw.lo (by decide)) (hw.s0 rfl) 26 (by decide) rfl q_1192 dX10_seesName_54 ?_
          refine x_top (show ((u1 (fiZ z (¬ z.1 0 23 = 0 ∨ ¬ z.1 0 24 = (-1) ∨ ¬ aQ z - pQ z ≤ 6) (-11)) 0 25 0).1 0 26) = ((fiZ z (¬ z.1 0 23 = 0 ∨ ¬ z.1 0 24 = (-1) ∨ ¬ aQ z - pQ z ≤ 6) (-11)).1 0 26) from rfl) ?_
          refine lv_if_ne (tgt := 110) hx hcb dX10_seesName_57 (by decide) (fun c_18 => ?_) (fun c_18 => ?_)
          · skip
            exact hret (u1 (fiZ z (¬ z.1 0 23 = 0 ∨ ¬ z.1 0 24 = (-1) ∨ ¬ aQ z - pQ z ≤ 6) (-11)) 0 25 0) _ _ _ _ dX10_seesName_110 hR hS (by unfold snZ; first | (rw [if_pos hE_]; done) | (rw [if_neg hE_]; done) | (rw [if_pos hE_]; rfl) | (rw [if_neg hE_]; rfl))
          · skip
            exact absurd c_18 hE_
    · skip
      have h1_ := c_10
      refine lv_aload_n hx hcb dX10_seesName_16 rfl (lv_at hl 0 rfl) ?_
      refine x_getI hx hcb hts hown hK xc10 hR (hw.lo (by decide)) (hw.s0 rfl) 21 (by decide) rfl q_1187 dX10_seesName_17 ?_
      refine x_top (show (z.1 0 21) = (nI (aQ z)) from hT1_) ?_
      refine lv_aload_n hx hcb dX10_seesName_20 rfl (lv_at hl 0 rfl) ?_
      refine x_getI hx hcb hts hown hK xc10 hR (hw.lo (by decide)) (hw.s0 rfl) 22 (by decide) rfl q_1188 dX10_seesName_21 ?_
      refine x_top (show (z.1 0 22) = (nI (pQ z)) from hT5_) ?_
      refine x_isubN hx hcb (by omega) dX10_seesName_24 ?_
      refine lv_bipush (v := (nI 6)) hx hcb dX10_seesName_25 (by decide) ?_
      refine lv_icmp_le (tgt := 34) hx hcb dX10_seesName_27 (by decide) (fun c_19 => ?_) (fun c_19 => ?_)
      · skip
        have c_19 : ((aQ z) - (pQ z)) ≤ 6 := (nI_leI (by omega) (by omega)).mp c_19
        have hA_ : ¬ (¬ z.1 0 23 = 0 ∨ ¬ z.1 0 24 = (-1) ∨ ¬ aQ z - pQ z ≤ 6) := fun q_ => q_.elim (fun t_ => t_ h0_) (fun q_ => q_.elim (fun t_ => t_ h1_) (fun t_ => t_ c_19))
        refine lv_iconst (v := (nI 0)) hx hcb dX10_seesName_34 (by decide) ?_
        refine lv_bipush (v := (-11)) hx hcb dX10_seesName_35 (by decide) ?_
        refine x_cv0 rfl rfl (x_runV hx hcb hml hown hts (c_X10_failsIf l G w hw z _ 0 (-11) (¬ z.1 0 23 = 0 ∨ ¬ z.1 0 24 = (-1) ∨ ¬ aQ z - pQ z ≤ 6) (by first | (rw [if_pos hA_]; first | done | rfl) | (rw [if_neg hA_]; first | done | rfl))) mv_X10_failsIf q_1308 hK hZ hR hS (hw.lo (by decide)) xc10 (hw.s0 rfl) rfl hl.1 rfl (Nat.le_of_ble_eq_true rfl) dX10_seesName_37 ⟨by decide, by decide⟩ ⟨by decide, by decide⟩) hS (fun z_21 H locs hp_22 hR hS => ?_)
        rw [hp_22] at hR
        refine lv_aload_n hx hcb dX10_seesName_40 rfl (lv_at hl 0 rfl) ?_
        refine lv_iconst (v := (nI 0)) hx hcb dX10_seesName_41 (by decide) ?_
        refine x_putI hx hcb hts hown hK xc10 hR hS (hw.lo (by decide)) (hw.s0 rfl) 25 (by decide) rfl q_1191 rfl (v := 0) rfl rfl dX10_seesName_42 (fun H locs hR hS => ?_)
        refine lv_iconst (v := (nI 0)) hx hcb dX10_seesName_45 (by decide) ?_
        refine lv_istore_n (lv' := [(1, .int (nI 0)), (0, .ref (w.2.2 0))]) hx hcb dX10_seesName_46 rfl hl (by decide) rfl (fun ls hl => ?_)
        by_cases hE_ : (fiZ z (¬ z.1 0 23 = 0 ∨ ¬ z.1 0 24 = (-1) ∨ ¬ aQ z - pQ z ≤ 6) (-11)).1 0 26 = 0
        · skip
          rw [show u1 (fiZ z (¬ z.1 0 23 = 0 ∨ ¬ z.1 0 24 = (-1) ∨ ¬ aQ z - pQ z ≤ 6) (-11)) 0 25 0 = u1 (fiZ z (¬ z.1 0 23 = 0 ∨ ¬ z.1 0 24 = (-1) ∨ ¬ aQ z - pQ z ≤ 6) (-11)) 0 25 (ltQ z 0) from rfl] at hR
          suffices LP_47 : ∀ (nn : Nat) (i_ : Nat) (_ : 6 - i_ < nn) (hi_ : i_ ≤ 6) (H : Heap) (locs : List Loc) (ls : Array Slot), Rh G w (u1 (fiZ z (¬ z.1 0 23 = 0 ∨ ¬ z.1 0 24 = (-1) ∨ ¬ aQ z - pQ z ≤ 6) (-11)) 0 25 (ltQ z i_)) H → va_S (xA w s.heap.size) s.heap H locs → lv_has ls 2 [(0, .ref (w.2.2 0)), (1, .int (nI i_))] → W p l e rm_X10_seesName s mt args below meth c H locs 0 0 Q (F0 mt 47 ls []) from LP_47 ((_) + 1) 0 (Nat.lt_succ_self _) (by omega) _ _ _ hR hS (lv_sub hl [1, 0] rfl)
          intro nn
          induction nn with
          | zero => intro i_ hm_ ; exact absurd hm_ (Nat.not_lt_zero _)
          | succ nn ih_47 =>
            intro i_ hm_47 hi_ H locs ls hR hS hl
            refine lv_iload_n hx hcb dX10_seesName_47 rfl (lv_at hl 1 rfl) ?_
            refine lv_bipush (v := (nI 6)) hx hcb dX10_seesName_48 (by decide) ?_
            refine lv_icmp_ge (tgt := 110) hx hcb dX10_seesName_50 (by decide) (fun c_23 => ?_) (fun c_23 => ?_)
            · skip
              have c_23 : 6 ≤ i_ := (nI_leI (by omega) (by omega)).mp c_23
              obtain rfl : 6 = i_ := by omega
              exact hret (u1 (fiZ z (¬ z.1 0 23 = 0 ∨ ¬ z.1 0 24 = (-1) ∨ ¬ aQ z - pQ z ≤ 6) (-11)) 0 25 (ltQ z 6)) _ _ _ _ dX10_seesName_110 hR hS (by unfold snZ; first | (rw [if_pos hE_]; done) | (rw [if_neg hE_]; done) | (rw [if_pos hE_]; rfl) | (rw [if_neg hE_]; rfl))
            · skip
              have c_23 : ¬ 6 ≤ i_ := fun h_ => c_23 ((nI_leI (by omega) (by omega)).mpr h_)
              refine lv_aload_n hx hcb dX10_seesName_53 rfl (lv_at hl 0 rfl) ?_
              refine x_getI hx hcb hts hown hK xc10 hR (hw.lo (by decide)) (hw.s0 rfl) 26 (by decide) rfl q_1192 dX10_seesName_54 ?_
              refine x_top (show ((u1 (fiZ z (¬ z.1 0 23 = 0 ∨ ¬ z.1 0 24 = (-1) ∨ ¬ aQ z - pQ z ≤ 6) (-11)) 0 25 (ltQ z i_)).1 0 26) = ((fiZ z (¬ z.1 0 23 = 0 ∨ ¬ z.1 0 24 = (-1) ∨ ¬ aQ z - pQ z ≤ 6) (-11)).1 0 26) from rfl) ?_
              refine lv_if_ne (tgt := 110) hx hcb dX10_seesName_57 (by decide) (fun c_24 => ?_) (fun c_24 => ?_)
              · skip
                exact absurd hE_ c_24
              · skip
                refine lv_aload_n hx hcb dX10_seesName_60 rfl (lv_at hl 0 rfl) ?_
                refine lv_aload_n hx hcb dX10_seesName_61 rfl (lv_at hl 0 rfl) ?_
                refine x_getI hx hcb hts hown hK xc10 hR (hw.lo (by decide)) (hw.s0 rfl) 25 (by decide) rfl q_1191 dX10_seesName_62 ?_
                refine x_top (show ((u1 (fiZ z (¬ z.1 0 23 = 0 ∨ ¬ z.1 0 24 = (-1) ∨ ¬ aQ z - pQ z ≤ 6) (-11)) 0 25 (ltQ z i_)).1 0 25) = (ltQ z i_) from rfl) ?_
                refine lv_iconst (v := (nI 5)) hx hcb dX10_seesName_65 (by decide) ?_
                refine lv_ishl hx hcb dX10_seesName_66 ?_
                refine lv_aload_n hx hcb dX10_seesName_67 rfl (lv_at hl 0 rfl) ?_
                refine x_getI hx hcb hts hown hK xc10 hR (hw.lo (by decide)) (hw.s0 rfl) 22 (by decide) rfl q_1188 dX10_seesName_68 ?_
                refine x_top (show ((u1 (fiZ z (¬ z.1 0 23 = 0 ∨ ¬ z.1 0 24 = (-1) ∨ ¬ aQ z - pQ z ≤ 6) (-11)) 0 25 (ltQ z i_)).1 0 22) = (nI (pQ z)) from (fi_k (z := z) (k := 22) (by decide) (by decide)).trans hT5_) ?_
                refine lv_iload_n hx hcb dX10_seesName_71 rfl (lv_at hl 1 rfl) ?_
                refine x_iaddN hx hcb dX10_seesName_72 ?_
                refine lv_aload_n hx hcb dX10_seesName_73 rfl (lv_at hl 0 rfl) ?_
                refine x_getI hx hcb hts hown hK xc10 hR (hw.lo (by decide)) (hw.s0 rfl) 21 (by decide) rfl q_1187 dX10_seesName_74 ?_
                refine x_top (show ((u1 (fiZ z (¬ z.1 0 23 = 0 ∨ ¬ z.1 0 24 = (-1) ∨ ¬ aQ z - pQ z ≤ 6) (-11)) 0 25 (ltQ z i_)).1 0 21) = (nI (aQ z)) from (fi_k (z := z) (k := 21) (by decide) (by decide)).trans hT1_) ?_
                refine lv_icmp_ge (tgt := 99) hx hcb dX10_seesName_77 (by decide) (fun c_25 => ?_) (fun c_25 => ?_)
                · skip
                  have c_25 : (aQ z) ≤ ((pQ z) + i_) := (nI_leI (by omega) (by omega)).mp c_25
                  have hq_ : ¬ pQ z + i_ < aQ z := by omega
                  refine lv_iconst (v := (nI 0)) hx hcb dX10_seesName_99 (by decide) ?_
                  refine lv_ior hx hcb dX10_seesName_100 ?_
                  refine x_putI hx hcb hts hown hK xc10 hR hS (hw.lo (by decide)) (hw.s0 rfl) 25 (by decide) rfl q_1191 rfl (v := (((ltQ z i_) <<< ((nI 5) &&& 31)) ||| (nI 0))) rfl rfl dX10_seesName_101 (fun H locs hR hS => ?_)
                  refine lv_iinc (v := (nI (i_ + 1))) (lv' := [(1, .int (nI (i_ + 1))), (0, .ref (w.2.2 0))]) hx hcb dX10_seesName_104 hl (k := 1) rfl (x_iinc1 _) (by decide) rfl (fun ls hl => ?_)
                  refine lv_goto (tgt := 47) hx hcb dX10_seesName_107 (by decide) ?_
                  rw [show (u1 (u1 (fiZ z (¬ z.1 0 23 = 0 ∨ ¬ z.1 0 24 = (-1) ∨ ¬ aQ z - pQ z ≤ 6) (-11)) 0 25 (ltQ z i_)) 0 25 (((ltQ z i_) <<< ((nI 5) &&& 31)) ||| (nI 0))) = (u1 (fiZ z (¬ z.1 0 23 = 0 ∨ ¬ z.1 0 24 = (-1) ∨ ¬ aQ z - pQ z ≤ 6) (-11)) 0 25 (ltQ z (i_ + 1))) from by rw [u1_u1]; first | rw [ltQ_y hq_] | rw [ltQ_n hq_]] at hR
                  exact ih_47 (i_ + 1) (by omega) (by omega) _ _ _ hR hS (lv_sub hl [1, 0] rfl)
                · skip
                  have c_25 : ¬ (aQ z) ≤ ((pQ z) + i_) := fun h_ => c_25 ((nI_leI (by omega) (by omega)).mpr h_)
                  have hq_ : pQ z + i_ < aQ z := by omega
                  refine lv_aload_n hx hcb dX10_seesName_80 rfl (lv_at hl 0 rfl) ?_
                  refine x_getR hx hcb hts hown hK xc10 hR (hw.lo (by decide)) (hw.s0 rfl) 1 (by decide) rfl q_1167 dX10_seesName_81 ?_
                  refine lv_aload_n hx hcb dX10_seesName_84 rfl (lv_at hl 0 rfl) ?_
                  refine x_getI hx hcb hts hown hK xc10 hR (hw.lo (by decide)) (hw.s0 rfl) 22 (by decide) rfl q_1188 dX10_seesName_85 ?_
                  refine x_top (show ((u1 (fiZ z (¬ z.1 0 23 = 0 ∨ ¬ z.1 0 24 = (-1) ∨ ¬ aQ z - pQ z ≤ 6) (-11)) 0 25 (ltQ z i_)).1 0 22) = (nI (pQ z)) from (fi_k (z := z) (k := 22) (by decide) (by decide)).trans hT5_) ?_
                  refine lv_iload_n hx hcb dX10_seesName_88 rfl (lv_at hl 1 rfl) ?_
                  refine x_iaddN hx hcb dX10_seesName_89 ?_
                  refine x_iald hx hcb hK hR (hw.lo (by decide)) (hw.s0 rfl) (k := ((pQ z) + i_)) (by omega) (by decide) dX10_seesName_90 ?_
                  refine x_top (show ((u1 (fiZ z (¬ z.1 0 23 = 0 ∨ ¬ z.1 0 24 = (-1) ∨ ¬ aQ z - pQ z ≤ 6) (-11)) 0 25 (ltQ z i_)).1 1 ((pQ z) + i_)) = (z.1 1 (pQ z + i_)) from congrFun (fi_o (z := z) (o := 1) (by decide)) _) ?_
                  refine lv_bipush (v := (nI 97)) hx hcb dX10_seesName_91 (by decide) ?_
                  refine lv_isub hx hcb dX10_seesName_93 ?_
                  refine lv_iconst (v := (nI 1)) hx hcb dX10_seesName_94 (by decide) ?_
                  refine lv_iadd hx hcb dX10_seesName_95 ?_
                  refine lv_goto (tgt := 100) hx hcb dX10_seesName_96 (by decide) ?_
                  refine lv_ior hx hcb dX10_seesName_100 ?_
                  refine x_putI hx hcb hts hown hK xc10 hR hS (hw.lo (by decide)) (hw.s0 rfl) 25 (by decide) rfl q_1191 rfl (v := (((ltQ z i_) <<< ((nI 5) &&& 31)) ||| (((z.1 1 (pQ z + i_)) - (nI 97)) + (nI 1)))) rfl rfl dX10_seesName_101 (fun H locs hR hS => ?_)
                  refine lv_iinc (v := (nI (i_ + 1))) (lv' := [(1, .int (nI (i_ + 1))), (0, .ref (w.2.2 0))]) hx hcb dX10_seesName_104 hl (k := 1) rfl (x_iinc1 _) (by decide) rfl (fun ls hl => ?_)
                  refine lv_goto (tgt := 47) hx hcb dX10_seesName_107 (by decide) ?_
                  rw [show (u1 (u1 (fiZ z (¬ z.1 0 23 = 0 ∨ ¬ z.1 0 24 = (-1) ∨ ¬ aQ z - pQ z ≤ 6) (-11)) 0 25 (ltQ z i_)) 0 25 (((ltQ z i_) <<< ((nI 5) &&& 31)) ||| (((z.1 1 (pQ z + i_)) - (nI 97)) + (nI 1)))) = (u1 (fiZ z (¬ z.1 0 23 = 0 ∨ ¬ z.1 0 24 = (-1) ∨ ¬ aQ z - pQ z ≤ 6) (-11)) 0 25 (ltQ z (i_ + 1))) from by rw [u1_u1]; first | rw [ltQ_y hq_] | rw [ltQ_n hq_]] at hR
                  exact ih_47 (i_ + 1) (by omega) (by omega) _ _ _ hR hS (lv_sub hl [1, 0] rfl)
        · skip
          refine lv_iload_n hx hcb dX10_seesName_47 rfl (lv_at hl 0 rfl) ?_
          refine lv_bipush (v := (nI 6)) hx hcb dX10_seesName_48 (by decide) ?_
          refine lv_icmp_ge (tgt := 110) hx hcb dX10_seesName_50 (by decide) (fun c_26 => ?_) (fun c_26 => ?_)
          · skip
            first | exact absurd c_26 (by decide) | exact absurd (by decide) c_26
          · skip
            refine lv_aload_n hx hcb dX10_seesName_53 rfl (lv_at hl 1 rfl) ?_
            refine x_getI hx hcb hts hown hK xc10 hR (hw.lo (by decide)) (hw.s0 rfl) 26 (by decide) rfl q_1192 dX10_seesName_54 ?_
            refine x_top (show ((u1 (fiZ z (¬ z.1 0 23 = 0 ∨ ¬ z.1 0 24 = (-1) ∨ ¬ aQ z - pQ z ≤ 6) (-11)) 0 25 0).1 0 26) = ((fiZ z (¬ z.1 0 23 = 0 ∨ ¬ z.1 0 24 = (-1) ∨ ¬ aQ z - pQ z ≤ 6) (-11)).1 0 26) from rfl) ?_
            refine lv_if_ne (tgt := 110) hx hcb dX10_seesName_57 (by decide) (fun c_27 => ?_) (fun c_27 => ?_)
            · skip
              exact hret (u1 (fiZ z (¬ z.1 0 23 = 0 ∨ ¬ z.1 0 24 = (-1) ∨ ¬ aQ z - pQ z ≤ 6) (-11)) 0 25 0) _ _ _ _ dX10_seesName_110 hR hS (by unfold snZ; first | (rw [if_pos hE_]; done) | (rw [if_neg hE_]; done) | (rw [if_pos hE_]; rfl) | (rw [if_neg hE_]; rfl))
            · skip
              exact absurd c_27 hE_
      · skip
        have c_19 : ¬ ((aQ z) - (pQ z)) ≤ 6 := fun h_ => c_19 ((nI_leI (by omega) (by omega)).mpr h_)
        have hA_ : ¬ z.1 0 23 = 0 ∨ ¬ z.1 0 24 = (-1) ∨ ¬ aQ z - pQ z ≤ 6 := Or.inr (Or.inr c_19)
        refine lv_iconst (v := (nI 1)) hx hcb dX10_seesName_30 (by decide) ?_
        refine lv_goto (tgt := 35) hx hcb dX10_seesName_31 (by decide) ?_
        refine lv_bipush (v := (-11)) hx hcb dX10_seesName_35 (by decide) ?_
        refine x_cv0 rfl rfl (x_runV hx hcb hml hown hts (c_X10_failsIf l G w hw z _ 1 (-11) (¬ z.1 0 23 = 0 ∨ ¬ z.1 0 24 = (-1) ∨ ¬ aQ z - pQ z ≤ 6) (by first | (rw [if_pos hA_]; first | done | rfl) | (rw [if_neg hA_]; first | done | rfl))) mv_X10_failsIf q_1308 hK hZ hR hS (hw.lo (by decide)) xc10 (hw.s0 rfl) rfl hl.1 rfl (Nat.le_of_ble_eq_true rfl) dX10_seesName_37 ⟨by decide, by decide⟩ ⟨by decide, by decide⟩) hS (fun z_29 H locs hp_30 hR hS => ?_)
        rw [hp_30] at hR
        refine lv_aload_n hx hcb dX10_seesName_40 rfl (lv_at hl 0 rfl) ?_
        refine lv_iconst (v := (nI 0)) hx hcb dX10_seesName_41 (by decide) ?_
        refine x_putI hx hcb hts hown hK xc10 hR hS (hw.lo (by decide)) (hw.s0 rfl) 25 (by decide) rfl q_1191 rfl (v := 0) rfl rfl dX10_seesName_42 (fun H locs hR hS => ?_)
        refine lv_iconst (v := (nI 0)) hx hcb dX10_seesName_45 (by decide) ?_
        refine lv_istore_n (lv' := [(1, .int (nI 0)), (0, .ref (w.2.2 0))]) hx hcb dX10_seesName_46 rfl hl (by decide) rfl (fun ls hl => ?_)
        by_cases hE_ : (fiZ z (¬ z.1 0 23 = 0 ∨ ¬ z.1 0 24 = (-1) ∨ ¬ aQ z - pQ z ≤ 6) (-11)).1 0 26 = 0
        · skip
          rw [show u1 (fiZ z (¬ z.1 0 23 = 0 ∨ ¬ z.1 0 24 = (-1) ∨ ¬ aQ z - pQ z ≤ 6) (-11)) 0 25 0 = u1 (fiZ z (¬ z.1 0 23 = 0 ∨ ¬ z.1 0 24 = (-1) ∨ ¬ aQ z - pQ z ≤ 6) (-11)) 0 25 (ltQ z 0) from rfl] at hR
          suffices LP_47 : ∀ (nn : Nat) (i_ : Nat) (_ : 6 - i_ < nn) (hi_ : i_ ≤ 6) (H : Heap) (locs : List Loc) (ls : Array Slot), Rh G w (u1 (fiZ z (¬ z.1 0 23 = 0 ∨ ¬ z.1 0 24 = (-1) ∨ ¬ aQ z - pQ z ≤ 6) (-11)) 0 25 (ltQ z i_)) H → va_S (xA w s.heap.size) s.heap H locs → lv_has ls 2 [(0, .ref (w.2.2 0)), (1, .int (nI i_))] → W p l e rm_X10_seesName s mt args below meth c H locs 0 0 Q (F0 mt 47 ls []) from LP_47 ((_) + 1) 0 (Nat.lt_succ_self _) (by omega) _ _ _ hR hS (lv_sub hl [1, 0] rfl)
          intro nn
          induction nn with
          | zero => intro i_ hm_ ; exact absurd hm_ (Nat.not_lt_zero _)
          | succ nn ih_47 =>
            intro i_ hm_47 hi_ H locs ls hR hS hl
            refine lv_iload_n hx hcb dX10_seesName_47 rfl (lv_at hl 1 rfl) ?_
            refine lv_bipush (v := (nI 6)) hx hcb dX10_seesName_48 (by decide) ?_
            refine lv_icmp_ge (tgt := 110) hx hcb dX10_seesName_50 (by decide) (fun c_31 => ?_) (fun c_31 => ?_)
            · skip
              have c_31 : 6 ≤ i_ := (nI_leI (by omega) (by omega)).mp c_31
              obtain rfl : 6 = i_ := by omega
              exact hret (u1 (fiZ z (¬ z.1 0 23 = 0 ∨ ¬ z.1 0 24 = (-1) ∨ ¬ aQ z - pQ z ≤ 6) (-11)) 0 25 (ltQ z 6)) _ _ _ _ dX10_seesName_110 hR hS (by unfold snZ; first | (rw [if_pos hE_]; done) | (rw [if_neg hE_]; done) | (rw [if_pos hE_]; rfl) | (rw [if_neg hE_]; rfl))
            · skip
              have c_31 : ¬ 6 ≤ i_ := fun h_ => c_31 ((nI_leI (by omega) (by omega)).mpr h_)
              refine lv_aload_n hx hcb dX10_seesName_53 rfl (lv_at hl 0 rfl) ?_
              refine x_getI hx hcb hts hown hK xc10 hR (hw.lo (by decide)) (hw.s0 rfl) 26 (by decide) rfl q_1192 dX10_seesName_54 ?_
              refine x_top (show ((u1 (fiZ z (¬ z.1 0 23 = 0 ∨ ¬ z.1 0 24 = (-1) ∨ ¬ aQ z - pQ z ≤ 6) (-11)) 0 25 (ltQ z i_)).1 0 26) = ((fiZ z (¬ z.1 0 23 = 0 ∨ ¬ z.1 0 24 = (-1) ∨ ¬ aQ z - pQ z ≤ 6) (-11)).1 0 26) from rfl) ?_
              refine lv_if_ne (tgt := 110) hx hcb dX10_seesName_57 (by decide) (fun c_32 => ?_) (fun c_32 => ?_)
              · skip
                exact absurd hE_ c_32
              · skip
                refine lv_aload_n hx hcb dX10_seesName_60 rfl (lv_at hl 0 rfl) ?_
                refine lv_aload_n hx hcb dX10_seesName_61 rfl (lv_at hl 0 rfl) ?_
                refine x_getI hx hcb hts hown hK xc10 hR (hw.lo (by decide)) (hw.s0 rfl) 25 (by decide) rfl q_1191 dX10_seesName_62 ?_
                refine x_top (show ((u1 (fiZ z (¬ z.1 0 23 = 0 ∨ ¬ z.1 0 24 = (-1) ∨ ¬ aQ z - pQ z ≤ 6) (-11)) 0 25 (ltQ z i_)).1 0 25) = (ltQ z i_) from rfl) ?_
                refine lv_iconst (v := (nI 5)) hx hcb dX10_seesName_65 (by decide) ?_
                refine lv_ishl hx hcb dX10_seesName_66 ?_
                refine lv_aload_n hx hcb dX10_seesName_67 rfl (lv_at hl 0 rfl) ?_
                refine x_getI hx hcb hts hown hK xc10 hR (hw.lo (by decide)) (hw.s0 rfl) 22 (by decide) rfl q_1188 dX10_seesName_68 ?_
                refine x_top (show ((u1 (fiZ z (¬ z.1 0 23 = 0 ∨ ¬ z.1 0 24 = (-1) ∨ ¬ aQ z - pQ z ≤ 6) (-11)) 0 25 (ltQ z i_)).1 0 22) = (nI (pQ z)) from (fi_k (z := z) (k := 22) (by decide) (by decide)).trans hT5_) ?_
                refine lv_iload_n hx hcb dX10_seesName_71 rfl (lv_at hl 1 rfl) ?_
                refine x_iaddN hx hcb dX10_seesName_72 ?_
                refine lv_aload_n hx hcb dX10_seesName_73 rfl (lv_at hl 0 rfl) ?_
                refine x_getI hx hcb hts hown hK xc10 hR (hw.lo (by decide)) (hw.s0 rfl) 21 (by decide) rfl q_1187 dX10_seesName_74 ?_
                refine x_top (show ((u1 (fiZ z (¬ z.1 0 23 = 0 ∨ ¬ z.1 0 24 = (-1) ∨ ¬ aQ z - pQ z ≤ 6) (-11)) 0 25 (ltQ z i_)).1 0 21) = (nI (aQ z)) from (fi_k (z := z) (k := 21) (by decide) (by decide)).trans hT1_) ?_
                refine lv_icmp_ge (tgt := 99) hx hcb dX10_seesName_77 (by decide) (fun c_33 => ?_) (fun c_33 => ?_)
                · skip
                  have c_33 : (aQ z) ≤ ((pQ z) + i_) := (nI_leI (by omega) (by omega)).mp c_33
                  have hq_ : ¬ pQ z + i_ < aQ z := by omega
                  refine lv_iconst (v := (nI 0)) hx hcb dX10_seesName_99 (by decide) ?_
                  refine lv_ior hx hcb dX10_seesName_100 ?_
                  refine x_putI hx hcb hts hown hK xc10 hR hS (hw.lo (by decide)) (hw.s0 rfl) 25 (by decide) rfl q_1191 rfl (v := (((ltQ z i_) <<< ((nI 5) &&& 31)) ||| (nI 0))) rfl rfl dX10_seesName_101 (fun H locs hR hS => ?_)
                  refine lv_iinc (v := (nI (i_ + 1))) (lv' := [(1, .int (nI (i_ + 1))), (0, .ref (w.2.2 0))]) hx hcb dX10_seesName_104 hl (k := 1) rfl (x_iinc1 _) (by decide) rfl (fun ls hl => ?_)
                  refine lv_goto (tgt := 47) hx hcb dX10_seesName_107 (by decide) ?_
                  rw [show (u1 (u1 (fiZ z (¬ z.1 0 23 = 0 ∨ ¬ z.1 0 24 = (-1) ∨ ¬ aQ z - pQ z ≤ 6) (-11)) 0 25 (ltQ z i_)) 0 25 (((ltQ z i_) <<< ((nI 5) &&& 31)) ||| (nI 0))) = (u1 (fiZ z (¬ z.1 0 23 = 0 ∨ ¬ z.1 0 24 = (-1) ∨ ¬ aQ z - pQ z ≤ 6) (-11)) 0 25 (ltQ z (i_ + 1))) from by rw [u1_u1]; first | rw [ltQ_y hq_] | rw [ltQ_n hq_]] at hR
                  exact ih_47 (i_ + 1) (by omega) (by omega) _ _ _ hR hS (lv_sub hl [1, 0] rfl)
                · skip
                  have c_33 : ¬ (aQ z) ≤ ((pQ z) + i_) := fun h_ => c_33 ((nI_leI (by omega) (by omega)).mpr h_)
                  have hq_ : pQ z + i_ < aQ z := by omega
                  refine lv_aload_n hx hcb dX10_seesName_80 rfl (lv_at hl 0 rfl) ?_
                  refine x_getR hx hcb hts hown hK xc10 hR (hw.lo (by decide)) (hw.s0 rfl) 1 (by decide) rfl q_1167 dX10_seesName_81 ?_
                  refine lv_aload_n hx hcb dX10_seesName_84 rfl (lv_at hl 0 rfl) ?_
                  refine x_getI hx hcb hts hown hK xc10 hR (hw.lo (by decide)) (hw.s0 rfl) 22 (by decide) rfl q_1188 dX10_seesName_85 ?_
                  refine x_top (show ((u1 (fiZ z (¬ z.1 0 23 = 0 ∨ ¬ z.1 0 24 = (-1) ∨ ¬ aQ z - pQ z ≤ 6) (-11)) 0 25 (ltQ z i_)).1 0 22) = (nI (pQ z)) from (fi_k (z := z) (k := 22) (by decide) (by decide)).trans hT5_) ?_
                  refine lv_iload_n hx hcb dX10_seesName_88 rfl (lv_at hl 1 rfl) ?_
                  refine x_iaddN hx hcb dX10_seesName_89 ?_
                  refine x_iald hx hcb hK hR (hw.lo (by decide)) (hw.s0 rfl) (k := ((pQ z) + i_)) (by omega) (by decide) dX10_seesName_90 ?_
                  refine x_top (show ((u1 (fiZ z (¬ z.1 0 23 = 0 ∨ ¬ z.1 0 24 = (-1) ∨ ¬ aQ z - pQ z ≤ 6) (-11)) 0 25 (ltQ z i_)).1 1 ((pQ z) + i_)) = (z.1 1 (pQ z + i_)) from congrFun (fi_o (z := z) (o := 1) (by decide)) _) ?_
                  refine lv_bipush (v := (nI 97)) hx hcb dX10_seesName_91 (by decide) ?_
                  refine lv_isub hx hcb dX10_seesName_93 ?_
                  refine lv_iconst (v := (nI 1)) hx hcb dX10_seesName_94 (by decide) ?_
                  refine lv_iadd hx hcb dX10_seesName_95 ?_
                  refine lv_goto (tgt := 100) hx hcb dX10_seesName_96 (by decide) ?_
                  refine lv_ior hx hcb dX10_seesName_100 ?_
                  refine x_putI hx hcb hts hown hK xc10 hR hS (hw.lo (by decide)) (hw.s0 rfl) 25 (by decide) rfl q_1191 rfl (v := (((ltQ z i_) <<< ((nI 5) &&& 31)) ||| (((z.1 1 (pQ z + i_)) - (nI 97)) + (nI 1)))) rfl rfl dX10_seesName_101 (fun H locs hR hS => ?_)
                  refine lv_iinc (v := (nI (i_ + 1))) (lv' := [(1, .int (nI (i_ + 1))), (0, .ref (w.2.2 0))]) hx hcb dX10_seesName_104 hl (k := 1) rfl (x_iinc1 _) (by decide) rfl (fun ls hl => ?_)
                  refine lv_goto (tgt := 47) hx hcb dX10_seesName_107 (by decide) ?_
                  rw [show (u1 (u1 (fiZ z (¬ z.1 0 23 = 0 ∨ ¬ z.1 0 24 = (-1) ∨ ¬ aQ z - pQ z ≤ 6) (-11)) 0 25 (ltQ z i_)) 0 25 (((ltQ z i_) <<< ((nI 5) &&& 31)) ||| (((z.1 1 (pQ z + i_)) - (nI 97)) + (nI 1)))) = (u1 (fiZ z (¬ z.1 0 23 = 0 ∨ ¬ z.1 0 24 = (-1) ∨ ¬ aQ z - pQ z ≤ 6) (-11)) 0 25 (ltQ z (i_ + 1))) from by rw [u1_u1]; first | rw [ltQ_y hq_] | rw [ltQ_n hq_]] at hR
                  exact ih_47 (i_ + 1) (by omega) (by omega) _ _ _ hR hS (lv_sub hl [1, 0] rfl)
        · skip
          refine lv_iload_n hx hcb dX10_seesName_47 rfl (lv_at hl 0 rfl) ?_
          refine lv_bipush (v := (nI 6)) hx hcb dX10_seesName_48 (by decide) ?_
          refine lv_icmp_ge (tgt := 110) hx hcb dX10_seesName_50 (by decide) (fun c_34 => ?_) (fun c_34 => ?_)
          · skip
            first | exact absurd c_34 (by decide) | exact absurd (by decide) c_34
          · skip
            refine lv_aload_n hx hcb dX10_seesName_53 rfl (lv_at hl 1 rfl) ?_
            refine x_getI hx hcb hts hown hK xc10 hR (hw.lo (by decide)) (hw.s0 rfl) 26 (by decide) rfl q_1192 dX10_seesName_54 ?_
            refine x_top (show ((u1 (fiZ z (¬ z.1 0 23 = 0 ∨ ¬ z.1 0 24 = (-1) ∨ ¬ aQ z - pQ z ≤ 6) (-11)) 0 25 0).1 0 26) = ((fiZ z (¬ z.1 0 23 = 0 ∨ ¬ z.1 0 24 = (-1) ∨ ¬ aQ z - pQ z ≤ 6) (-11)).1 0 26) from rfl) ?_
            refine lv_if_ne (tgt := 110) hx hcb dX10_seesName_57 (by decide) (fun c_35 => ?_) (fun c_35 => ?_)
            · skip
              exact hret (u1 (fiZ z (¬ z.1 0 23 = 0 ∨ ¬ z.1 0 24 = (-1) ∨ ¬ aQ z - pQ z ≤ 6) (-11)) 0 25 0) _ _ _ _ dX10_seesName_110 hR hS (by unfold snZ; first | (rw [if_pos hE_]; done) | (rw [if_neg hE_]; done) | (rw [if_pos hE_]; rfl) | (rw [if_neg hE_]; rfl))
            · skip
              exact absurd c_35 hE_
def rm_X10_newName : Room := { frames := 7, cells := 0, slots := 0, locals := 149 }
set_option maxRecDepth 100000 in
set_option maxHeartbeats 4000000 in
theorem c_X10_newName (l : Launch) (G : xGl) (w : xWd) (hw : isM w) (z : xSt) (sz : Nat)  (hT : zOk z) (hO : rOk z) : xMi l yX10_newName cX10_newName 2 (some FieldType.int) rm_X10_newName G w z sz [.ref (w.2.2 0)] (fun r z1 => r = (snZ z).1 0 25 ∧ z1 = nnZ z) := by
  refine x_mi (by decide) (Nat.le_of_ble_eq_true rfl) ?_
  intro p e s mt args below meth c ls Q hsz X hR hS hl hret
  obtain ⟨hx, hcb, hml, hown, hts, hlk, hK, hZ⟩ := X
  have hl : lv_has ls 2 [(0, .ref (w.2.2 0))] := hl
  have hoS_ := (sn_fr z).ok hO
  have hm8_ := hoS_.2.1
  have hd4_ := hoS_.2.2.2.1
  refine lv_aload_n hx hcb dX10_newName_0 rfl (lv_at hl 0 rfl) ?_
  refine x_cv0 rfl rfl (x_runV hx hcb hml hown hts (c_X10_seesName l G w hw z _ hT) mv_X10_seesName q_1320 hK hZ hR hS (hw.lo (by decide)) xc10 (hw.s0 rfl) rfl hl.1 rfl (Nat.le_of_ble_eq_true rfl) dX10_newName_1 ⟨by decide, by decide⟩ ⟨by decide, by decide⟩) hS (fun z_2 H locs hp_3 hR hS => ?_)
  rw [hp_3] at hR
  refine lv_aload_n hx hcb dX10_newName_4 rfl (lv_at hl 0 rfl) ?_
  refine lv_iconst (v := (nI 0)) hx hcb dX10_newName_5 (by decide) ?_
  refine lv_aload_n hx hcb dX10_newName_6 rfl (lv_at hl 0 rfl) ?_
  refine x_getR hx hcb hts hown hK xc10 hR (hw.lo (by decide)) (hw.s0 rfl) 3 (by decide) rfl q_1169 dX10_newName_7 ?_
  refine lv_bipush (v := (nI 12)) hx hcb dX10_newName_10 (by decide) ?_
  refine x_iald hx hcb hK hR (hw.lo (by decide)) (hw.s0 rfl) (k := 12) (by omega) (by decide) dX10_newName_12 ?_
  refine x_top (show ((snZ z).1 2 12) = (nI (mQ (snZ z) 12)) from hoS_.1) ?_
  refine lv_aload_n hx hcb dX10_newName_13 rfl (lv_at hl 0 rfl) ?_
  refine x_getI hx hcb hts hown hK xc10 hR (hw.lo (by decide)) (hw.s0 rfl) 25 (by decide) rfl q_1191 dX10_newName_14 ?_
  refine x_ci0 rfl rfl (x_runV hx hcb hml hown hts (c_X10_found l G w hw (snZ z) _ 0 (mQ (snZ z) 12) ((snZ z).1 0 25) (by omega)) mv_X10_found q_1324 hK hZ hR hS (hw.lo (by decide)) xc10 (hw.s0 rfl) rfl hl.1 rfl (Nat.le_of_ble_eq_true rfl) dX10_newName_17 ⟨by decide, by decide⟩ ⟨by decide, by decide⟩) hS (fun r_4 z_5 H locs hp_6 hR hS => ?_)
  rw [hp_6.2] at hR; rw [hp_6.1]
  refine x_top (show (xff (fun k => decide ((snZ z).1 2 (0 + k) = ((snZ z).1 0 25))) (mQ (snZ z) 12) 0) = (xff (fun k => decide ((snZ z).1 2 (0 + k) = (snZ z).1 0 25)) (mQ (snZ z) 12) 0) from rfl) ?_
  refine lv_iconst (v := (-1)) hx hcb dX10_newName_20 (by decide) ?_
  refine lv_icmp_ne (tgt := 45) hx hcb dX10_newName_21 (by decide) (fun c_7 => ?_) (fun c_7 => ?_)
  · skip
    have hH_ : hdQ (snZ z) := Or.inl c_7
    refine lv_iconst (v := (nI 1)) hx hcb dX10_newName_45 (by decide) ?_
    refine lv_goto (tgt := 50) hx hcb dX10_newName_46 (by decide) ?_
    refine lv_istore_n (lv' := [(1, .int (nI 1)), (0, .ref (w.2.2 0))]) hx hcb dX10_newName_50 rfl hl (by decide) rfl (fun ls hl => ?_)
    refine lv_aload_n hx hcb dX10_newName_51 rfl (lv_at hl 1 rfl) ?_
    refine lv_aload_n hx hcb dX10_newName_52 rfl (lv_at hl 1 rfl) ?_
    refine x_getI hx hcb hts hown hK xc10 hR (hw.lo (by decide)) (hw.s0 rfl) 26 (by decide) rfl q_1192 dX10_newName_53 ?_
    refine lv_if_ne (tgt := 67) hx hcb dX10_newName_56 (by decide) (fun c_8 => ?_) (fun c_8 => ?_)
    · skip
      have hB_ : ¬ ((snZ z).1 0 26 = 0 ∧ hdQ (snZ z)) := fun q_ => c_8 q_.1
      refine lv_iconst (v := (nI 0)) hx hcb dX10_newName_67 (by decide) ?_
      refine lv_bipush (v := (-14)) hx hcb dX10_newName_68 (by decide) ?_
      refine x_cv0 rfl rfl (x_runV hx hcb hml hown hts (c_X10_failsIf l G w hw (snZ z) _ 0 (-14) ((snZ z).1 0 26 = 0 ∧ hdQ (snZ z)) (by first | (rw [if_pos hB_]; first | done | rfl) | (rw [if_neg hB_]; first | done | rfl))) mv_X10_failsIf q_1308 hK hZ hR hS (hw.lo (by decide)) xc10 (hw.s0 rfl) rfl hl.1 rfl (Nat.le_of_ble_eq_true rfl) dX10_newName_70 ⟨by decide, by decide⟩ ⟨by decide, by decide⟩) hS (fun z_10 H locs hp_11 hR hS => ?_)
      rw [hp_11] at hR
      refine lv_aload_n hx hcb dX10_newName_73 rfl (lv_at hl 1 rfl) ?_
      refine x_cv0 rfl rfl (x_runV hx hcb hml hown hts (c_X10_goOn l G w hw (fiZ (snZ z) ((snZ z).1 0 26 = 0 ∧ hdQ (snZ z)) (-14)) _ ((sn_ok hT).fi.1)) mv_X10_goOn q_1312 hK hZ hR hS (hw.lo (by decide)) xc10 (hw.s0 rfl) rfl hl.1 rfl (Nat.le_of_ble_eq_true rfl) dX10_newName_74 ⟨by decide, by decide⟩ ⟨by decide, by decide⟩) hS (fun z_13 H locs hp_14 hR hS => ?_)
      rw [hp_14] at hR
      refine lv_aload_n hx hcb dX10_newName_77 rfl (lv_at hl 1 rfl) ?_
      refine x_getI hx hcb hts hown hK xc10 hR (hw.lo (by decide)) (hw.s0 rfl) 25 (by decide) rfl q_1191 dX10_newName_78 ?_
      refine x_top (show ((goZ (fiZ (snZ z) ((snZ z).1 0 26 = 0 ∧ hdQ (snZ z)) (-14))).1 0 25) = ((snZ z).1 0 25) from nn_25 z) ?_
      exact hret ((snZ z).1 0 25) (goZ (fiZ (snZ z) ((snZ z).1 0 26 = 0 ∧ hdQ (snZ z)) (-14))) _ _ _ _ dX10_newName_81 rfl hR hS (⟨rfl, rfl⟩)
    · skip
      have hE_ : (snZ z).1 0 26 = 0 := c_8
      first | have hB_ : (snZ z).1 0 26 = 0 ∧ hdQ (snZ z) := ⟨hE_, hH_⟩ | have hB_ : ¬ ((snZ z).1 0 26 = 0 ∧ hdQ (snZ z)) := fun q_ => hH_ q_.2
      refine lv_iload_n hx hcb dX10_newName_59 rfl (lv_at hl 0 rfl) ?_
      refine lv_if_eq (tgt := 67) hx hcb dX10_newName_60 (by decide) (fun c_15 => ?_) (fun c_15 => ?_)
      · skip
        first | exact absurd c_15 (by decide) | exact absurd (by decide) c_15
      · skip
        skip
        refine lv_iconst (v := (nI 1)) hx hcb dX10_newName_63 (by decide) ?_
        refine lv_goto (tgt := 68) hx hcb dX10_newName_64 (by decide) ?_
        refine lv_bipush (v := (-14)) hx hcb dX10_newName_68 (by decide) ?_
        refine x_cv0 rfl rfl (x_runV hx hcb hml hown hts (c_X10_failsIf l G w hw (snZ z) _ 1 (-14) ((snZ z).1 0 26 = 0 ∧ hdQ (snZ z)) (by first | (rw [if_pos hB_]; first | done | rfl) | (rw [if_neg hB_]; first | done | rfl))) mv_X10_failsIf q_1308 hK hZ hR hS (hw.lo (by decide)) xc10 (hw.s0 rfl) rfl hl.1 rfl (Nat.le_of_ble_eq_true rfl) dX10_newName_70 ⟨by decide, by decide⟩ ⟨by decide, by decide⟩) hS (fun z_17 H locs hp_18 hR hS => ?_)
        rw [hp_18] at hR
        refine lv_aload_n hx hcb dX10_newName_73 rfl (lv_at hl 1 rfl) ?_
        refine x_cv0 rfl rfl (x_runV hx hcb hml hown hts (c_X10_goOn l G w hw (fiZ (snZ z) ((snZ z).1 0 26 = 0 ∧ hdQ (snZ z)) (-14)) _ ((sn_ok hT).fi.1)) mv_X10_goOn q_1312 hK hZ hR hS (hw.lo (by decide)) xc10 (hw.s0 rfl) rfl hl.1 rfl (Nat.le_of_ble_eq_true rfl) dX10_newName_74 ⟨by decide, by decide⟩ ⟨by decide, by decide⟩) hS (fun z_20 H locs hp_21 hR hS => ?_)
        rw [hp_21] at hR
        refine lv_aload_n hx hcb dX10_newName_77 rfl (lv_at hl 1 rfl) ?_
        refine x_getI hx hcb hts hown hK xc10 hR (hw.lo (by decide)) (hw.s0 rfl) 25 (by decide) rfl q_1191 dX10_newName_78 ?_
        refine x_top (show ((goZ (fiZ (snZ z) ((snZ z).1 0 26 = 0 ∧ hdQ (snZ z)) (-14))).1 0 25) = ((snZ z).1 0 25) from nn_25 z) ?_
        exact hret ((snZ z).1 0 25) (goZ (fiZ (snZ z) ((snZ z).1 0 26 = 0 ∧ hdQ (snZ z)) (-14))) _ _ _ _ dX10_newName_81 rfl hR hS (⟨rfl, rfl⟩)
  · skip
    have hH0_ := c_7
    refine lv_aload_n hx hcb dX10_newName_24 rfl (lv_at hl 0 rfl) ?_
    refine lv_bipush (v := (nI 8)) hx hcb dX10_newName_25 (by decide) ?_
    refine lv_aload_n hx hcb dX10_newName_27 rfl (lv_at hl 0 rfl) ?_
    refine x_getR hx hcb hts hown hK xc10 hR (hw.lo (by decide)) (hw.s0 rfl) 3 (by decide) rfl q_1169 dX10_newName_28 ?_
    refine lv_bipush (v := (nI 13)) hx hcb dX10_newName_31 (by decide) ?_
    refine x_iald hx hcb hK hR (hw.lo (by decide)) (hw.s0 rfl) (k := 13) (by omega) (by decide) dX10_newName_33 ?_
    refine x_top (show ((snZ z).1 2 13) = (nI (mQ (snZ z) 13)) from hoS_.2.2.1) ?_
    refine lv_aload_n hx hcb dX10_newName_34 rfl (lv_at hl 0 rfl) ?_
    refine x_getI hx hcb hts hown hK xc10 hR (hw.lo (by decide)) (hw.s0 rfl) 25 (by decide) rfl q_1191 dX10_newName_35 ?_
    refine x_ci0 rfl rfl (x_runV hx hcb hml hown hts (c_X10_found l G w hw (snZ z) _ 8 (mQ (snZ z) 13) ((snZ z).1 0 25) (by omega)) mv_X10_found q_1324 hK hZ hR hS (hw.lo (by decide)) xc10 (hw.s0 rfl) rfl hl.1 rfl (Nat.le_of_ble_eq_true rfl) dX10_newName_38 ⟨by decide, by decide⟩ ⟨by decide, by decide⟩) hS (fun r_22 z_23 H locs hp_24 hR hS => ?_)
    rw [hp_24.2] at hR; rw [hp_24.1]
    refine x_top (show (xff (fun k => decide ((snZ z).1 2 (8 + k) = ((snZ z).1 0 25))) (mQ (snZ z) 13) 0) = (xff (fun k => decide ((snZ z).1 2 (8 + k) = (snZ z).1 0 25)) (mQ (snZ z) 13) 0) from rfl) ?_
    refine lv_iconst (v := (-1)) hx hcb dX10_newName_41 (by decide) ?_
    refine lv_icmp_eq (tgt := 49) hx hcb dX10_newName_42 (by decide) (fun c_25 => ?_) (fun c_25 => ?_)
    · skip
      have hH_ : ¬ hdQ (snZ z) := fun q_ => q_.elim (fun t_ => t_ hH0_) (fun t_ => t_ c_25)
      refine lv_iconst (v := (nI 0)) hx hcb dX10_newName_49 (by decide) ?_
      refine lv_istore_n (lv' := [(1, .int (nI 0)), (0, .ref (w.2.2 0))]) hx hcb dX10_newName_50 rfl hl (by decide) rfl (fun ls hl => ?_)
      refine lv_aload_n hx hcb dX10_newName_51 rfl (lv_at hl 1 rfl) ?_
      refine lv_aload_n hx hcb dX10_newName_52 rfl (lv_at hl 1 rfl) ?_
      refine x_getI hx hcb hts hown hK xc10 hR (hw.lo (by decide)) (hw.s0 rfl) 26 (by decide) rfl q_1192 dX10_newName_53 ?_
      refine lv_if_ne (tgt := 67) hx hcb dX10_newName_56 (by decide) (fun c_26 => ?_) (fun c_26 => ?_)
      · skip
        have hB_ : ¬ ((snZ z).1 0 26 = 0 ∧ hdQ (snZ z)) := fun q_ => c_26 q_.1
        refine lv_iconst (v := (nI 0)) hx hcb dX10_newName_67 (by decide) ?_
        refine lv_bipush (v := (-14)) hx hcb dX10_newName_68 (by decide) ?_
        refine x_cv0 rfl rfl (x_runV hx hcb hml hown hts (c_X10_failsIf l G w hw (snZ z) _ 0 (-14) ((snZ z).1 0 26 = 0 ∧ hdQ (snZ z)) (by first | (rw [if_pos hB_]; first | done | rfl) | (rw [if_neg hB_]; first | done | rfl))) mv_X10_failsIf q_1308 hK hZ hR hS (hw.lo (by decide)) xc10 (hw.s0 rfl) rfl hl.1 rfl (Nat.le_of_ble_eq_true rfl) dX10_newName_70 ⟨by decide, by decide⟩ ⟨by decide, by decide⟩) hS (fun z_28 H locs hp_29 hR hS => ?_)
        rw [hp_29] at hR
        refine lv_aload_n hx hcb dX10_newName_73 rfl (lv_at hl 1 rfl) ?_
        refine x_cv0 rfl rfl (x_runV hx hcb hml hown hts (c_X10_goOn l G w hw (fiZ (snZ z) ((snZ z).1 0 26 = 0 ∧ hdQ (snZ z)) (-14)) _ ((sn_ok hT).fi.1)) mv_X10_goOn q_1312 hK hZ hR hS (hw.lo (by decide)) xc10 (hw.s0 rfl) rfl hl.1 rfl (Nat.le_of_ble_eq_true rfl) dX10_newName_74 ⟨by decide, by decide⟩ ⟨by decide, by decide⟩) hS (fun z_31 H locs hp_32 hR hS => ?_)
        rw [hp_32] at hR
        refine lv_aload_n hx hcb dX10_newName_77 rfl (lv_at hl 1 rfl) ?_
        refine x_getI hx hcb hts hown hK xc10 hR (hw.lo (by decide)) (hw.s0 rfl) 25 (by decide) rfl q_1191 dX10_newName_78 ?_
        refine x_top (show ((goZ (fiZ (snZ z) ((snZ z).1 0 26 = 0 ∧ hdQ (snZ z)) (-14))).1 0 25) = ((snZ z).1 0 25) from nn_25 z) ?_
        exact hret ((snZ z).1 0 25) (goZ (fiZ (snZ z) ((snZ z).1 0 26 = 0 ∧ hdQ (snZ z)) (-14))) _ _ _ _ dX10_newName_81 rfl hR hS (⟨rfl, rfl⟩)
      · skip
        have hE_ : (snZ z).1 0 26 = 0 := c_26
        first | have hB_ : (snZ z).1 0 26 = 0 ∧ hdQ (snZ z) := ⟨hE_, hH_⟩ | have hB_ : ¬ ((snZ z).1 0 26 = 0 ∧ hdQ (snZ z)) := fun q_ => hH_ q_.2
        refine lv_iload_n hx hcb dX10_newName_59 rfl (lv_at hl 0 rfl) ?_
        refine lv_if_eq (tgt := 67) hx hcb dX10_newName_60 (by decide) (fun c_33 => ?_) (fun c_33 => ?_)
        · skip
          skip
          refine lv_iconst (v := (nI 0)) hx hcb dX10_newName_67 (by decide) ?_
          refine lv_bipush (v := (-14)) hx hcb dX10_newName_68 (by decide) ?_
          refine x_cv0 rfl rfl (x_runV hx hcb hml hown hts (c_X10_failsIf l G w hw (snZ z) _ 0 (-14) ((snZ z).1 0 26 = 0 ∧ hdQ (snZ z)) (by first | (rw [if_pos hB_]; first | done | rfl) | (rw [if_neg hB_]; first | done | rfl))) mv_X10_failsIf q_1308 hK hZ hR hS (hw.lo (by decide)) xc10 (hw.s0 rfl) rfl hl.1 rfl (Nat.le_of_ble_eq_true rfl) dX10_newName_70 ⟨by decide, by decide⟩ ⟨by decide, by decide⟩) hS (fun z_35 H locs hp_36 hR hS => ?_)
          rw [hp_36] at hR
          refine lv_aload_n hx hcb dX10_newName_73 rfl (lv_at hl 1 rfl) ?_
          refine x_cv0 rfl rfl (x_runV hx hcb hml hown hts (c_X10_goOn l G w hw (fiZ (snZ z) ((snZ z).1 0 26 = 0 ∧ hdQ (snZ z)) (-14)) _ ((sn_ok hT).fi.1)) mv_X10_goOn q_1312 hK hZ hR hS (hw.lo (by decide)) xc10 (hw.s0 rfl) rfl hl.1 rfl (Nat.le_of_ble_eq_true rfl) dX10_newName_74 ⟨by decide, by decide⟩ ⟨by decide, by decide⟩) hS (fun z_38 H locs hp_39 hR hS => ?_)
          rw [hp_39] at hR
          refine lv_aload_n hx hcb dX10_newName_77 rfl (lv_at hl 1 rfl) ?_
          refine x_getI hx hcb hts hown hK xc10 hR (hw.lo (by decide)) (hw.s0 rfl) 25 (by decide) rfl q_1191 dX10_newName_78 ?_
          refine x_top (show ((goZ (fiZ (snZ z) ((snZ z).1 0 26 = 0 ∧ hdQ (snZ z)) (-14))).1 0 25) = ((snZ z).1 0 25) from nn_25 z) ?_
          exact hret ((snZ z).1 0 25) (goZ (fiZ (snZ z) ((snZ z).1 0 26 = 0 ∧ hdQ (snZ z)) (-14))) _ _ _ _ dX10_newName_81 rfl hR hS (⟨rfl, rfl⟩)
        · skip
          first | exact absurd c_33 (by decide) | exact absurd (by decide) c_33
    · skip
      have hH_ : hdQ (snZ z) := Or.inr c_25
      refine lv_iconst (v := (nI 1)) hx hcb dX10_newName_45 (by decide) ?_
      refine lv_goto (tgt := 50) hx hcb dX10_newName_46 (by decide) ?_
      refine lv_istore_n (lv' := [(1, .int (nI 1)), (0, .ref (w.2.2 0))]) hx hcb dX10_newName_50 rfl hl (by decide) rfl (fun ls hl => ?_)
      refine lv_aload_n hx hcb dX10_newName_51 rfl (lv_at hl 1 rfl) ?_
      refine lv_aload_n hx hcb dX10_newName_52 rfl (lv_at hl 1 rfl) ?_
      refine x_getI hx hcb hts hown hK xc10 hR (hw.lo (by decide)) (hw.s0 rfl) 26 (by decide) rfl q_1192 dX10_newName_53 ?_
      refine lv_if_ne (tgt := 67) hx hcb dX10_newName_56 (by decide) (fun c_40 => ?_) (fun c_40 => ?_)
      · skip
        have hB_ : ¬ ((snZ z).1 0 26 = 0 ∧ hdQ (snZ z)) := fun q_ => c_40 q_.1
        refine lv_iconst (v := (nI 0)) hx hcb dX10_newName_67 (by decide) ?_
        refine lv_bipush (v := (-14)) hx hcb dX10_newName_68 (by decide) ?_
        refine x_cv0 rfl rfl (x_runV hx hcb hml hown hts (c_X10_failsIf l G w hw (snZ z) _ 0 (-14) ((snZ z).1 0 26 = 0 ∧ hdQ (snZ z)) (by first | (rw [if_pos hB_]; first | done | rfl) | (rw [if_neg hB_]; first | done | rfl))) mv_X10_failsIf q_1308 hK hZ hR hS (hw.lo (by decide)) xc10 (hw.s0 rfl) rfl hl.1 rfl (Nat.le_of_ble_eq_true rfl) dX10_newName_70 ⟨by decide, by decide⟩ ⟨by decide, by decide⟩) hS (fun z_42 H locs hp_43 hR hS => ?_)
        rw [hp_43] at hR
        refine lv_aload_n hx hcb dX10_newName_73 rfl (lv_at hl 1 rfl) ?_
        refine x_cv0 rfl rfl (x_runV hx hcb hml hown hts (c_X10_goOn l G w hw (fiZ (snZ z) ((snZ z).1 0 26 = 0 ∧ hdQ (snZ z)) (-14)) _ ((sn_ok hT).fi.1)) mv_X10_goOn q_1312 hK hZ hR hS (hw.lo (by decide)) xc10 (hw.s0 rfl) rfl hl.1 rfl (Nat.le_of_ble_eq_true rfl) dX10_newName_74 ⟨by decide, by decide⟩ ⟨by decide, by decide⟩) hS (fun z_45 H locs hp_46 hR hS => ?_)
        rw [hp_46] at hR
        refine lv_aload_n hx hcb dX10_newName_77 rfl (lv_at hl 1 rfl) ?_
        refine x_getI hx hcb hts hown hK xc10 hR (hw.lo (by decide)) (hw.s0 rfl) 25 (by decide) rfl q_1191 dX10_newName_78 ?_
        refine x_top (show ((goZ (fiZ (snZ z) ((snZ z).1 0 26 = 0 ∧ hdQ (snZ z)) (-14))).1 0 25) = ((snZ z).1 0 25) from nn_25 z) ?_
        exact hret ((snZ z).1 0 25) (goZ (fiZ (snZ z) ((snZ z).1 0 26 = 0 ∧ hdQ (snZ z)) (-14))) _ _ _ _ dX10_newName_81 rfl hR hS (⟨rfl, rfl⟩)
      · skip
        have hE_ : (snZ z).1 0 26 = 0 := c_40
        first | have hB_ : (snZ z).1 0 26 = 0 ∧ hdQ (snZ z) := ⟨hE_, hH_⟩ | have hB_ : ¬ ((snZ z).1 0 26 = 0 ∧ hdQ (snZ z)) := fun q_ => hH_ q_.2
        refine lv_iload_n hx hcb dX10_newName_59 rfl (lv_at hl 0 rfl) ?_
        refine lv_if_eq (tgt := 67) hx hcb dX10_newName_60 (by decide) (fun c_47 => ?_) (fun c_47 => ?_)
        · skip
          first | exact absurd c_47 (by decide) | exact absurd (by decide) c_47
        · skip
          skip
          refine lv_iconst (v := (nI 1)) hx hcb dX10_newName_63 (by decide) ?_
          refine lv_goto (tgt := 68) hx hcb dX10_newName_64 (by decide) ?_
          refine lv_bipush (v := (-14)) hx hcb dX10_newName_68 (by decide) ?_
          refine x_cv0 rfl rfl (x_runV hx hcb hml hown hts (c_X10_failsIf l G w hw (snZ z) _ 1 (-14) ((snZ z).1 0 26 = 0 ∧ hdQ (snZ z)) (by first | (rw [if_pos hB_]; first | done | rfl) | (rw [if_neg hB_]; first | done | rfl))) mv_X10_failsIf q_1308 hK hZ hR hS (hw.lo (by decide)) xc10 (hw.s0 rfl) rfl hl.1 rfl (Nat.le_of_ble_eq_true rfl) dX10_newName_70 ⟨by decide, by decide⟩ ⟨by decide, by decide⟩) hS (fun z_49 H locs hp_50 hR hS => ?_)
          rw [hp_50] at hR
          refine lv_aload_n hx hcb dX10_newName_73 rfl (lv_at hl 1 rfl) ?_
          refine x_cv0 rfl rfl (x_runV hx hcb hml hown hts (c_X10_goOn l G w hw (fiZ (snZ z) ((snZ z).1 0 26 = 0 ∧ hdQ (snZ z)) (-14)) _ ((sn_ok hT).fi.1)) mv_X10_goOn q_1312 hK hZ hR hS (hw.lo (by decide)) xc10 (hw.s0 rfl) rfl hl.1 rfl (Nat.le_of_ble_eq_true rfl) dX10_newName_74 ⟨by decide, by decide⟩ ⟨by decide, by decide⟩) hS (fun z_52 H locs hp_53 hR hS => ?_)
          rw [hp_53] at hR
          refine lv_aload_n hx hcb dX10_newName_77 rfl (lv_at hl 1 rfl) ?_
          refine x_getI hx hcb hts hown hK xc10 hR (hw.lo (by decide)) (hw.s0 rfl) 25 (by decide) rfl q_1191 dX10_newName_78 ?_
          refine x_top (show ((goZ (fiZ (snZ z) ((snZ z).1 0 26 = 0 ∧ hdQ (snZ z)) (-14))).1 0 25) = ((snZ z).1 0 25) from nn_25 z) ?_
          exact hret ((snZ z).1 0 25) (goZ (fiZ (snZ z) ((snZ z).1 0 26 = 0 ∧ hdQ (snZ z)) (-14))) _ _ _ _ dX10_newName_81 rfl hR hS (⟨rfl, rfl⟩)
def rm_X10_oldName : Room := { frames := 7, cells := 0, slots := 0, locals := 149 }
set_option maxRecDepth 100000 in
set_option maxHeartbeats 4000000 in
theorem c_X10_oldName (l : Launch) (G : xGl) (w : xWd) (hw : isM w) (z : xSt) (sz : Nat) (f : Nat) (n : Nat) (hT : zOk z) (hf : f + n ≤ 14) (hn8 : n ≤ 8) : xMi l yX10_oldName cX10_oldName 4 (some FieldType.int) rm_X10_oldName G w z sz [.ref (w.2.2 0), .int (nI f), .int (nI n)] (fun r z1 => r = nI (onR z f n) ∧ z1 = onZ z f n) := by
  refine x_mi (by decide) (Nat.le_of_ble_eq_true rfl) ?_
  intro p e s mt args below meth c ls Q hsz X hR hS hl hret
  obtain ⟨hx, hcb, hml, hown, hts, hlk, hK, hZ⟩ := X
  have hl : lv_has ls 4 [(0, .ref (w.2.2 0)), (1, .int (nI f)), (2, .int (nI n))] := hl
  refine lv_aload_n hx hcb dX10_oldName_0 rfl (lv_at hl 0 rfl) ?_
  refine x_cv0 rfl rfl (x_runV hx hcb hml hown hts (c_X10_seesName l G w hw z _ hT) mv_X10_seesName q_1320 hK hZ hR hS (hw.lo (by decide)) xc10 (hw.s0 rfl) rfl hl.1 rfl (Nat.le_of_ble_eq_true rfl) dX10_oldName_1 ⟨by decide, by decide⟩ ⟨by decide, by decide⟩) hS (fun z_2 H locs hp_3 hR hS => ?_)
  rw [hp_3] at hR
  refine lv_aload_n hx hcb dX10_oldName_4 rfl (lv_at hl 0 rfl) ?_
  refine x_getI hx hcb hts hown hK xc10 hR (hw.lo (by decide)) (hw.s0 rfl) 26 (by decide) rfl q_1192 dX10_oldName_5 ?_
  refine lv_if_ne (tgt := 24) hx hcb dX10_oldName_8 (by decide) (fun c_4 => ?_) (fun c_4 => ?_)
  · skip
    have hA_ : ¬ (snZ z).1 0 26 = 0 := c_4
    refine lv_iconst (v := (nI 0)) hx hcb dX10_oldName_24 (by decide) ?_
    refine x_top (show (nI 0) = (onX z f n) from by unfold onX; first | (rw [if_pos hA_]; first | done | rfl) | (rw [if_neg hA_]; first | done | rfl)) ?_
    refine lv_istore_n (lv' := [(3, .int (onX z f n)), (0, .ref (w.2.2 0)), (1, .int (nI f)), (2, .int (nI n))]) hx hcb dX10_oldName_25 rfl hl (by decide) rfl (fun ls hl => ?_)
    refine lv_aload_n hx hcb dX10_oldName_26 rfl (lv_at hl 1 rfl) ?_
    refine lv_iload_n hx hcb dX10_oldName_27 rfl (lv_at hl 0 rfl) ?_
    refine lv_iconst (v := (-1)) hx hcb dX10_oldName_28 (by decide) ?_
    refine lv_icmp_ne (tgt := 36) hx hcb dX10_oldName_29 (by decide) (fun c_5 => ?_) (fun c_5 => ?_)
    · skip
      have hB_ : ¬ onX z f n = (-1) := c_5
      refine lv_iconst (v := (nI 0)) hx hcb dX10_oldName_36 (by decide) ?_
      refine lv_bipush (v := (-13)) hx hcb dX10_oldName_37 (by decide) ?_
      refine x_cv0 rfl rfl (x_runV hx hcb hml hown hts (c_X10_failsIf l G w hw (snZ z) _ 0 (-13) (onX z f n = (-1)) (by first | (rw [if_pos hB_]; first | done | rfl) | (rw [if_neg hB_]; first | done | rfl))) mv_X10_failsIf q_1308 hK hZ hR hS (hw.lo (by decide)) xc10 (hw.s0 rfl) rfl hl.1 rfl (Nat.le_of_ble_eq_true rfl) dX10_oldName_39 ⟨by decide, by decide⟩ ⟨by decide, by decide⟩) hS (fun z_7 H locs hp_8 hR hS => ?_)
      rw [hp_8] at hR
      refine lv_aload_n hx hcb dX10_oldName_42 rfl (lv_at hl 1 rfl) ?_
      refine x_cv0 rfl rfl (x_runV hx hcb hml hown hts (c_X10_goOn l G w hw (fiZ (snZ z) (onX z f n = (-1)) (-13)) _ ((sn_ok hT).fi.1)) mv_X10_goOn q_1312 hK hZ hR hS (hw.lo (by decide)) xc10 (hw.s0 rfl) rfl hl.1 rfl (Nat.le_of_ble_eq_true rfl) dX10_oldName_43 ⟨by decide, by decide⟩ ⟨by decide, by decide⟩) hS (fun z_10 H locs hp_11 hR hS => ?_)
      rw [hp_11] at hR
      refine lv_aload_n hx hcb dX10_oldName_46 rfl (lv_at hl 1 rfl) ?_
      refine x_getI hx hcb hts hown hK xc10 hR (hw.lo (by decide)) (hw.s0 rfl) 26 (by decide) rfl q_1192 dX10_oldName_47 ?_
      refine lv_if_ne (tgt := 57) hx hcb dX10_oldName_50 (by decide) (fun c_12 => ?_) (fun c_12 => ?_)
      · skip
        have hE_ : ¬ (onZ z f n).1 0 26 = 0 := c_12
        refine lv_iconst (v := (nI 0)) hx hcb dX10_oldName_57 (by decide) ?_
        exact hret (nI 0) (goZ (fiZ (snZ z) (onX z f n = (-1)) (-13))) _ _ _ _ dX10_oldName_58 rfl hR hS (⟨by first | exact (on_e hn8 hE_).2.1 | (rw [on_n hE_]), rfl⟩)
      · skip
        have hE_ : (onZ z f n).1 0 26 = 0 := c_12
        refine lv_iload_n hx hcb dX10_oldName_53 rfl (lv_at hl 0 rfl) ?_
        refine lv_goto (tgt := 58) hx hcb dX10_oldName_54 (by decide) ?_
        exact hret (onX z f n) (goZ (fiZ (snZ z) (onX z f n = (-1)) (-13))) _ _ _ _ dX10_oldName_58 rfl hR hS (⟨by first | exact (on_e hn8 hE_).2.1 | (rw [on_n hE_]), rfl⟩)
    · skip
      have hB_ : onX z f n = (-1) := c_5
      refine lv_iconst (v := (nI 1)) hx hcb dX10_oldName_32 (by decide) ?_
      refine lv_goto (tgt := 37) hx hcb dX10_oldName_33 (by decide) ?_
      refine lv_bipush (v := (-13)) hx hcb dX10_oldName_37 (by decide) ?_
      refine x_cv0 rfl rfl (x_runV hx hcb hml hown hts (c_X10_failsIf l G w hw (snZ z) _ 1 (-13) (onX z f n = (-1)) (by first | (rw [if_pos hB_]; first | done | rfl) | (rw [if_neg hB_]; first | done | rfl))) mv_X10_failsIf q_1308 hK hZ hR hS (hw.lo (by decide)) xc10 (hw.s0 rfl) rfl hl.1 rfl (Nat.le_of_ble_eq_true rfl) dX10_oldName_39 ⟨by decide, by decide⟩ ⟨by decide, by decide⟩) hS (fun z_14 H locs hp_15 hR hS => ?_)
      rw [hp_15] at hR
      refine lv_aload_n hx hcb dX10_oldName_42 rfl (lv_at hl 1 rfl) ?_
      refine x_cv0 rfl rfl (x_runV hx hcb hml hown hts (c_X10_goOn l G w hw (fiZ (snZ z) (onX z f n = (-1)) (-13)) _ ((sn_ok hT).fi.1)) mv_X10_goOn q_1312 hK hZ hR hS (hw.lo (by decide)) xc10 (hw.s0 rfl) rfl hl.1 rfl (Nat.le_of_ble_eq_true rfl) dX10_oldName_43 ⟨by decide, by decide⟩ ⟨by decide, by decide⟩) hS (fun z_17 H locs hp_18 hR hS => ?_)
      rw [hp_18] at hR
      refine lv_aload_n hx hcb dX10_oldName_46 rfl (lv_at hl 1 rfl) ?_
      refine x_getI hx hcb hts hown hK xc10 hR (hw.lo (by decide)) (hw.s0 rfl) 26 (by decide) rfl q_1192 dX10_oldName_47 ?_
      refine lv_if_ne (tgt := 57) hx hcb dX10_oldName_50 (by decide) (fun c_19 => ?_) (fun c_19 => ?_)
      · skip
        have hE_ : ¬ (onZ z f n).1 0 26 = 0 := c_19
        refine lv_iconst (v := (nI 0)) hx hcb dX10_oldName_57 (by decide) ?_
        exact hret (nI 0) (goZ (fiZ (snZ z) (onX z f n = (-1)) (-13))) _ _ _ _ dX10_oldName_58 rfl hR hS (⟨by first | exact (on_e hn8 hE_).2.1 | (rw [on_n hE_]), rfl⟩)
      · skip
        have hE_ : (onZ z f n).1 0 26 = 0 := c_19
        refine lv_iload_n hx hcb dX10_oldName_53 rfl (lv_at hl 0 rfl) ?_
        refine lv_goto (tgt := 58) hx hcb dX10_oldName_54 (by decide) ?_
        exact hret (onX z f n) (goZ (fiZ (snZ z) (onX z f n = (-1)) (-13))) _ _ _ _ dX10_oldName_58 rfl hR hS (⟨by first | exact (on_e hn8 hE_).2.1 | (rw [on_n hE_]), rfl⟩)
  · skip
    have hA_ : (snZ z).1 0 26 = 0 := c_4
    refine lv_aload_n hx hcb dX10_oldName_11 rfl (lv_at hl 0 rfl) ?_
    refine lv_iload_n hx hcb dX10_oldName_12 rfl (lv_at hl 1 rfl) ?_
    refine lv_iload_n hx hcb dX10_oldName_13 rfl (lv_at hl 2 rfl) ?_
    refine lv_aload_n hx hcb dX10_oldName_14 rfl (lv_at hl 0 rfl) ?_
    refine x_getI hx hcb hts hown hK xc10 hR (hw.lo (by decide)) (hw.s0 rfl) 25 (by decide) rfl q_1191 dX10_oldName_15 ?_
    refine x_ci0 rfl rfl (x_runV hx hcb hml hown hts (c_X10_found l G w hw (snZ z) _ f n ((snZ z).1 0 25) hf) mv_X10_found q_1324 hK hZ hR hS (hw.lo (by decide)) xc10 (hw.s0 rfl) rfl hl.1 rfl (Nat.le_of_ble_eq_true rfl) dX10_oldName_18 ⟨by decide, by decide⟩ ⟨by decide, by decide⟩) hS (fun r_20 z_21 H locs hp_22 hR hS => ?_)
    rw [hp_22.2] at hR; rw [hp_22.1]
    refine x_top (show (xff (fun k => decide ((snZ z).1 2 (f + k) = ((snZ z).1 0 25))) n 0) = (xff (fun k => decide ((snZ z).1 2 (f + k) = (snZ z).1 0 25)) n 0) from rfl) ?_
    refine lv_goto (tgt := 25) hx hcb dX10_oldName_21 (by decide) ?_
    refine x_top (show (xff (fun k => decide ((snZ z).1 2 (f + k) = (snZ z).1 0 25)) n 0) = (onX z f n) from by unfold onX; first | (rw [if_pos hA_]; first | done | rfl) | (rw [if_neg hA_]; first | done | rfl)) ?_
    refine lv_istore_n (lv' := [(3, .int (onX z f n)), (0, .ref (w.2.2 0)), (1, .int (nI f)), (2, .int (nI n))]) hx hcb dX10_oldName_25 rfl hl (by decide) rfl (fun ls hl => ?_)
    refine lv_aload_n hx hcb dX10_oldName_26 rfl (lv_at hl 1 rfl) ?_
    refine lv_iload_n hx hcb dX10_oldName_27 rfl (lv_at hl 0 rfl) ?_
    refine lv_iconst (v := (-1)) hx hcb dX10_oldName_28 (by decide) ?_
    refine lv_icmp_ne (tgt := 36) hx hcb dX10_oldName_29 (by decide) (fun c_23 => ?_) (fun c_23 => ?_)
    · skip
      have hB_ : ¬ onX z f n = (-1) := c_23
      refine lv_iconst (v := (nI 0)) hx hcb dX10_oldName_36 (by decide) ?_
      refine lv_bipush (v := (-13)) hx hcb dX10_oldName_37 (by decide) ?_
      refine x_cv0 rfl rfl (x_runV hx hcb hml hown hts (c_X10_failsIf l G w hw (snZ z) _ 0 (-13) (onX z f n = (-1)) (by first | (rw [if_pos hB_]; first | done | rfl) | (rw [if_neg hB_]; first | done | rfl))) mv_X10_failsIf q_1308 hK hZ hR hS (hw.lo (by decide)) xc10 (hw.s0 rfl) rfl hl.1 rfl (Nat.le_of_ble_eq_true rfl) dX10_oldName_39 ⟨by decide, by decide⟩ ⟨by decide, by decide⟩) hS (fun z_25 H locs hp_26 hR hS => ?_)
      rw [hp_26] at hR
      refine lv_aload_n hx hcb dX10_oldName_42 rfl (lv_at hl 1 rfl) ?_
      refine x_cv0 rfl rfl (x_runV hx hcb hml hown hts (c_X10_goOn l G w hw (fiZ (snZ z) (onX z f n = (-1)) (-13)) _ ((sn_ok hT).fi.1)) mv_X10_goOn q_1312 hK hZ hR hS (hw.lo (by decide)) xc10 (hw.s0 rfl) rfl hl.1 rfl (Nat.le_of_ble_eq_true rfl) dX10_oldName_43 ⟨by decide, by decide⟩ ⟨by decide, by decide⟩) hS (fun z_28 H locs hp_29 hR hS => ?_)
      rw [hp_29] at hR
      refine lv_aload_n hx hcb dX10_oldName_46 rfl (lv_at hl 1 rfl) ?_
      refine x_getI hx hcb hts hown hK xc10 hR (hw.lo (by decide)) (hw.s0 rfl) 26 (by decide) rfl q_1192 dX10_oldName_47 ?_
      refine lv_if_ne (tgt := 57) hx hcb dX10_oldName_50 (by decide) (fun c_30 => ?_) (fun c_30 => ?_)
      · skip
        have hE_ : ¬ (onZ z f n).1 0 26 = 0 := c_30
        refine lv_iconst (v := (nI 0)) hx hcb dX10_oldName_57 (by decide) ?_
        exact hret (nI 0) (goZ (fiZ (snZ z) (onX z f n = (-1)) (-13))) _ _ _ _ dX10_oldName_58 rfl hR hS (⟨by first | exact (on_e hn8 hE_).2.1 | (rw [on_n hE_]), rfl⟩)
      · skip
        have hE_ : (onZ z f n).1 0 26 = 0 := c_30
        refine lv_iload_n hx hcb dX10_oldName_53 rfl (lv_at hl 0 rfl) ?_
        refine lv_goto (tgt := 58) hx hcb dX10_oldName_54 (by decide) ?_
        exact hret (onX z f n) (goZ (fiZ (snZ z) (onX z f n = (-1)) (-13))) _ _ _ _ dX10_oldName_58 rfl hR hS (⟨by first | exact (on_e hn8 hE_).2.1 | (rw [on_n hE_]), rfl⟩)
    · skip
      have hB_ : onX z f n = (-1) := c_23
      refine lv_iconst (v := (nI 1)) hx hcb dX10_oldName_32 (by decide) ?_
      refine lv_goto (tgt := 37) hx hcb dX10_oldName_33 (by decide) ?_
      refine lv_bipush (v := (-13)) hx hcb dX10_oldName_37 (by decide) ?_
      refine x_cv0 rfl rfl (x_runV hx hcb hml hown hts (c_X10_failsIf l G w hw (snZ z) _ 1 (-13) (onX z f n = (-1)) (by first | (rw [if_pos hB_]; first | done | rfl) | (rw [if_neg hB_]; first | done | rfl))) mv_X10_failsIf q_1308 hK hZ hR hS (hw.lo (by decide)) xc10 (hw.s0 rfl) rfl hl.1 rfl (Nat.le_of_ble_eq_true rfl) dX10_oldName_39 ⟨by decide, by decide⟩ ⟨by decide, by decide⟩) hS (fun z_32 H locs hp_33 hR hS => ?_)
      rw [hp_33] at hR
      refine lv_aload_n hx hcb dX10_oldName_42 rfl (lv_at hl 1 rfl) ?_
      refine x_cv0 rfl rfl (x_runV hx hcb hml hown hts (c_X10_goOn l G w hw (fiZ (snZ z) (onX z f n = (-1)) (-13)) _ ((sn_ok hT).fi.1)) mv_X10_goOn q_1312 hK hZ hR hS (hw.lo (by decide)) xc10 (hw.s0 rfl) rfl hl.1 rfl (Nat.le_of_ble_eq_true rfl) dX10_oldName_43 ⟨by decide, by decide⟩ ⟨by decide, by decide⟩) hS (fun z_35 H locs hp_36 hR hS => ?_)
      rw [hp_36] at hR
      refine lv_aload_n hx hcb dX10_oldName_46 rfl (lv_at hl 1 rfl) ?_
      refine x_getI hx hcb hts hown hK xc10 hR (hw.lo (by decide)) (hw.s0 rfl) 26 (by decide) rfl q_1192 dX10_oldName_47 ?_
      refine lv_if_ne (tgt := 57) hx hcb dX10_oldName_50 (by decide) (fun c_37 => ?_) (fun c_37 => ?_)
      · skip
        have hE_ : ¬ (onZ z f n).1 0 26 = 0 := c_37
        refine lv_iconst (v := (nI 0)) hx hcb dX10_oldName_57 (by decide) ?_
        exact hret (nI 0) (goZ (fiZ (snZ z) (onX z f n = (-1)) (-13))) _ _ _ _ dX10_oldName_58 rfl hR hS (⟨by first | exact (on_e hn8 hE_).2.1 | (rw [on_n hE_]), rfl⟩)
      · skip
        have hE_ : (onZ z f n).1 0 26 = 0 := c_37
        refine lv_iload_n hx hcb dX10_oldName_53 rfl (lv_at hl 0 rfl) ?_
        refine lv_goto (tgt := 58) hx hcb dX10_oldName_54 (by decide) ?_
        exact hret (onX z f n) (goZ (fiZ (snZ z) (onX z f n = (-1)) (-13))) _ _ _ _ dX10_oldName_58 rfl hR hS (⟨by first | exact (on_e hn8 hE_).2.1 | (rw [on_n hE_]), rfl⟩)
