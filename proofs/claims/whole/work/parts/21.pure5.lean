/-! REDEMPTION: the certificates as a list of years and members -/
def cpt (z : xSt) (b y : Nat) : Nat → List (Nat × Nat)
  | 0 => []
  | m + 1 => if cR z b b m y then cpt z b y m ++ [(y, m)] else cpt z b y m
def cts (z : xSt) (b mc : Nat) : Nat → List (Nat × Nat)
  | 0 => []
  | y + 1 => cts z b mc y ++ cpt z b y mc
theorem cpt_len (z : xSt) (b y : Nat) : ∀ m, (cpt z b y m).length ≤ m
  | 0 => Nat.le_refl 0
  | m + 1 => by
    have h := cpt_len z b y m
    unfold cpt
    split
    · rw [List.length_append]; show _ + 1 ≤ _; omega
    · omega
theorem cts_len (z : xSt) (b : Nat) {mc : Nat} (hm : mc ≤ 8) : ∀ y, (cts z b mc y).length ≤ 8 * y
  | 0 => Nat.le_refl 0
  | y + 1 => by
    have h := cts_len z b hm y
    have h2 := cpt_len z b y mc
    unfold cts
    rw [List.length_append]; omega
def cAm (z : xSt) (b : Nat) (L : List (Nat × Nat)) (i : Nat) : Int32 := z.1 (oLf b (L.getD i (0, 0)).2) (L.getD i (0, 0)).1
def cOw (L : List (Nat × Nat)) (i : Nat) : Int32 := nI (L.getD i (0, 0)).2
def cYr (L : List (Nat × Nat)) (i : Nat) : Int32 := nI (L.getD i (0, 0)).1
def cSum (z : xSt) (b : Nat) (L : List (Nat × Nat)) : Int32 := L.foldl (fun s q => s + z.1 (oLf b q.2) q.1) 0
/-- the rows of redemption with a list of certificates laid -/
def cS (z : xSt) (b : Nat) (L : List (Nat × Nat)) : xSt := ur (ur (ur (ur (u1 z 9 5 (nI L.length)) 10 (pre L.length (cOw L) (z.1 10))) 11 (pre L.length (cYr L) (z.1 11))) 12 (pre L.length (cAm z b L) (z.1 12))) 13 (pre L.length (fun _ => 0) (z.1 13))
theorem cS_hi {z : xSt} {b q : Nat} {L : List (Nat × Nat)} (h : 14 ≤ q ∨ q < 9) : (cS z b L).1 q = z.1 q := by unfold cS; rw [ur_ne _ _ (by omega), ur_ne _ _ (by omega), ur_ne _ _ (by omega), ur_ne _ _ (by omega), u1_ne _ (by omega)]
theorem cS_n {z : xSt} {b : Nat} {L : List (Nat × Nat)} : (cS z b L).1 9 5 = nI L.length := by unfold cS; rw [ur_ne _ _ (by omega), ur_ne _ _ (by omega), ur_ne _ _ (by omega), ur_ne _ _ (by omega), u1_self]
theorem cS_0 {z : xSt} {b : Nat} : u1 z 9 5 0 = cS z b [] := by
  unfold cS
  refine xz_ext (fun o => ?_) rfl
  show _ = (ur (ur (ur (ur (u1 z 9 5 (nI 0)) 10 (pre 0 _ _)) 11 (pre 0 _ _)) 12 (pre 0 _ _)) 13 (pre 0 _ _)).1 o
  rw [pre_0, pre_0, pre_0, pre_0, ur_1, ur_1, ur_1, ur_1]
  by_cases h1 : o = 13
  · rw [if_pos h1, h1]; rfl
  by_cases h2 : o = 12
  · rw [if_neg h1, if_pos h2, h2]; rfl
  by_cases h3 : o = 11
  · rw [if_neg h1, if_neg h2, if_pos h3, h3]; rfl
  by_cases h4 : o = 10
  · rw [if_neg h1, if_neg h2, if_neg h3, if_pos h4, h4]; rfl
  rw [if_neg h1, if_neg h2, if_neg h3, if_neg h4]; rfl
theorem getD_app {L : List (Nat × Nat)} {q d : Nat × Nat} {i : Nat} (h : i < L.length) : (L ++ [q]).getD i d = L.getD i d := by
  simp [List.getD_eq_getElem?_getD, List.getElem?_append_left h]
theorem getD_last {L : List (Nat × Nat)} {q d : Nat × Nat} : (L ++ [q]).getD L.length d = q := by
  simp [List.getD_eq_getElem?_getD]
theorem pre_app {α : Type} {L : List (Nat × Nat)} {q : Nat × Nat} {F : List (Nat × Nat) → Nat → α} {g : Nat → α} {v : α} (hv : F (L ++ [q]) L.length = v) (hF : ∀ i, i < L.length → F (L ++ [q]) i = F L i) : va_up (pre L.length (F L) g) L.length v = pre (L ++ [q]).length (F (L ++ [q])) g := by
  have e : (L ++ [q]).length = L.length + 1 := by simp
  rw [e]
  funext j
  unfold va_up pre
  by_cases h : j = L.length
  · rw [if_pos h, if_pos (by omega), h, hv]
  · rw [if_neg h]
    by_cases h2 : j < L.length
    · rw [if_pos h2, if_pos (by omega), hF j h2]
    · rw [if_neg h2, if_neg (by omega)]
theorem cS_s {z : xSt} {b y m : Nat} {L : List (Nat × Nat)} : u1 (u1 (u1 (u1 (u1 (cS z b L) 10 L.length (nI m)) 11 L.length (nI y)) 12 L.length (z.1 (oLf b m) y)) 13 L.length 0) 9 5 (nI (L.length + 1)) = cS z b (L ++ [(y, m)]) := by
  refine xz_ext (fun o => ?_) rfl
  have p1 : va_up (pre L.length (cOw L) (z.1 10)) L.length (nI m) = pre (L ++ [(y, m)]).length (cOw (L ++ [(y, m)])) (z.1 10) := pre_app (F := cOw) (by unfold cOw; rw [getD_last]) (fun i h => by unfold cOw; rw [getD_app h])
  have p2 : va_up (pre L.length (cYr L) (z.1 11)) L.length (nI y) = pre (L ++ [(y, m)]).length (cYr (L ++ [(y, m)])) (z.1 11) := pre_app (F := cYr) (by unfold cYr; rw [getD_last]) (fun i h => by unfold cYr; rw [getD_app h])
  have p3 : va_up (pre L.length (cAm z b L) (z.1 12)) L.length (z.1 (oLf b m) y) = pre (L ++ [(y, m)]).length (cAm z b (L ++ [(y, m)])) (z.1 12) := pre_app (F := cAm z b) (by unfold cAm; rw [getD_last]) (fun i h => by unfold cAm; rw [getD_app h])
  have p4 : va_up (pre L.length (fun _ => (0 : Int32)) (z.1 13)) L.length 0 = pre (L ++ [(y, m)]).length (fun _ => (0 : Int32)) (z.1 13) := pre_app (F := fun _ _ => (0 : Int32)) rfl (fun _ _ => rfl)
  have e : (L ++ [(y, m)]).length = L.length + 1 := by simp
  unfold cS
  rw [← p1, ← p2, ← p3, ← p4, e]
  by_cases h1 : o = 13
  · subst h1; rw [u1_ne _ (by omega), u1_at, u1_ne _ (by omega), u1_ne _ (by omega), u1_ne _ (by omega), ur_at, ur_at]
  by_cases h2 : o = 12
  · subst h2; rw [u1_ne _ (by omega), u1_ne _ (by omega), u1_at, u1_ne _ (by omega), u1_ne _ (by omega), ur_ne _ _ (by omega), ur_at, ur_ne _ _ (by omega), ur_at]
  by_cases h3 : o = 11
  · subst h3; rw [u1_ne _ (by omega), u1_ne _ (by omega), u1_ne _ (by omega), u1_at, u1_ne _ (by omega), ur_ne _ _ (by omega), ur_ne _ _ (by omega), ur_at, ur_ne _ _ (by omega), ur_ne _ _ (by omega), ur_at]
  by_cases h4 : o = 10
  · subst h4; rw [u1_ne _ (by omega), u1_ne _ (by omega), u1_ne _ (by omega), u1_ne _ (by omega), u1_at, ur_ne _ _ (by omega), ur_ne _ _ (by omega), ur_ne _ _ (by omega), ur_at, ur_ne _ _ (by omega), ur_ne _ _ (by omega), ur_ne _ _ (by omega), ur_at]
  rw [ur_ne _ _ h1, ur_ne _ _ h2, ur_ne _ _ h3, ur_ne _ _ h4]
  by_cases h5 : o = 9
  · subst h5
    rw [u1_at, u1_ne _ (by omega), u1_ne _ (by omega), u1_ne _ (by omega), u1_ne _ (by omega), ur_ne _ _ (by omega), ur_ne _ _ (by omega), ur_ne _ _ (by omega), ur_ne _ _ (by omega), u1_at, u1_at, bx_uu]
  · rw [u1_ne _ h5, u1_ne _ h1, u1_ne _ h2, u1_ne _ h3, u1_ne _ h4, ur_ne _ _ h1, ur_ne _ _ h2, ur_ne _ _ h3, ur_ne _ _ h4, u1_ne _ h5, u1_ne _ h5]
theorem cS_cR {z : xSt} {b m y : Nat} {L : List (Nat × Nat)} : cR (cS z b L) b b m y = cR z b b m y := by
  unfold cR
  rw [cS_hi (by simp only [oM]; omega), cS_hi (by simp only [oLf]; omega), cS_hi (by simp only [oSt]; omega), cS_hi (by simp only [oB]; omega)]
/-- the sharing with n weights by g -/
def adV (z : xSt) (g : Nat → Int32) (n : Nat) : xSt := ur (ur (u1 z 5 3 (nI n)) 6 (pre n g (z.1 6))) 7 (pre n (fun _ => 0) (z.1 7))
theorem adV_0 (z : xSt) (g : Nat → Int32) : u1 z 5 3 0 = adV z g 0 := by
  unfold adV
  rw [pre_0, pre_0]
  refine xz_ext (fun o => ?_) rfl
  rw [ur_1, ur_1]
  by_cases h1 : o = 7
  · rw [if_pos h1, h1]; rfl
  · rw [if_neg h1]
    by_cases h2 : o = 6
    · rw [if_pos h2, h2]; rfl
    · rw [if_neg h2]; rfl
theorem adV_s (z : xSt) (g : Nat → Int32) (i : Nat) : u1 (u1 (u1 (adV z g i) 6 i (g i)) 7 i 0) 5 3 (nI (i + 1)) = adV z g (i + 1) := by
  unfold adV
  refine xz_ext (fun o => ?_) rfl
  rw [ur_1, ur_1]
  by_cases h1 : o = 7
  · subst h1
    rw [if_pos rfl, u1_ne _ (by omega), u1_at, u1_ne _ (by omega), ur_at, ← pre_s]
  · rw [if_neg h1]
    by_cases h2 : o = 6
    · subst h2
      rw [if_pos rfl, u1_ne _ (by omega), u1_ne _ (by omega), u1_at, ur_ne _ _ (by omega), ur_at, ← pre_s]
    · rw [if_neg h2]
      by_cases h3 : o = 5
      · subst h3
        rw [u1_at, u1_ne _ (by omega), u1_ne _ (by omega), ur_ne _ _ (by omega), ur_ne _ _ (by omega), u1_at, u1_at, bx_uu]
      · rw [u1_ne _ h3, u1_ne _ h1, u1_ne _ h2, ur_ne _ _ h1, ur_ne _ _ h2, u1_ne _ h3, u1_ne _ h3]
theorem adV_ne {z : xSt} {g : Nat → Int32} {n q : Nat} (h : 8 ≤ q) : (adV z g n).1 q = z.1 q := by unfold adV; rw [ur_ne _ _ (by omega), ur_ne _ _ (by omega), u1_ne _ (by omega)]
theorem adV_n {z : xSt} {g : Nat → Int32} {n : Nat} : (adV z g n).1 5 3 = nI n := by unfold adV; rw [ur_ne _ _ (by omega), ur_ne _ _ (by omega), u1_self]
/-- payments by shares, from one place to another -/
def rng (f t : Nat) (r g : Nat → Int32) : Nat → Int32 := fun j => if f ≤ j ∧ j < t then r (j - f) else g j
theorem rng_0 (f : Nat) (r g : Nat → Int32) : rng f f r g = g := funext (fun j => if_neg (by omega))
theorem rng_s {f i : Nat} (r g : Nat → Int32) (h : f ≤ i) : va_up (rng f i r g) i (r (i - f)) = rng f (i + 1) r g := by
  funext j
  unfold va_up rng
  by_cases h1 : j = i
  · rw [if_pos h1, if_pos (by omega), h1]
  · rw [if_neg h1]
    by_cases h2 : f ≤ j ∧ j < i
    · rw [if_pos h2, if_pos (by omega)]
    · rw [if_neg h2, if_neg (by omega)]
def psh (z : xSt) (f t : Nat) (a : Int32) : xSt := shZ (adV z (fun i => z.1 12 (f + i)) (t - f)) a (t - f)
def psZ (z : xSt) (f t : Nat) (a : Int32) : xSt := ur (psh z f t a) 13 (rng f t ((psh z f t a).1 7) ((psh z f t a).1 13))
theorem psh_hi {z : xSt} {f t q : Nat} {a : Int32} (h : 9 ≤ q) : (psh z f t a).1 q = z.1 q := by unfold psh; rw [shZ_ne (by omega), adV_ne (by omega)]
theorem psZ_hi {z : xSt} {f t q : Nat} {a : Int32} (h : 9 ≤ q) (h2 : q ≠ 13) : (psZ z f t a).1 q = z.1 q := by unfold psZ; rw [ur_ne _ _ h2, psh_hi h]
/-- how far a run of one year goes -/
def seg (r : Nat → Int32) (y : Int32) : Nat → Nat → Nat
  | 0, i => i
  | k + 1, i => if r i = y then seg r y k (i + 1) else i
theorem seg_s {r : Nat → Int32} {y : Int32} {n k i : Nat} (h : n = k + 1) : seg r y n i = if r i = y then seg r y k (i + 1) else i := by rw [h]; rfl
theorem seg_ge (r : Nat → Int32) (y : Int32) : ∀ k i, i ≤ seg r y k i
  | 0, i => Nat.le_refl i
  | k + 1, i => by
    unfold seg
    split
    · have := seg_ge r y k (i + 1); omega
    · exact Nat.le_refl i
theorem seg_le (r : Nat → Int32) (y : Int32) : ∀ k i, seg r y k i ≤ i + k
  | 0, i => Nat.le_refl i
  | k + 1, i => by
    unfold seg
    split
    · have := seg_le r y k (i + 1); omega
    · omega
/-- payments year by year: the state, what is open, the place -/
def pbY (z : xSt) (bud : Int32) (n : Nat) : Nat → xSt × Int32 × Nat
  | 0 => (z, bud, 0)
  | y + 1 =>
    let q := pbY z bud n y
    let t := seg (q.1.1 11) (nI y) (n - q.2.2) q.2.2
    let p := imin q.2.1 (bx_sum (fun i => q.1.1 12 (q.2.2 + i)) (t - q.2.2))
    (psZ q.1 q.2.2 t p, q.2.1 - p, t)
/-- the smallest not yet paid among the first places, 0: none -/
def smi (am pay : Nat → Int32) : Nat → Nat
  | 0 => 0
  | i + 1 => if pay i = 0 ∧ (smi am pay i = 0 ∨ am i < am (smi am pay i - 1)) then i + 1 else smi am pay i
theorem smi_le (am pay : Nat → Int32) : ∀ i, smi am pay i ≤ i
  | 0 => Nat.le_refl 0
  | i + 1 => by
    have := smi_le am pay i
    unfold smi
    split <;> omega
def psm (am : Nat → Int32) (n : Nat) : Nat → (Nat → Int32) → Int32 → (Nat → Int32) × Int32
  | 0, p, o => (p, o)
  | k + 1, p, o => if 0 < o then (if smi am p n = 0 then (p, o) else psm am n k (va_up p (smi am p n - 1) (imin o (am (smi am p n - 1)))) (o - imin o (am (smi am p n - 1)))) else (p, o)
theorem psm_s {am : Nat → Int32} {n m k : Nat} {p : Nat → Int32} {o : Int32} (h : m = k + 1) : psm am n m p o = if 0 < o then (if smi am p n = 0 then (p, o) else psm am n k (va_up p (smi am p n - 1) (imin o (am (smi am p n - 1)))) (o - imin o (am (smi am p n - 1)))) else (p, o) := by rw [h]; rfl
theorem psm_no {am : Nat → Int32} {n m : Nat} {p : Nat → Int32} {o : Int32} (h : ¬ 0 < o) : psm am n m p o = (p, o) := by
  cases m with
  | zero => rfl
  | succ k => exact if_neg h
def fpd (pay ow : Nat → Int32) : Nat → Nat → Int32
  | 0, _ => -1
  | k + 1, i => if 0 < pay i then ow i else fpd pay ow k (i + 1)
theorem fpd_s {pay ow : Nat → Int32} {n k i : Nat} (h : n = k + 1) : fpd pay ow n i = if 0 < pay i then ow i else fpd pay ow k (i + 1) := by rw [h]; rfl
/-- payments carried out -/
def crO (z : xSt) (b : Nat) (mO yO : Nat → Nat) : Nat → xSt
  | 0 => z
  | i + 1 => u1 (u1 (crO z b mO yO i) (oLf b (mO i)) (yO i) ((crO z b mO yO i).1 (oLf b (mO i)) (yO i) - z.1 13 i)) (oPd b (mO i)) 1 ((crO z b mO yO i).1 (oPd b (mO i)) 1 + z.1 13 i)
theorem crO_lo {z : xSt} {b : Nat} {mO yO : Nat → Nat} {q : Nat} (h : q < 28) : ∀ i, (crO z b mO yO i).1 q = z.1 q
  | 0 => rfl
  | i + 1 => by
    unfold crO
    rw [u1_ne _ (by simp only [oPd]; omega), u1_ne _ (by simp only [oLf]; omega)]
    exact crO_lo h i
/-- a plan: the certificates laid, the payments by the policy -/
def plZ (z : xSt) (b mc : Nat) (bud : Int32) : xSt :=
  let L := cts z b mc 25
  let z1 := cS z b L
  if cSum z b L ≤ bud then ur z1 13 (va_cpy (z1.1 12) (z1.1 13) 0 0 L.length)
  else if z.1 (oSt b) 4 = 0 then (pbY z1 bud L.length 25).1
  else if z.1 (oSt b) 4 = 1 then psZ z1 0 L.length bud
  else ur z1 13 (psm (z1.1 12) L.length L.length (z1.1 13) bud).1
def plR (z : xSt) (b mc : Nat) (bud : Int32) : Int32 := if cSum z b (cts z b mc 25) ≤ bud then cSum z b (cts z b mc 25) else bud
theorem pbY_hi {z : xSt} {bud : Int32} {n q : Nat} (h : 9 ≤ q) (h2 : q ≠ 13) : ∀ y, (pbY z bud n y).1.1 q = z.1 q
  | 0 => rfl
  | y + 1 => by
    unfold pbY
    dsimp only
    rw [psZ_hi h h2]
    exact pbY_hi h h2 y
