/-! THE WORLD GROWS by one more books -/
def shP (n : Nat) : xSh → Prop
  | .inl (_, ps) => ∀ q, some q ∈ ps → q < n
  | .inr (.inl _) => True
  | .inr (.inr (_, qs)) => ∀ q, some q ∈ qs → q < n
theorem xent_ext {G : xGl} {ad ad2 : Nat → Nat} {f : Nat → Int32} {g : Nat → Int64} {n : Nat} (e : ∀ q, q < n → ad q = ad2 q) : ∀ {s : xSh}, shP n s → xent G ad f g s = xent G ad2 f g s
  | .inl (ci, ps), h => by
    show Sum.inr (ci, xfs ad f ps) = Sum.inr (ci, xfs ad2 f ps)
    have h1 : xfs ad f ps = xfs ad2 f ps := by
      apply List.ext_getElem?
      intro i
      simp only [xfs, List.getElem?_mapIdx]
      cases hp : ps[i]? with
      | none => rfl
      | some p =>
        cases p with
        | none => rfl
        | some q => simp [xfv, e q (h q (List.mem_of_getElem? hp))]
    rw [h1]
  | .inr (.inl (t, k)), _ => rfl
  | .inr (.inr (t, qs)), h => by
    show Sum.inl (G.2 t, qs.length, Sum.inr (Sum.inr (Sum.inr (Sum.inr (fun j => ((qs[j]?).join).map ad))))) = Sum.inl (G.2 t, qs.length, Sum.inr (Sum.inr (Sum.inr (Sum.inr (fun j => ((qs[j]?).join).map ad2)))))
    have h1 : (fun (j : Nat) => ((qs[j]?).join).map ad) = (fun (j : Nat) => ((qs[j]?).join).map ad2) := by
      funext j
      cases hp : qs[j]? with
      | none => rfl
      | some p =>
        cases p with
        | none => rfl
        | some q => simp [e q (h q (List.mem_of_getElem? hp))]
    rw [h1]
def shMap (φ : Nat → Nat) : xSh → xSh
  | .inl (ci, ps) => .inl (ci, ps.map (Option.map φ))
  | .inr (.inl x) => .inr (.inl x)
  | .inr (.inr (t, qs)) => .inr (.inr (t, qs.map (Option.map φ)))
theorem xent_map {G : xGl} {ad : Nat → Nat} {φ : Nat → Nat} {f : Nat → Int32} {g : Nat → Int64} : ∀ {s : xSh}, xent G ad f g (shMap φ s) = xent G (fun q => ad (φ q)) f g s
  | .inl (ci, ps) => by
    show Sum.inr (ci, xfs ad f (ps.map (Option.map φ))) = Sum.inr (ci, xfs (fun q => ad (φ q)) f ps)
    have h1 : xfs ad f (ps.map (Option.map φ)) = xfs (fun q => ad (φ q)) f ps := by
      apply List.ext_getElem?
      intro i
      simp only [xfs, List.getElem?_mapIdx, List.getElem?_map]
      cases ps[i]? with
      | none => rfl
      | some p => cases p <;> rfl
    rw [h1]
  | .inr (.inl (t, k)) => rfl
  | .inr (.inr (t, qs)) => by
    show Sum.inl (G.2 t, (qs.map (Option.map φ)).length, Sum.inr (Sum.inr (Sum.inr (Sum.inr (fun j => (((qs.map (Option.map φ))[j]?).join).map ad))))) = Sum.inl (G.2 t, qs.length, Sum.inr (Sum.inr (Sum.inr (Sum.inr (fun j => ((qs[j]?).join).map (fun q => ad (φ q)))))))
    have h1 : (fun (j : Nat) => (((qs.map (Option.map φ))[j]?).join).map ad) = (fun (j : Nat) => ((qs[j]?).join).map (fun q => ad (φ q))) := by
      funext j
      rw [List.getElem?_map]
      cases qs[j]? with
      | none => rfl
      | some p => cases p <;> rfl
    rw [h1, List.length_map]
theorem shB_map {b r : Nat} : shB b r = shMap (fun j => j + 19 + 48 * b) (shBk r) := by
  unfold shB shBk
  by_cases h0 : r = 0
  · rw [if_pos h0, if_pos h0]; rfl
  rw [if_neg h0, if_neg h0]
  by_cases h1 : r = 1
  · rw [if_pos h1, if_pos h1, show oM b 0 = 8 + 19 + 48 * b from by unfold oM; omega, show oM b 1 = 13 + 19 + 48 * b from by unfold oM; omega, show oM b 2 = 18 + 19 + 48 * b from by unfold oM; omega, show oM b 3 = 23 + 19 + 48 * b from by unfold oM; omega, show oM b 4 = 28 + 19 + 48 * b from by unfold oM; omega, show oM b 5 = 33 + 19 + 48 * b from by unfold oM; omega, show oM b 6 = 38 + 19 + 48 * b from by unfold oM; omega, show oM b 7 = 43 + 19 + 48 * b from by unfold oM; omega]; rfl
  rw [if_neg h1, if_neg h1]
  by_cases h2 : r = 2
  · rw [if_pos h2, if_pos h2, show oD b 0 = 4 + 19 + 48 * b from by unfold oD; omega, show oD b 1 = 5 + 19 + 48 * b from by unfold oD; omega, show oD b 2 = 6 + 19 + 48 * b from by unfold oD; omega, show oD b 3 = 7 + 19 + 48 * b from by unfold oD; omega]; rfl
  rw [if_neg h2, if_neg h2]
  by_cases h3 : r = 3
  · rw [if_pos h3, if_pos h3]; rfl
  rw [if_neg h3, if_neg h3]
  by_cases h4 : r < 8
  · rw [if_pos h4, if_pos h4]; rfl
  rw [if_neg h4, if_neg h4]
  by_cases h5 : (r - 8) % 5 = 0
  · rw [if_pos h5, if_pos h5, show oPt b ((r - 8) / 5) = r + 1 + 19 + 48 * b from by unfold oPt; omega, show oLf b ((r - 8) / 5) = r + 2 + 19 + 48 * b from by unfold oLf; omega, show oKd b ((r - 8) / 5) = r + 3 + 19 + 48 * b from by unfold oKd; omega, show oPd b ((r - 8) / 5) = r + 4 + 19 + 48 * b from by unfold oPd; omega]; rfl
  rw [if_neg h5, if_neg h5]
  by_cases h6 : (r - 8) % 5 = 1
  · first | (rw [if_pos h6, if_pos h6]; rfl) | (rw [if_pos h6]; rfl)
  first | rw [if_neg h6, if_neg h6] | rw [if_neg h6]
  by_cases h7 : (r - 8) % 5 = 2
  · first | (rw [if_pos h7, if_pos h7]; rfl) | (rw [if_pos h7]; rfl)
  first | rw [if_neg h7, if_neg h7] | rw [if_neg h7]
  by_cases h8 : (r - 8) % 5 = 3
  · first | (rw [if_pos h8, if_pos h8]; rfl) | (rw [if_pos h8]; rfl)
  first | (rw [if_neg h8, if_neg h8]; rfl) | (rw [if_neg h8]; rfl)
theorem shBk_P {r : Nat} (hr : r < 48) : shP 48 (shBk r) := by
  unfold shBk
  repeat' split
  all_goals first | trivial | (intro q hq; simp only [List.mem_cons, List.not_mem_nil, Option.some.injEq, or_false, reduceCtorEq, false_or] at hq; try omega)
theorem shB_P {b r n : Nat} (h : 19 + 48 * b + 48 ≤ n) (hr : r < 48) : shP n (shB b r) := by
  rw [shB_map]
  have h1 := shBk_P hr
  revert h1
  cases shBk r with
  | inl x =>
    intro h1 q hq
    obtain ⟨p, hp, e⟩ := List.mem_map.mp hq
    cases p with
    | none => exact absurd e (by simp)
    | some k =>
      have e2 : k + 19 + 48 * b = q := Option.some.inj e
      have := h1 k hp
      omega
  | inr x =>
    cases x with
    | inl x => intro _; trivial
    | inr x =>
      intro h1 q hq
      obtain ⟨p, hp, e⟩ := List.mem_map.mp hq
      cases p with
      | none => exact absurd e (by simp)
      | some k =>
        have e2 : k + 19 + 48 * b = q := Option.some.inj e
        have := h1 k hp
        omega
theorem kepts_get (K j : Nat) : (kepts K)[j]? = if j < 10 then some (if j < K then some (oB (2 + j)) else none) else none := by
  unfold kepts
  rw [List.getElem?_map]
  by_cases h : j < 10
  · rw [if_pos h, List.getElem?_range h]; rfl
  · rw [if_neg h, List.getElem?_eq_none (by simp; omega)]; rfl
theorem shC_P {K o : Nat} (ho : o < 19 + 48 * (2 + K)) : shP (19 + 48 * (2 + K)) (shC K o) := by
  unfold shC
  split
  · rename_i h
    match o, h with
    | 0, _ => intro q hq; simp only [sh0, List.getD_eq_getElem?_getD, List.getElem?_cons_succ, List.getElem?_cons_zero, Option.getD_some, List.mem_cons, List.not_mem_nil, Option.some.injEq, or_false, reduceCtorEq, false_or, oB] at hq; omega
    | 1, _ => trivial
    | 2, _ => intro q hq; simp only [sh0, List.getD_eq_getElem?_getD, List.getElem?_cons_succ, List.getElem?_cons_zero, Option.getD_some, List.mem_cons, List.not_mem_nil, Option.some.injEq, or_false, reduceCtorEq, false_or, oB] at hq; omega
    | 3, _ =>
      intro q hq
      obtain ⟨j, hj⟩ := List.getElem?_of_mem hq
      rw [kepts_get] at hj
      split at hj
      · have hj := Option.some.inj hj
        split at hj
        · have := Option.some.inj hj
          unfold oB at this
          omega
        · exact absurd hj (by simp)
      · exact absurd hj (by simp)
    | 4, _ => intro q hq; simp only [sh0, List.getD_eq_getElem?_getD, List.getElem?_cons_succ, List.getElem?_cons_zero, Option.getD_some, List.mem_cons, List.not_mem_nil, Option.some.injEq, or_false, reduceCtorEq, false_or, oB] at hq; omega
    | 5, _ => intro q hq; simp only [sh0, List.getD_eq_getElem?_getD, List.getElem?_cons_succ, List.getElem?_cons_zero, Option.getD_some, List.mem_cons, List.not_mem_nil, Option.some.injEq, or_false, reduceCtorEq, false_or, oB] at hq; omega
    | 6, _ => trivial
    | 7, _ => trivial
    | 8, _ => trivial
    | 9, _ => intro q hq; simp only [sh0, List.getD_eq_getElem?_getD, List.getElem?_cons_succ, List.getElem?_cons_zero, Option.getD_some, List.mem_cons, List.not_mem_nil, Option.some.injEq, or_false, reduceCtorEq, false_or, oB] at hq; omega
    | 10, _ => trivial
    | 11, _ => trivial
    | 12, _ => trivial
    | 13, _ => trivial
    | 14, _ => intro q hq; simp only [sh0, List.getD_eq_getElem?_getD, List.getElem?_cons_succ, List.getElem?_cons_zero, Option.getD_some, List.mem_cons, List.not_mem_nil, Option.some.injEq, or_false, reduceCtorEq, false_or, oB] at hq; omega
    | 15, _ => trivial
    | 16, _ => intro q hq; simp only [sh0, List.getD_eq_getElem?_getD, List.getElem?_cons_succ, List.getElem?_cons_zero, Option.getD_some, List.mem_cons, List.not_mem_nil, Option.some.injEq, or_false, reduceCtorEq, false_or, oB] at hq; omega
    | 17, _ => trivial
    | 18, _ => trivial
    | k + 19, h => exact absurd h (by omega)
  · exact shB_P (by omega) (by omega)
def exB (z : xSt) (b : Nat) : xSt := (fun o => if 19 + 48 * b ≤ o ∧ o < 19 + 48 * b + 48 then zbI.1 (o - (19 + 48 * b)) else z.1 o, fun o => if 19 + 48 * b ≤ o ∧ o < 19 + 48 * b + 48 then zbI.2 (o - (19 + 48 * b)) else z.2 o)
def gwA (w : xWd) (ad : Nat → Nat) : Nat → Nat := fun o => if o < w.1 then w.2.2 o else ad (o - w.1)
abbrev gW (K : Nat) (w : xWd) (ad : Nat → Nat) : xWd := (19 + 48 * (2 + (K + 1)), shC (K + 1), gwA w ad)
theorem gW_C {K : Nat} {w : xWd} {ad : Nat → Nat} (hK : K < 10) : isC (K + 1) (gW K w ad) := ⟨rfl, rfl, by omega⟩
theorem shC_s {K o : Nat} (ho : o ≠ 3) : shC (K + 1) o = shC K o := by
  unfold shC
  split
  · rename_i h
    match o, h, ho with
    | 0, _, _ => rfl
    | 1, _, _ => rfl
    | 2, _, _ => rfl
    | 3, _, h => exact absurd rfl h
    | 4, _, _ => rfl
    | 5, _, _ => rfl
    | 6, _, _ => rfl
    | 7, _, _ => rfl
    | 8, _, _ => rfl
    | 9, _, _ => rfl
    | 10, _, _ => rfl
    | 11, _, _ => rfl
    | 12, _, _ => rfl
    | 13, _, _ => rfl
    | 14, _, _ => rfl
    | 15, _, _ => rfl
    | 16, _, _ => rfl
    | 17, _, _ => rfl
    | 18, _, _ => rfl
    | k + 19, h, _ => exact absurd h (by omega)
  · rfl
theorem kepts_len (K : Nat) : (kepts K).length = 10 := by unfold kepts; rw [List.length_map, List.length_range]
theorem grow_key {G : xGl} {K : Nat} {w : xWd} {z : xSt} {ad : Nat → Nat} (hw : isC K w) (hK : K < 10) {o : Nat} (ho : o < 19 + 48 * (2 + (K + 1))) :
    ((xwl G w z ++ xwl G (bW ad) zbI).set 3 (w.2.2 3, aQ_ G 4 10 (va_up (fun j => (((kepts K)[j]?).join).map w.2.2) K (some (ad 0)))))[o]? = some (gwA w ad o, xent G (gwA w ad) ((exB z (2 + K)).1 o) ((exB z (2 + K)).2 o) (shC (K + 1) o)) := by
  have hn : w.1 = 19 + 48 * (2 + K) := hw.1
  have hlen : (xwl G w z).length = w.1 := by simp [xwl]
  rw [List.getElem?_set]
  by_cases h3 : 3 = o
  · subst h3
    have h3w : 3 < w.1 := by omega
    rw [if_pos rfl, if_pos (by rw [List.length_append, hlen]; omega)]
    have e1 : gwA w ad 3 = w.2.2 3 := if_pos h3w
    rw [e1]
    refine congrArg some (congrArg (Prod.mk _) ?_)
    show _ = Sum.inl (G.2 4, (kepts (K + 1)).length, Sum.inr (Sum.inr (Sum.inr (Sum.inr (fun j => (((kepts (K + 1))[j]?).join).map (gwA w ad))))))
    rw [kepts_len]
    have e2 : va_up (fun j => (((kepts K)[j]?).join).map w.2.2) K (some (ad 0)) = (fun j => (((kepts (K + 1))[j]?).join).map (gwA w ad)) := by
      funext j
      by_cases hj : j = K
      · rw [hj, va_up_self, kepts_get, if_pos hK, if_pos (Nat.lt_succ_self K)]
        show _ = some (gwA w ad (oB (2 + K)))
        unfold gwA
        rw [if_neg (by rw [hn]; unfold oB; omega), show oB (2 + K) - w.1 = 0 by rw [hn]; unfold oB; omega]
      · rw [va_up_ne _ _ hj]
        show (((kepts K)[j]?).join).map w.2.2 = _
        rw [kepts_get, kepts_get]
        by_cases h10 : j < 10
        · rw [if_pos h10, if_pos h10]
          by_cases hjK : j < K
          · rw [if_pos hjK, if_pos (by omega)]
            show some (w.2.2 (oB (2 + j))) = some (gwA w ad (oB (2 + j)))
            unfold gwA
            rw [if_pos (by rw [hn]; unfold oB; omega)]
          · rw [if_neg hjK, if_neg (by omega)]; rfl
        · rw [if_neg h10, if_neg h10]; rfl
    rw [e2]
  · rw [if_neg h3]
    have e0 : shC (K + 1) o = shC K o := shC_s (fun q => h3 q.symm)
    by_cases hol : o < w.1
    · rw [List.getElem?_append_left (by rw [hlen]; exact hol), xwl_get hol, e0, hw.2.1]
      have e1 : gwA w ad o = w.2.2 o := if_pos hol
      have e2 : (exB z (2 + K)).1 o = z.1 o := if_neg (by omega)
      have e3 : (exB z (2 + K)).2 o = z.2 o := if_neg (by omega)
      rw [e1, e2, e3, xent_ext (ad := w.2.2) (ad2 := gwA w ad) (n := 19 + 48 * (2 + K)) (fun q hq => (if_pos (by rw [hn]; exact hq)).symm) (shC_P (by rw [← hn]; exact hol))]
    · rw [List.getElem?_append_right (by rw [hlen]; omega), hlen]
      have hr : o - w.1 < 48 := by omega
      rw [xwl_get (w := bW ad) hr]
      have e1 : gwA w ad o = ad (o - w.1) := if_neg hol
      have e2 : (exB z (2 + K)).1 o = zbI.1 (o - w.1) := by
        have : (exB z (2 + K)).1 o = zbI.1 (o - (19 + 48 * (2 + K))) := if_pos (by omega)
        rw [this, hn]
      have e3 : (exB z (2 + K)).2 o = zbI.2 (o - w.1) := by
        have : (exB z (2 + K)).2 o = zbI.2 (o - (19 + 48 * (2 + K))) := if_pos (by omega)
        rw [this, hn]
      have e4 : shC K o = shB (2 + K) (o - w.1) := by
        have : o = 19 + 48 * (2 + K) + (o - w.1) := by omega
        rw [this]
        rw [shC_hi (by omega) rfl]
        congr 1
        omega
      rw [e1, e2, e3, e0, e4, shB_map, xent_map]
      rw [xent_ext (ad := ad) (ad2 := fun q => gwA w ad (q + 19 + 48 * (2 + K))) (n := 48) (fun q hq => ?_) (shBk_P hr)]
      show ad q = gwA w ad (q + 19 + 48 * (2 + K))
      unfold gwA
      rw [if_neg (by omega), show q + 19 + 48 * (2 + K) - w.1 = q by omega]
theorem grow {G : xGl} {K : Nat} {w : xWd} {z : xSt} {H : Heap} {A : Nat → Prop} {ad : Nat → Nat} (hw : isC K w) (hK : K < 10) (hP : va_P G.1 vwCl ((xwl G w z ++ xwl G (bW ad) zbI).set 3 (w.2.2 3, aQ_ G 4 10 (va_up (fun j => (((kepts K)[j]?).join).map w.2.2) K (some (ad 0))))) H) (hD : va_D A ((xwl G w z ++ xwl G (bW ad) zbI).set 3 (w.2.2 3, aQ_ G 4 10 (va_up (fun j => (((kepts K)[j]?).join).map w.2.2) K (some (ad 0)))))) : Rh G (gW K w ad) (exB z (2 + K)) H ∧ ∀ r, r < 48 → A (ad r) := by
  refine ⟨⟨fun o ho => hP o _ (grow_key hw hK ho), fun o o2 h1 h2 h3 => ?_⟩, fun r hr => ?_⟩
  · exact hD.1 o o2 _ _ (grow_key hw hK h1) (grow_key hw hK h2) h3
  · have hn : w.1 = 19 + 48 * (2 + K) := hw.1
    have h1 := hD.2 (w.1 + r) _ (grow_key (G := G) (z := z) (ad := ad) hw hK (by omega))
    have e1 : gwA w ad (w.1 + r) = ad r := by
      unfold gwA
      rw [if_neg (by omega), Nat.add_sub_cancel_left]
    rw [← e1]; exact h1
