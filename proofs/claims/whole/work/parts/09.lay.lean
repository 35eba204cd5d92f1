/-! WHERE THINGS LIE: the component's objects and the reference's, by their numbers -/
abbrev oB (b : Nat) : Nat := 19 + 48 * b
abbrev oMs (b : Nat) : Nat := 20 + 48 * b
abbrev oDs (b : Nat) : Nat := 21 + 48 * b
abbrev oSt (b : Nat) : Nat := 22 + 48 * b
abbrev oD (b d : Nat) : Nat := 23 + 48 * b + d
abbrev oM (b m : Nat) : Nat := 27 + 48 * b + 5 * m
abbrev oPt (b m : Nat) : Nat := 28 + 48 * b + 5 * m
abbrev oLf (b m : Nat) : Nat := 29 + 48 * b + 5 * m
abbrev oKd (b m : Nat) : Nat := 30 + 48 * b + 5 * m
abbrev oPd (b m : Nat) : Nat := 31 + 48 * b + 5 * m
abbrev xai (n : Nat) : xSh := .inr (.inl (0, n))
def shB (b r : Nat) : xSh :=
  if r = 0 then .inl (0, [some (oMs b), some (oDs b), some (oSt b), none, none, none, none, none, none])
  else if r = 1 then .inr (.inr (6, [some (oM b 0), some (oM b 1), some (oM b 2), some (oM b 3), some (oM b 4), some (oM b 5), some (oM b 6), some (oM b 7)]))
  else if r = 2 then .inr (.inr (5, [some (oD b 0), some (oD b 1), some (oD b 2), some (oD b 3)]))
  else if r = 3 then xai 5
  else if r < 8 then .inl (2, [none, none, none])
  else if (r - 8) % 5 = 0 then .inl (5, [none, none, none, none, none, none, some (oPt b ((r - 8) / 5)), some (oLf b ((r - 8) / 5)), some (oKd b ((r - 8) / 5)), some (oPd b ((r - 8) / 5))])
  else if (r - 8) % 5 = 1 then xai 4
  else if (r - 8) % 5 = 2 then xai 25
  else if (r - 8) % 5 = 3 then xai 25
  else xai 3
def kepts (K : Nat) : List (Option Nat) := (List.range 10).map (fun j => if j < K then some (oB (2 + j)) else none)
def sh0 (K : Nat) : List xSh := [.inl (9, [some (oB 0), some (oB 1), some 1, some 2, some 4, some 9, some 14, some 16, none]), xai 4, .inl (3, [some 3, none, none]), .inr (.inr (4, kepts K)), .inl (1, [some 5]), .inl (7, [some 6, some 7, some 8, none]), xai 200, xai 200, .inr (.inl (3, 200)), .inl (6, [some 5, some 10, some 11, some 12, some 13, none]), xai 200, xai 200, xai 200, xai 200, .inl (8, [some 15, none, none, none, none, none]), .inr (.inl (1, 900)), .inl (4, [some 14, some 4, some (oB 1), some 17, some 18]), xai 4, .inr (.inl (2, 5))]
def shC (K o : Nat) : xSh := if o < 19 then (sh0 K).getD o (xai 0) else shB ((o - 19) / 48) ((o - 19) % 48)
/-- the component's world with K books kept -/
def isC (K : Nat) (w : xWd) : Prop := w.1 = 19 + 48 * (2 + K) ∧ w.2.1 = shC K ∧ K ≤ 10
def shM0 : List xSh := [.inl (10, [none, some 1, none, some 2, some 3, some 4, some 5, some 6, none, some 7, some 8, some 9, some 10, some 11, some 12, none, some 13, none, some 14, some 15, none, none, none, none, none, none, none, none, none, none, none, some 16]), xai 900, xai 14, xai 14, xai 497, xai 497, xai 4970, .inr (.inl (3, 192)), .inr (.inl (3, 192)), .inr (.inl (3, 192)), xai 4, xai 8, xai 4, xai 192, xai 192, xai 192, xai 497]
/-- the reference's world -/
def isM (w : xWd) : Prop := w.1 = 17 ∧ w.2.1 = fun o => shM0.getD o (xai 0)
theorem isC.lo {K : Nat} {w : xWd} (h : isC K w) {o : Nat} (ho : o < 19) : o < w.1 := by have := h.1; omega
theorem isC.s0 {K : Nat} {w : xWd} (h : isC K w) {o : Nat} (ho : o < 19) {x : xSh} (hx : (sh0 K).getD o (xai 0) = x) : w.2.1 o = x := by
  rw [h.2.1]; unfold shC; rw [if_pos ho]; exact hx
theorem isM.lo {w : xWd} (h : isM w) {o : Nat} (ho : o < 17) : o < w.1 := by have := h.1; omega
theorem isM.s0 {w : xWd} (h : isM w) {o : Nat} {x : xSh} (hx : shM0.getD o (xai 0) = x) : w.2.1 o = x := by rw [h.2]; exact hx
theorem shC_hi {K b r : Nat} (hr : r < 48) {x : xSh} (hx : shB b r = x) : shC K (19 + 48 * b + r) = x := by
  unfold shC
  rw [if_neg (by omega), show (19 + 48 * b + r - 19) / 48 = b by omega, show (19 + 48 * b + r - 19) % 48 = r by omega]
  exact hx
theorem isC.hi {K : Nat} {w : xWd} (h : isC K w) {b r o : Nat} (ho : o = 19 + 48 * b + r) (hr : r < 48) {x : xSh} (hx : shB b r = x) : w.2.1 o = x := by
  rw [h.2.1, ho]; exact shC_hi hr hx
theorem isC.hlt {K : Nat} {w : xWd} (h : isC K w) {b r o : Nat} (hb : b < 2 + K) (ho : o = 19 + 48 * b + r) (hr : r < 48) : o < w.1 := by have := h.1; omega
theorem hoB {K : Nat} {w : xWd} (h : isC K w) {b : Nat} (hb : b < 2 + K) : oB b < w.1 := h.hlt hb (r := 0) rfl (by omega)
theorem hsB {K : Nat} {w : xWd} (h : isC K w) {b : Nat} : w.2.1 (oB b) = .inl (0, [some (oMs b), some (oDs b), some (oSt b), none, none, none, none, none, none]) := h.hi (r := 0) rfl (by omega) rfl
theorem hoMs {K : Nat} {w : xWd} (h : isC K w) {b : Nat} (hb : b < 2 + K) : oMs b < w.1 := h.hlt hb (r := 1) (by unfold oMs; omega) (by omega)
theorem hsMs {K : Nat} {w : xWd} (h : isC K w) {b : Nat} : w.2.1 (oMs b) = .inr (.inr (6, [some (oM b 0), some (oM b 1), some (oM b 2), some (oM b 3), some (oM b 4), some (oM b 5), some (oM b 6), some (oM b 7)])) := h.hi (b := b) (r := 1) (by unfold oMs; omega) (by omega) rfl
theorem hoDs {K : Nat} {w : xWd} (h : isC K w) {b : Nat} (hb : b < 2 + K) : oDs b < w.1 := h.hlt hb (r := 2) (by unfold oDs; omega) (by omega)
theorem hsDs {K : Nat} {w : xWd} (h : isC K w) {b : Nat} : w.2.1 (oDs b) = .inr (.inr (5, [some (oD b 0), some (oD b 1), some (oD b 2), some (oD b 3)])) := h.hi (b := b) (r := 2) (by unfold oDs; omega) (by omega) rfl
theorem hoSt {K : Nat} {w : xWd} (h : isC K w) {b : Nat} (hb : b < 2 + K) : oSt b < w.1 := h.hlt hb (r := 3) (by unfold oSt; omega) (by omega)
theorem hsSt {K : Nat} {w : xWd} (h : isC K w) {b : Nat} : w.2.1 (oSt b) = xai 5 := h.hi (b := b) (r := 3) (by unfold oSt; omega) (by omega) rfl
theorem hoD {K : Nat} {w : xWd} (h : isC K w) {b d : Nat} (hb : b < 2 + K) (hd : d < 4) : oD b d < w.1 := h.hlt hb (r := 4 + d) (by unfold oD; omega) (by omega)
theorem hsD {K : Nat} {w : xWd} (h : isC K w) {b d : Nat} (hd : d < 4) : w.2.1 (oD b d) = .inl (2, [none, none, none]) := h.hi (b := b) (r := 4 + d) (by unfold oD; omega) (by omega) (by
  unfold shB
  rw [if_neg (by omega), if_neg (by omega), if_neg (by omega), if_neg (by omega), if_pos (by omega)])
theorem hoM {K : Nat} {w : xWd} (h : isC K w) {b m : Nat} (hb : b < 2 + K) (hm : m < 8) : oM b m < w.1 := h.hlt hb (r := 8 + 5 * m) (by unfold oM; omega) (by omega)
theorem hsM {K : Nat} {w : xWd} (h : isC K w) {b m : Nat} (hm : m < 8) : w.2.1 (oM b m) = .inl (5, [none, none, none, none, none, none, some (oPt b m), some (oLf b m), some (oKd b m), some (oPd b m)]) := h.hi (b := b) (r := 8 + 5 * m) (by unfold oM; omega) (by omega) (by
  unfold shB
  rw [if_neg (by omega), if_neg (by omega), if_neg (by omega), if_neg (by omega), if_neg (by omega), if_pos (by omega), show (8 + 5 * m - 8) / 5 = m by omega])
theorem hoPt {K : Nat} {w : xWd} (h : isC K w) {b m : Nat} (hb : b < 2 + K) (hm : m < 8) : oPt b m < w.1 := h.hlt hb (r := 9 + 5 * m) (by unfold oPt; omega) (by omega)
theorem hsPt {K : Nat} {w : xWd} (h : isC K w) {b m : Nat} (hm : m < 8) : w.2.1 (oPt b m) = xai 4 := h.hi (b := b) (r := 9 + 5 * m) (by unfold oPt; omega) (by omega) (by
  unfold shB
  rw [if_neg (by omega), if_neg (by omega), if_neg (by omega), if_neg (by omega), if_neg (by omega), if_neg (by omega), if_pos (by omega)])
theorem hoLf {K : Nat} {w : xWd} (h : isC K w) {b m : Nat} (hb : b < 2 + K) (hm : m < 8) : oLf b m < w.1 := h.hlt hb (r := 10 + 5 * m) (by unfold oLf; omega) (by omega)
theorem hsLf {K : Nat} {w : xWd} (h : isC K w) {b m : Nat} (hm : m < 8) : w.2.1 (oLf b m) = xai 25 := h.hi (b := b) (r := 10 + 5 * m) (by unfold oLf; omega) (by omega) (by
  unfold shB
  rw [if_neg (by omega), if_neg (by omega), if_neg (by omega), if_neg (by omega), if_neg (by omega), if_neg (by omega), if_neg (by omega), if_pos (by omega)])
theorem hoKd {K : Nat} {w : xWd} (h : isC K w) {b m : Nat} (hb : b < 2 + K) (hm : m < 8) : oKd b m < w.1 := h.hlt hb (r := 11 + 5 * m) (by unfold oKd; omega) (by omega)
theorem hsKd {K : Nat} {w : xWd} (h : isC K w) {b m : Nat} (hm : m < 8) : w.2.1 (oKd b m) = xai 25 := h.hi (b := b) (r := 11 + 5 * m) (by unfold oKd; omega) (by omega) (by
  unfold shB
  rw [if_neg (by omega), if_neg (by omega), if_neg (by omega), if_neg (by omega), if_neg (by omega), if_neg (by omega), if_neg (by omega), if_neg (by omega), if_pos (by omega)])
theorem hoPd {K : Nat} {w : xWd} (h : isC K w) {b m : Nat} (hb : b < 2 + K) (hm : m < 8) : oPd b m < w.1 := h.hlt hb (r := 12 + 5 * m) (by unfold oPd; omega) (by omega)
theorem hsPd {K : Nat} {w : xWd} (h : isC K w) {b m : Nat} (hm : m < 8) : w.2.1 (oPd b m) = xai 3 := h.hi (b := b) (r := 12 + 5 * m) (by unfold oPd; omega) (by omega) (by
  unfold shB
  rw [if_neg (by omega), if_neg (by omega), if_neg (by omega), if_neg (by omega), if_neg (by omega), if_neg (by omega), if_neg (by omega), if_neg (by omega), if_neg (by omega)])
theorem oMs_at {b k : Nat} (h : k < 8) : [some (oM b 0), some (oM b 1), some (oM b 2), some (oM b 3), some (oM b 4), some (oM b 5), some (oM b 6), some (oM b 7)][k]? = some (some (oM b k)) := by
  match k, h with
  | 0, _ => rfl
  | 1, _ => rfl
  | 2, _ => rfl
  | 3, _ => rfl
  | 4, _ => rfl
  | 5, _ => rfl
  | 6, _ => rfl
  | 7, _ => rfl
  | k + 8, h => exact absurd h (by omega)
theorem oDs_at {b k : Nat} (h : k < 4) : [some (oD b 0), some (oD b 1), some (oD b 2), some (oD b 3)][k]? = some (some (oD b k)) := by
  match k, h with
  | 0, _ => rfl
  | 1, _ => rfl
  | 2, _ => rfl
  | 3, _ => rfl
  | k + 4, h => exact absurd h (by omega)
