/-! THE CLASS's STATE. A shop's ints: T j i, the cell j's i-th. Cells of a shop: 0 the shop (0 drawers, 1 clerks, 2 closings), 1 amounts, 2 seals, 3 the row of clerks, 4 closers, 5 writtens, 6 sums; clerk c at q = 7 + 8 * c: q (0 steps, 1 place, 2 done, 3 lost), q+1 kinds, q+2 firsts, q+3 seconds, q+4 numbers, q+5 remembered, q+6 their seals, q+7 own. -/
abbrev TS : Type := Nat → Nat → Int
def pt (T : TS) (j i : Nat) (v : Int) : TS := fun a b => if a = j ∧ b = i then v else T a b
def arI (T : TS) (j : Nat) : Nat → Int32 := fun i => iZ (T j i)
def sc (g : GT) (a : Nat → Nat) (T : TS) (j : Nat) : va_E :=
  if j = 0 then .inr (1, [.int (iZ (T 0 0)), .ref (a 1), .ref (a 2), .int (iZ (T 0 1)), .ref (a 3), .int (iZ (T 0 2)), .ref (a 4), .ref (a 5), .ref (a 6)])
  else if j = 3 then .inl (g.2.2.1, 6, .inr (.inr (.inr (.inr (fun c => some (a (7 + 8 * c)))))))
  else if j < 3 then .inl (g.2.1, 8, .inl (arI T j))
  else if j < 7 then .inl (g.2.1, 10, .inl (arI T j))
  else if j % 8 = 7 then .inr (0, [.int (iZ (T j 0)), .ref (a (j + 1)), .ref (a (j + 2)), .ref (a (j + 3)), .ref (a (j + 4)), .int (iZ (T j 1)), .int (iZ (T j 2)), .int (iZ (T j 3)), .ref (a (j + 5)), .ref (a (j + 6)), .ref (a (j + 7))])
  else .inl (g.2.1, 8, .inl (arI T j))
def ix (k j : Nat) : Nat := 1 + 55 * k + j
def ups (P : Nat → TS) (k : Nat) (T : TS) : Nat → TS := fun n => if n = k then T else P n
def ce (g : GT) (ad : Nat → Nat) (P : Nat → TS) (i : Nat) : va_E := if i = 0 then .inr (2, [.ref (ad 1), .ref (ad 56)]) else sc g (fun j => ad (ix ((i - 1) / 55) j)) (P ((i - 1) / 55)) ((i - 1) % 55)
def CW (g : GT) (ad : Nat → Nat) (P : Nat → TS) : va_W := (List.range 111).map (fun i => (ad i, ce g ad P i))
def SW (g : GT) (ad : Nat → Nat) (P : Nat → TS) (k : Nat) (T : TS) : va_W := CW g ad (ups P k T)
theorem ups_self (P : Nat → TS) (k : Nat) : ups P k (P k) = P := by
  funext n
  unfold ups
  split
  · rename_i h; rw [h]
  · rfl
theorem ups_at (P : Nat → TS) (k : Nat) (T : TS) : ups P k T k = T := by unfold ups; exact if_pos rfl
theorem ups_ne (P : Nat → TS) {k k' : Nat} (h : k' ≠ k) (T : TS) : ups P k T k' = P k' := by unfold ups; exact if_neg h
theorem ups_ups (P : Nat → TS) (k : Nat) (T T' : TS) : ups (ups P k T) k T' = ups P k T' := by
  funext n
  unfold ups
  split <;> rfl
theorem SW_self (g : GT) (ad : Nat → Nat) (P : Nat → TS) (k : Nat) : SW g ad P k (P k) = CW g ad P := by unfold SW; rw [ups_self]
theorem CW_at {g : GT} {ad : Nat → Nat} {P : Nat → TS} {i : Nat} (h : i < 111) : (CW g ad P)[i]? = some (ad i, ce g ad P i) := by
  unfold CW
  rw [List.getElem?_map, List.getElem?_range h]
  rfl
theorem CW_set {g : GT} {ad : Nat → Nat} {P P' : Nat → TS} {i : Nat} (he : ∀ a, a < 111 → a ≠ i → ce g ad P' a = ce g ad P a) : (CW g ad P).set i (ad i, ce g ad P' i) = CW g ad P' := by
  apply List.ext_getElem?
  intro a
  by_cases ha : a < 111
  · rw [List.getElem?_set, CW_at ha]
    by_cases hi : i = a
    · rw [if_pos hi]
      rw [if_pos (by unfold CW; rw [List.length_map, List.length_range]; omega)]
      subst hi
      rw [CW_at ha]
    · rw [if_neg hi, CW_at ha, he a ha (fun h => hi h.symm)]
  · rw [List.getElem?_eq_none (by rw [List.length_set]; unfold CW; rw [List.length_map, List.length_range]; omega), List.getElem?_eq_none (by unfold CW; rw [List.length_map, List.length_range]; omega)]
theorem ce_ix {g : GT} {ad : Nat → Nat} {P : Nat → TS} {k j : Nat} (hj : j < 55) : ce g ad P (ix k j) = sc g (fun j => ad (ix k j)) (P k) j := by
  unfold ce
  rw [if_neg (by unfold ix; omega)]
  have h1 : (ix k j - 1) / 55 = k := by unfold ix; omega
  have h2 : (ix k j - 1) % 55 = j := by unfold ix; omega
  rw [h1, h2]
theorem sc_row {g : GT} {a : Nat → Nat} {T T' : TS} {j : Nat} (h : T' j = T j) : sc g a T' j = sc g a T j := by
  unfold sc arI
  by_cases h0 : j = 0
  · subst h0
    rw [if_pos rfl, if_pos rfl, h]
  · rw [if_neg h0, if_neg h0, h]
theorem SW_at {g : GT} {ad : Nat → Nat} {P : Nat → TS} {k j : Nat} {T : TS} (hk : k < 2) (hj : j < 55) : (SW g ad P k T)[ix k j]? = some (ad (ix k j), sc g (fun j => ad (ix k j)) T j) := by
  unfold SW
  rw [CW_at (by unfold ix; omega), ce_ix hj, ups_at]
theorem SW_at' {g : GT} {ad : Nat → Nat} {P : Nat → TS} {k k' j : Nat} {T : TS} (hk : k' < 2) (hne : k' ≠ k) (hj : j < 55) : (SW g ad P k T)[ix k' j]? = some (ad (ix k' j), sc g (fun j => ad (ix k' j)) (P k') j) := by
  unfold SW
  rw [CW_at (by unfold ix; omega), ce_ix hj, ups_ne _ hne]
theorem SW_set {g : GT} {ad : Nat → Nat} {P : Nat → TS} {k j : Nat} {T T' : TS} {e : va_E} (hj : j < 55) (he : sc g (fun j => ad (ix k j)) T' j = e) (hT : ∀ a, a ≠ j → T' a = T a) : (SW g ad P k T).set (ix k j) (ad (ix k j), e) = SW g ad P k T' := by
  unfold SW
  have h9 : e = ce g ad (ups P k T') (ix k j) := by rw [ce_ix hj, ups_at, he]
  rw [h9]
  refine CW_set (fun a ha hne => ?_)
  unfold ce
  by_cases h0 : a = 0
  · rw [if_pos h0, if_pos h0]
  · rw [if_neg h0, if_neg h0]
    by_cases hk : (a - 1) / 55 = k
    · rw [hk, ups_at, ups_at]
      refine sc_row (hT _ (fun h => hne ?_))
      unfold ix
      omega
    · rw [ups_ne _ hk, ups_ne _ hk]
theorem pt_row {T : TS} {j i : Nat} {v : Int} : ∀ a, a ≠ j → pt T j i v a = T a := by
  intro a ha
  funext b
  unfold pt
  rw [if_neg (fun h => ha h.1)]
theorem pt_at (T : TS) (j i : Nat) (v : Int) : pt T j i v j i = v := by unfold pt; exact if_pos ⟨rfl, rfl⟩
theorem pt_ne (T : TS) {j i a b : Nat} (v : Int) (h : a ≠ j ∨ b ≠ i) : pt T j i v a b = T a b := by
  unfold pt
  exact if_neg (fun h' => h.elim (fun z => z h'.1) (fun z => z h'.2))
theorem arI_pt {T : TS} {j i : Nat} {v : Int} : arI (pt T j i v) j = upd (arI T j) i (iZ v) := by
  funext b
  unfold arI upd pt
  by_cases h : b = i
  · rw [if_pos ⟨rfl, h⟩, if_pos h]
  · rw [if_neg (fun z => h z.2), if_neg h]
def isQ (q : Nat) : Prop := q % 8 = 7 ∧ q < 55
theorem isQ_c {c : Nat} (h : c < 6) : isQ (7 + 8 * c) := ⟨by omega, by omega⟩
section SWX
variable {g : GT} {ad : Nat → Nat} {P : Nat → TS} {k : Nat} {T : TS}
theorem SW_till : (SW g ad P k T)[0]? = some (ad 0, .inr (2, [.ref (ad 1), .ref (ad 56)])) := by unfold SW; rw [CW_at (by omega)]; rfl
theorem SW_shop (hk : k < 2) : (SW g ad P k T)[ix k 0]? = some (ad (ix k 0), .inr (1, [.int (iZ (T 0 0)), .ref (ad (ix k 1)), .ref (ad (ix k 2)), .int (iZ (T 0 1)), .ref (ad (ix k 3)), .int (iZ (T 0 2)), .ref (ad (ix k 4)), .ref (ad (ix k 5)), .ref (ad (ix k 6))])) := by rw [SW_at hk (by omega)]; rfl
theorem SW_refs (hk : k < 2) : (SW g ad P k T)[ix k 3]? = some (ad (ix k 3), .inl (g.2.2.1, 6, .inr (.inr (.inr (.inr (fun c => some (ad (ix k (7 + 8 * c))))))))) := by rw [SW_at hk (by omega)]; rfl
theorem sc_q {a : Nat → Nat} {q : Nat} (hq : isQ q) : sc g a T q = .inr (0, [.int (iZ (T q 0)), .ref (a (q + 1)), .ref (a (q + 2)), .ref (a (q + 3)), .ref (a (q + 4)), .int (iZ (T q 1)), .int (iZ (T q 2)), .int (iZ (T q 3)), .ref (a (q + 5)), .ref (a (q + 6)), .ref (a (q + 7))]) := by
  obtain ⟨h1, h2⟩ := hq
  unfold sc
  rw [if_neg (by omega), if_neg (by omega), if_neg (by omega), if_neg (by omega), if_pos h1]
theorem sc_8 {a : Nat → Nat} {j : Nat} (h : j = 1 ∨ j = 2 ∨ (7 < j ∧ j % 8 ≠ 7)) : sc g a T j = .inl (g.2.1, 8, .inl (arI T j)) := by
  unfold sc
  rw [if_neg (by omega), if_neg (by omega)]
  by_cases h3 : j < 3
  · rw [if_pos h3]
  · rw [if_neg h3, if_neg (by omega), if_neg (by omega)]
theorem sc_10 {a : Nat → Nat} {j : Nat} (h : 3 < j ∧ j < 7) : sc g a T j = .inl (g.2.1, 10, .inl (arI T j)) := by
  unfold sc
  rw [if_neg (by omega), if_neg (by omega), if_neg (by omega), if_pos h.2]
theorem SW_clk (hk : k < 2) {q : Nat} (hq : isQ q) : (SW g ad P k T)[ix k q]? = some (ad (ix k q), .inr (0, [.int (iZ (T q 0)), .ref (ad (ix k (q + 1))), .ref (ad (ix k (q + 2))), .ref (ad (ix k (q + 3))), .ref (ad (ix k (q + 4))), .int (iZ (T q 1)), .int (iZ (T q 2)), .int (iZ (T q 3)), .ref (ad (ix k (q + 5))), .ref (ad (ix k (q + 6))), .ref (ad (ix k (q + 7)))])) := by rw [SW_at hk hq.2, sc_q hq]
theorem SW_8 (hk : k < 2) {j : Nat} (h : j = 1 ∨ j = 2 ∨ (7 < j ∧ j % 8 ≠ 7)) (hj : j < 55) : (SW g ad P k T)[ix k j]? = some (ad (ix k j), .inl (g.2.1, 8, .inl (arI T j))) := by rw [SW_at hk hj, sc_8 h]
theorem SW_c8 (hk : k < 2) {q : Nat} (hq : isQ q) (j : Nat) (hj : 0 < j ∧ j < 8) : (SW g ad P k T)[ix k (q + j)]? = some (ad (ix k (q + j)), .inl (g.2.1, 8, .inl (arI T (q + j)))) := SW_8 hk (Or.inr (Or.inr ⟨by have := hq.1; omega, by have := hq.1; omega⟩)) (by have := hq.1; have := hq.2; omega)
theorem SW_10 (hk : k < 2) {j : Nat} (h : 3 < j ∧ j < 7) : (SW g ad P k T)[ix k j]? = some (ad (ix k j), .inl (g.2.1, 10, .inl (arI T j))) := by rw [SW_at hk (by omega), sc_10 h]
theorem SW_s8 {j i : Nat} {v : Int} (h : j = 1 ∨ j = 2 ∨ (7 < j ∧ j % 8 ≠ 7)) (hj : j < 55) : (SW g ad P k T).set (ix k j) (ad (ix k j), .inl (g.2.1, 8, .inl (upd (arI T j) i (iZ v)))) = SW g ad P k (pt T j i v) := SW_set hj (by rw [sc_8 h, arI_pt]) pt_row
theorem SW_sc8 {q : Nat} (hq : isQ q) (j : Nat) (hj : 0 < j ∧ j < 8) {i : Nat} {v : Int} : (SW g ad P k T).set (ix k (q + j)) (ad (ix k (q + j)), .inl (g.2.1, 8, .inl (upd (arI T (q + j)) i (iZ v)))) = SW g ad P k (pt T (q + j) i v) := SW_s8 (Or.inr (Or.inr ⟨by have := hq.1; omega, by have := hq.1; omega⟩)) (by have := hq.1; have := hq.2; omega)
theorem SW_s10 {j i : Nat} {v : Int} (h : 3 < j ∧ j < 7) : (SW g ad P k T).set (ix k j) (ad (ix k j), .inl (g.2.1, 10, .inl (upd (arI T j) i (iZ v)))) = SW g ad P k (pt T j i v) := SW_set (by omega) (by rw [sc_10 h, arI_pt]) pt_row
theorem SW_ss0 {v : Int} : (SW g ad P k T).set (ix k 0) (ad (ix k 0), .inr (1, [.int (iZ (v)), .ref (ad (ix k 1)), .ref (ad (ix k 2)), .int (iZ (T 0 1)), .ref (ad (ix k 3)), .int (iZ (T 0 2)), .ref (ad (ix k 4)), .ref (ad (ix k 5)), .ref (ad (ix k 6))])) = SW g ad P k (pt T 0 0 v) := SW_set (by omega) rfl pt_row
theorem SW_ss1 {v : Int} : (SW g ad P k T).set (ix k 0) (ad (ix k 0), .inr (1, [.int (iZ (T 0 0)), .ref (ad (ix k 1)), .ref (ad (ix k 2)), .int (iZ (v)), .ref (ad (ix k 3)), .int (iZ (T 0 2)), .ref (ad (ix k 4)), .ref (ad (ix k 5)), .ref (ad (ix k 6))])) = SW g ad P k (pt T 0 1 v) := SW_set (by omega) rfl pt_row
theorem SW_ss2 {v : Int} : (SW g ad P k T).set (ix k 0) (ad (ix k 0), .inr (1, [.int (iZ (T 0 0)), .ref (ad (ix k 1)), .ref (ad (ix k 2)), .int (iZ (T 0 1)), .ref (ad (ix k 3)), .int (iZ (v)), .ref (ad (ix k 4)), .ref (ad (ix k 5)), .ref (ad (ix k 6))])) = SW g ad P k (pt T 0 2 v) := SW_set (by omega) rfl pt_row
theorem SW_sq0 {q : Nat} (hq : isQ q) {v : Int} : (SW g ad P k T).set (ix k q) (ad (ix k q), .inr (0, [.int (iZ (v)), .ref (ad (ix k (q + 1))), .ref (ad (ix k (q + 2))), .ref (ad (ix k (q + 3))), .ref (ad (ix k (q + 4))), .int (iZ (T q 1)), .int (iZ (T q 2)), .int (iZ (T q 3)), .ref (ad (ix k (q + 5))), .ref (ad (ix k (q + 6))), .ref (ad (ix k (q + 7)))])) = SW g ad P k (pt T q 0 v) := SW_set hq.2 (by rw [sc_q hq]; simp [pt]) pt_row
theorem SW_sq1 {q : Nat} (hq : isQ q) {v : Int} : (SW g ad P k T).set (ix k q) (ad (ix k q), .inr (0, [.int (iZ (T q 0)), .ref (ad (ix k (q + 1))), .ref (ad (ix k (q + 2))), .ref (ad (ix k (q + 3))), .ref (ad (ix k (q + 4))), .int (iZ (v)), .int (iZ (T q 2)), .int (iZ (T q 3)), .ref (ad (ix k (q + 5))), .ref (ad (ix k (q + 6))), .ref (ad (ix k (q + 7)))])) = SW g ad P k (pt T q 1 v) := SW_set hq.2 (by rw [sc_q hq]; simp [pt]) pt_row
theorem SW_sq2 {q : Nat} (hq : isQ q) {v : Int} : (SW g ad P k T).set (ix k q) (ad (ix k q), .inr (0, [.int (iZ (T q 0)), .ref (ad (ix k (q + 1))), .ref (ad (ix k (q + 2))), .ref (ad (ix k (q + 3))), .ref (ad (ix k (q + 4))), .int (iZ (T q 1)), .int (iZ (v)), .int (iZ (T q 3)), .ref (ad (ix k (q + 5))), .ref (ad (ix k (q + 6))), .ref (ad (ix k (q + 7)))])) = SW g ad P k (pt T q 2 v) := SW_set hq.2 (by rw [sc_q hq]; simp [pt]) pt_row
theorem SW_sq3 {q : Nat} (hq : isQ q) {v : Int} : (SW g ad P k T).set (ix k q) (ad (ix k q), .inr (0, [.int (iZ (T q 0)), .ref (ad (ix k (q + 1))), .ref (ad (ix k (q + 2))), .ref (ad (ix k (q + 3))), .ref (ad (ix k (q + 4))), .int (iZ (T q 1)), .int (iZ (T q 2)), .int (iZ (v)), .ref (ad (ix k (q + 5))), .ref (ad (ix k (q + 6))), .ref (ad (ix k (q + 7)))])) = SW g ad P k (pt T q 3 v) := SW_set hq.2 (by rw [sc_q hq]; simp [pt]) pt_row
end SWX
def rmN (n : Nat) : Room := { frames := n, cells := 0, slots := 0, locals := 40 * n }
theorem RMn {a b maxL : Nat} (h : b < a) (hm : maxL ≤ 21) : RM (rmN a) (rmN b) maxL 0 0 := ⟨h, by show 8 + (maxL + 11) + 40 * b ≤ 40 * a; omega, Nat.le_refl 0, Nat.le_refl 0⟩
def sm : Nat → (Nat → Int) → Int
  | 0, _ => 0
  | n + 1, f => sm n f + f n
def RG (T : TS) : Prop := ∀ a b, rg (T a b)
theorem rg_pt {T : TS} (h : RG T) {j i : Nat} {v : Int} (hv : rg v) : RG (pt T j i v) := by
  intro a b
  unfold pt
  split
  · exact hv
  · exact h a b
