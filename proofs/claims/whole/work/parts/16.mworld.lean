/-! THE REFERENCE's STATE. A state's ints: R j i. Cells of a state: 0 the state (0 drawers, 1 clerks, 2 closings), 1 amount, 2 seal, 3 program, 4 steps, 5 place, 6 done, 7 lost, 8 had, 9 hadSeal, 10 own, 11 byWhom, 12 wrote, 13 sums; h: what was thrown -/
def rs (j : Nat) : Nat := if j < 3 then 8 else if j = 3 then 192 else if j < 8 then 6 else if j < 11 then 48 else 10
def rc (g : GT) (a : Nat → Nat) (R : TS) (j : Nat) : va_E :=
  if j = 0 then .inr (3, [.int (iZ (R 0 0)), .int (iZ (R 0 1)), .int (iZ (R 0 2)), .ref (a 1), .ref (a 2), .ref (a 3), .ref (a 4), .ref (a 5), .ref (a 6), .ref (a 7), .ref (a 8), .ref (a 9), .ref (a 10), .ref (a 11), .ref (a 12), .ref (a 13)])
  else .inl (g.2.1, rs j, .inl (arI R j))
def iy (k j : Nat) : Nat := 1 + 14 * k + j
def me (g : GT) (md : Nat → Nat) (h : Int) (Q : Nat → TS) (i : Nat) : va_E := if i = 0 then .inr (4, [.int (iZ h), .ref (md (iy 0 0)), .ref (md (iy 1 0))]) else rc g (fun j => md (iy ((i - 1) / 14) j)) (Q ((i - 1) / 14)) ((i - 1) % 14)
def MW (g : GT) (md : Nat → Nat) (h : Int) (Q : Nat → TS) : va_W := (List.range 29).map (fun i => (md i, me g md h Q i))
def RW (g : GT) (md : Nat → Nat) (h : Int) (Q : Nat → TS) (k : Nat) (R : TS) : va_W := MW g md h (ups Q k R)
theorem MW_at {g : GT} {md : Nat → Nat} {h : Int} {Q : Nat → TS} {i : Nat} (hi : i < 29) : (MW g md h Q)[i]? = some (md i, me g md h Q i) := by
  unfold MW
  rw [List.getElem?_map, List.getElem?_range hi]
  rfl
theorem MW_set {g : GT} {md : Nat → Nat} {h h' : Int} {Q Q' : Nat → TS} {i : Nat} (he : ∀ a, a < 29 → a ≠ i → me g md h' Q' a = me g md h Q a) : (MW g md h Q).set i (md i, me g md h' Q' i) = MW g md h' Q' := by
  apply List.ext_getElem?
  intro a
  by_cases ha : a < 29
  · rw [List.getElem?_set, MW_at ha]
    by_cases hi : i = a
    · rw [if_pos hi]
      rw [if_pos (by unfold MW; rw [List.length_map, List.length_range]; omega)]
      subst hi
      rw [MW_at ha]
    · rw [if_neg hi, MW_at ha, he a ha (fun h => hi h.symm)]
  · rw [List.getElem?_eq_none (by rw [List.length_set]; unfold MW; rw [List.length_map, List.length_range]; omega), List.getElem?_eq_none (by unfold MW; rw [List.length_map, List.length_range]; omega)]
theorem me_iy {g : GT} {md : Nat → Nat} {h : Int} {Q : Nat → TS} {k j : Nat} (hj : j < 14) : me g md h Q (iy k j) = rc g (fun j => md (iy k j)) (Q k) j := by
  unfold me
  rw [if_neg (by unfold iy; omega)]
  have h1 : (iy k j - 1) / 14 = k := by unfold iy; omega
  have h2 : (iy k j - 1) % 14 = j := by unfold iy; omega
  rw [h1, h2]
theorem rc_row {g : GT} {a : Nat → Nat} {T T' : TS} {j : Nat} (h : T' j = T j) : rc g a T' j = rc g a T j := by
  unfold rc arI
  by_cases h0 : j = 0
  · subst h0
    rw [if_pos rfl, if_pos rfl, h]
  · rw [if_neg h0, if_neg h0, h]
section RWX
variable {g : GT} {md : Nat → Nat} {h : Int} {Q : Nat → TS} {k k' : Nat} {R : TS}
theorem RW_at {j : Nat} (hk : k < 2) (hj : j < 14) : (RW g md h Q k R)[iy k j]? = some (md (iy k j), rc g (fun j => md (iy k j)) R j) := by
  unfold RW
  rw [MW_at (by unfold iy; omega), me_iy hj, ups_at]
theorem RW_at' {j : Nat} (hk : k' < 2) (hne : k' ≠ k) (hj : j < 14) : (RW g md h Q k R)[iy k' j]? = some (md (iy k' j), rc g (fun j => md (iy k' j)) (Q k') j) := by
  unfold RW
  rw [MW_at (by unfold iy; omega), me_iy hj, ups_ne _ hne]
theorem RW_set {j : Nat} {R' : TS} {e : va_E} (hj : j < 14) (he : rc g (fun j => md (iy k j)) R' j = e) (hT : ∀ a, a ≠ j → R' a = R a) : (RW g md h Q k R).set (iy k j) (md (iy k j), e) = RW g md h Q k R' := by
  unfold RW
  have h9 : e = me g md h (ups Q k R') (iy k j) := by rw [me_iy hj, ups_at, he]
  rw [h9]
  refine MW_set (fun a ha hne => ?_)
  unfold me
  by_cases h0 : a = 0
  · rw [if_pos h0, if_pos h0]
  · rw [if_neg h0, if_neg h0]
    by_cases hk : (a - 1) / 14 = k
    · rw [hk, ups_at, ups_at]
      refine rc_row (hT _ (fun h => hne ?_))
      unfold iy
      omega
    · rw [ups_ne _ hk, ups_ne _ hk]
theorem RW_o : (RW g md h Q k R)[0]? = some (md 0, .inr (4, [.int (iZ h), .ref (md (iy 0 0)), .ref (md (iy 1 0))])) := by unfold RW; rw [MW_at (by omega)]; rfl
theorem RW_seth {v : Int} : (RW g md h Q k R).set 0 (md 0, .inr (4, [.int (iZ v), .ref (md (iy 0 0)), .ref (md (iy 1 0))])) = RW g md v Q k R := MW_set (i := 0) (h' := v) (fun a ha hne => by unfold me; rw [if_neg hne, if_neg hne])

theorem RW_s (hk : k < 2) : (RW g md h Q k R)[iy k 0]? = some (md (iy k 0), .inr (3, [.int (iZ (R 0 0)), .int (iZ (R 0 1)), .int (iZ (R 0 2)), .ref (md (iy k 1)), .ref (md (iy k 2)), .ref (md (iy k 3)), .ref (md (iy k 4)), .ref (md (iy k 5)), .ref (md (iy k 6)), .ref (md (iy k 7)), .ref (md (iy k 8)), .ref (md (iy k 9)), .ref (md (iy k 10)), .ref (md (iy k 11)), .ref (md (iy k 12)), .ref (md (iy k 13))])) := by rw [RW_at hk (by omega)]; rfl
theorem RW_s' (hk : k' < 2) (hne : k' ≠ k) : (RW g md h Q k R)[iy k' 0]? = some (md (iy k' 0), .inr (3, [.int (iZ (Q k' 0 0)), .int (iZ (Q k' 0 1)), .int (iZ (Q k' 0 2)), .ref (md (iy k' 1)), .ref (md (iy k' 2)), .ref (md (iy k' 3)), .ref (md (iy k' 4)), .ref (md (iy k' 5)), .ref (md (iy k' 6)), .ref (md (iy k' 7)), .ref (md (iy k' 8)), .ref (md (iy k' 9)), .ref (md (iy k' 10)), .ref (md (iy k' 11)), .ref (md (iy k' 12)), .ref (md (iy k' 13))])) := by rw [RW_at' hk hne (by omega)]; rfl
theorem RW_p0 {v : Int} : (RW g md h Q k R).set (iy k 0) (md (iy k 0), .inr (3, [.int (iZ (v)), .int (iZ (R 0 1)), .int (iZ (R 0 2)), .ref (md (iy k 1)), .ref (md (iy k 2)), .ref (md (iy k 3)), .ref (md (iy k 4)), .ref (md (iy k 5)), .ref (md (iy k 6)), .ref (md (iy k 7)), .ref (md (iy k 8)), .ref (md (iy k 9)), .ref (md (iy k 10)), .ref (md (iy k 11)), .ref (md (iy k 12)), .ref (md (iy k 13))])) = RW g md h Q k (pt R 0 0 v) := RW_set (by omega) rfl pt_row
theorem RW_p1 {v : Int} : (RW g md h Q k R).set (iy k 0) (md (iy k 0), .inr (3, [.int (iZ (R 0 0)), .int (iZ (v)), .int (iZ (R 0 2)), .ref (md (iy k 1)), .ref (md (iy k 2)), .ref (md (iy k 3)), .ref (md (iy k 4)), .ref (md (iy k 5)), .ref (md (iy k 6)), .ref (md (iy k 7)), .ref (md (iy k 8)), .ref (md (iy k 9)), .ref (md (iy k 10)), .ref (md (iy k 11)), .ref (md (iy k 12)), .ref (md (iy k 13))])) = RW g md h Q k (pt R 0 1 v) := RW_set (by omega) rfl pt_row
theorem RW_p2 {v : Int} : (RW g md h Q k R).set (iy k 0) (md (iy k 0), .inr (3, [.int (iZ (R 0 0)), .int (iZ (R 0 1)), .int (iZ (v)), .ref (md (iy k 1)), .ref (md (iy k 2)), .ref (md (iy k 3)), .ref (md (iy k 4)), .ref (md (iy k 5)), .ref (md (iy k 6)), .ref (md (iy k 7)), .ref (md (iy k 8)), .ref (md (iy k 9)), .ref (md (iy k 10)), .ref (md (iy k 11)), .ref (md (iy k 12)), .ref (md (iy k 13))])) = RW g md h Q k (pt R 0 2 v) := RW_set (by omega) rfl pt_row
theorem rc_a {a : Nat → Nat} {j : Nat} (h : j ≠ 0) : rc g a R j = .inl (g.2.1, rs j, .inl (arI R j)) := by unfold rc; rw [if_neg h]
theorem RW_a (hk : k < 2) (j : Nat) (hj : j ≠ 0 ∧ j < 14) {n : Nat} (hn : rs j = n) : (RW g md h Q k R)[iy k j]? = some (md (iy k j), .inl (g.2.1, n, .inl (arI R j))) := by subst hn; rw [RW_at hk hj.2, rc_a hj.1]
theorem RW_a' (hk : k' < 2) (hne : k' ≠ k) (j : Nat) (hj : j ≠ 0 ∧ j < 14) {n : Nat} (hn : rs j = n) : (RW g md h Q k R)[iy k' j]? = some (md (iy k' j), .inl (g.2.1, n, .inl (arI (Q k') j))) := by subst hn; rw [RW_at' hk hne hj.2, rc_a hj.1]
theorem RW_sa {j i n : Nat} {v : Int} (hj : j ≠ 0 ∧ j < 14) (hn : rs j = n) : (RW g md h Q k R).set (iy k j) (md (iy k j), .inl (g.2.1, n, .inl (upd (arI R j) i (iZ v)))) = RW g md h Q k (pt R j i v) := by subst hn; exact RW_set hj.2 (by rw [rc_a hj.1, arI_pt]) pt_row
end RWX
theorem V_irem {x : CT} {l : Launch} {R : Room} {g : GT} {nL : Nat} {cc : ByteArray} {own : String} {k n : Nat} {ws : va_W} {pc : Nat} {lv : List (Nat × Value)} {st : List Value} (hx : FX x l R g nL cc own) {a b : Int} (ha : 0 ≤ a ∧ a < 2147483648) (hb : 0 < b ∧ b < 2147483648) (hd : decode cc pc = .ok (.irem, 1)) (kk : V x k n ws (pc + 1) lv (.int (iZ (a % b)) :: st)) : V x k n ws pc lv (.int (iZ b) :: .int (iZ a) :: st) := by
  obtain ⟨A1, hA1⟩ := Int.eq_ofNat_of_zero_le ha.1
  obtain ⟨B1, hB1⟩ := Int.eq_ofNat_of_zero_le (Int.le_of_lt hb.1)
  subst hA1 hB1
  have e : iZ (A1 : Int) - iZ (A1 : Int) / iZ (B1 : Int) * iZ (B1 : Int) = iZ ((A1 : Int) % (B1 : Int)) := pk_rem (a := A1) (d := B1) (by omega) (by omega) (by omega)
  have h0 : ¬ iZ (B1 : Int) = 0 := fun h => by have := iZ_inj (b := 0) ⟨by omega, by omega⟩ rg_0 (h.trans iZ_0.symm); omega
  rw [← e] at kk
  obtain ⟨p, l', e9, R', s, m, args, below, meth, c, g', nL', A, H0, Q⟩ := x
  obtain ⟨rfl, rfl, rfl, rfl, hx, hb0, hml, hown, hts, hK, hlk, hA⟩ := hx
  intro H locs ls hP hD hS h
  exact lv_irem hx hb0 hd h0 (kk H locs ls hP hD hS h)
