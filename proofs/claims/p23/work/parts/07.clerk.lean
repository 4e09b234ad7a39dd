/-! the class Clerk: what its methods do to the ints of a clerk (q) -/
/-- a slip that is empty for the drawers below d, place 0, not done -/
def soT (T : TS) (q d : Nat) : TS := fun a b => if a = q ∧ (b = 1 ∨ b = 2) then 0 else if (a = q + 5 ∨ a = q + 6 ∨ a = q + 7) ∧ b < d then -1 else T a b
def baT (T : TS) (q : Nat) : TS := soT (pt (pt T q 0 0) q 3 0) q 8
/-- the clerk q of T0's ints in T's place: the first s steps, the first d drawers -/
def bcT (T T0 : TS) (q s d : Nat) : TS := fun a b => if a = q ∧ b < 4 then T0 a b else if (a = q + 1 ∨ a = q + 2 ∨ a = q + 3 ∨ a = q + 4) ∧ b < s then T0 a b else if (a = q + 5 ∨ a = q + 6 ∨ a = q + 7) ∧ b < d then T0 a b else T a b
def asT (T : TS) (q : Nat) (kd d e b : Int) : TS := pt (pt (pt (pt (pt T (q + 1) (T q 0).toNat kd) (q + 2) (T q 0).toNat d) (q + 3) (T q 0).toNat e) (q + 4) (T q 0).toNat b) q 0 (T q 0 + 1)
def slV (T : TS) (q : Nat) (d what : Int) : Int := if what = 0 then T (q + 5) d.toNat else if what = 1 then T (q + 6) d.toNat else T (q + 7) d.toNat
def stV (T : TS) (q : Nat) (p what : Int) : Int := if what = 0 then T (q + 1) p.toNat else if what = 1 then T (q + 2) p.toNat else if what = 2 then T (q + 3) p.toNat else T (q + 4) p.toNat
noncomputable def rmF (T : TS) (q : Nat) (d : Nat) : Int := bz (T (q + 5) d ≠ -1)
noncomputable def wrF (T : TS) (q : Nat) (d : Nat) : Int := bz (T (q + 7) d ≠ -1)
theorem V_top {x : CT} {k n : Nat} {ws : va_W} {pc : Nat} {lv : List (Nat × Value)} {st : List Value} {a b : Int} (h : a = b) (kk : V x k n ws pc lv (.int (iZ b) :: st)) : V x k n ws pc lv (.int (iZ a) :: st) := by rw [h]; exact kk
theorem SW_clk' {g : GT} {ad : Nat → Nat} {P : Nat → TS} {k k' : Nat} {T : TS} (hk : k' < 2) (hne : k' ≠ k) {q : Nat} (hq : isQ q) : (SW g ad P k T)[ix k' q]? = some (ad (ix k' q), .inr (0, [.int (iZ (P k' q 0)), .ref (ad (ix k' (q + 1))), .ref (ad (ix k' (q + 2))), .ref (ad (ix k' (q + 3))), .ref (ad (ix k' (q + 4))), .int (iZ (P k' q 1)), .int (iZ (P k' q 2)), .int (iZ (P k' q 3)), .ref (ad (ix k' (q + 5))), .ref (ad (ix k' (q + 6))), .ref (ad (ix k' (q + 7)))])) := by rw [SW_at' hk hne hq.2, sc_q hq]
theorem SW_8' {g : GT} {ad : Nat → Nat} {P : Nat → TS} {k k' : Nat} {T : TS} (hk : k' < 2) (hne : k' ≠ k) {j : Nat} (h : j = 1 ∨ j = 2 ∨ (7 < j ∧ j % 8 ≠ 7)) (hj : j < 55) : (SW g ad P k T)[ix k' j]? = some (ad (ix k' j), .inl (g.2.1, 8, .inl (arI (P k') j))) := by rw [SW_at' hk hne hj, sc_8 h]
theorem SW_c8' {g : GT} {ad : Nat → Nat} {P : Nat → TS} {k k' : Nat} {T : TS} (hk : k' < 2) (hne : k' ≠ k) {q : Nat} (hq : isQ q) (j : Nat) (hj : 0 < j ∧ j < 8) : (SW g ad P k T)[ix k' (q + j)]? = some (ad (ix k' (q + j)), .inl (g.2.1, 8, .inl (arI (P k') (q + j)))) := SW_8' hk hne (Or.inr (Or.inr ⟨by have := hq.1; omega, by have := hq.1; omega⟩)) (by have := hq.1; have := hq.2; omega)
theorem SW_10' {g : GT} {ad : Nat → Nat} {P : Nat → TS} {k k' : Nat} {T : TS} (hk : k' < 2) (hne : k' ≠ k) {j : Nat} (h : 3 < j ∧ j < 7) : (SW g ad P k T)[ix k' j]? = some (ad (ix k' j), .inl (g.2.1, 10, .inl (arI (P k') j))) := by rw [SW_at' hk hne (by omega), sc_10 h]
theorem SW_refs' {g : GT} {ad : Nat → Nat} {P : Nat → TS} {k k' : Nat} {T : TS} (hk : k' < 2) (hne : k' ≠ k) : (SW g ad P k T)[ix k' 3]? = some (ad (ix k' 3), .inl (g.2.2.1, 6, .inr (.inr (.inr (.inr (fun c => some (ad (ix k' (7 + 8 * c))))))))) := by rw [SW_at' hk hne (by omega)]; rfl
theorem SW_shop' {g : GT} {ad : Nat → Nat} {P : Nat → TS} {k k' : Nat} {T : TS} (hk : k' < 2) (hne : k' ≠ k) : (SW g ad P k T)[ix k' 0]? = some (ad (ix k' 0), .inr (1, [.int (iZ (P k' 0 0)), .ref (ad (ix k' 1)), .ref (ad (ix k' 2)), .int (iZ (P k' 0 1)), .ref (ad (ix k' 3)), .int (iZ (P k' 0 2)), .ref (ad (ix k' 4)), .ref (ad (ix k' 5)), .ref (ad (ix k' 6))])) := by rw [SW_at' hk hne (by omega)]; rfl
set_option maxHeartbeats 4000000 in
set_option maxRecDepth 100000 in
theorem m_startOver (l : Launch) {g : GT} {ad : Nat → Nat} {P : Nat → TS} {k : Nat} (hk : k < 2) (T : TS) {q : Nat} (hq : isQ q) : MV l yX0_startOver cX0_startOver 2 (rmN 0) g [.ref (ad (ix k q))] (SW g ad P k T) (fun ws9 => ws9 = SW g ad P k (soT T q 8)) := by
  refine MV.of (own := RX0) (by decide) rfl (Nat.le_of_ble_eq_true rfl) (fun x hx hE => ?_)
  have hq7 := hq.1
  have hq8 := hq.2
  refine V_lv (lv' := [(0, .ref (ad (ix k q)))]) rfl ?_
  refine V_aload_n hx dX0_startOver_0 0 rfl ?_
  refine V_iconst hx dX0_startOver_1 ?_
  refine pf_X0_43 hx (ix k q) (SW_clk hk hq) (Nat.le_of_ble_eq_true rfl) (SW g ad P k (pt T (q) (1) (0))) (SW_sq1 hq) dX0_startOver_2 ?_
  refine V_aload_n hx dX0_startOver_5 0 rfl ?_
  refine V_iconst hx dX0_startOver_6 ?_
  refine pf_X0_46 hx rfl rfl (ix k q) (SW_clk hk hq) (Nat.le_of_ble_eq_true rfl) (SW g ad P k (pt (pt T (q) (1) (0)) (q) (2) (0))) (SW_sq2 hq) dX0_startOver_7 ?_
  refine V_iconst hx dX0_startOver_10 ?_
  refine V_istore_n hx dX0_startOver_11 [(1, .int (iZ (0))), (0, .ref (ad (ix k q)))] (by decide) rfl ?_
  have hL12 : ∀ (n : Nat) (i : Nat), 8 < i + n → i ≤ 8 → V x 0 0 (SW g ad P k (soT T q i)) 12 [(1, .int (iZ ((i : Int)))), (0, .ref (ad (ix k q)))] [] := by
    intro n
    induction n with
    | zero =>
      intro i g1 g2 
      exact absurd g1 (by omega)
    | succ n ih =>
      intro i g1 g2 
      refine V_iload_n hx dX0_startOver_12 0 rfl ?_
      refine V_bipush hx dX0_startOver_13 rfl ?_
      refine V_icmp_ge hx dX0_startOver_15 45 (by decide) ⟨by omega, by omega⟩ ⟨by decide, by decide⟩ (fun h15 => ?_) (fun h15 => ?_)
      · exact hE _ _ _ dX0_startOver_45 (by rw [show i = 8 by omega])
      · refine V_aload_n hx dX0_startOver_18 1 rfl ?_
        refine gf_X0_24 hx (ix k q) (SW_clk hk hq) rfl dX0_startOver_19 ?_
        refine V_iload_n hx dX0_startOver_22 0 rfl ?_
        refine V_iconst hx dX0_startOver_23 ?_
        refine V_iast hx (by omega) (by omega) (by decide) (ix k (q + 5)) (SW_c8 hk hq 5 (by decide)) (SW g ad P k (pt (soT T q i) (q + 5) (i) ((-1)))) (SW_sc8 hq 5 (by decide)) dX0_startOver_24 ?_
        refine V_aload_n hx dX0_startOver_25 1 rfl ?_
        refine gf_X0_27 hx (ix k q) (SW_clk hk hq) rfl dX0_startOver_26 ?_
        refine V_iload_n hx dX0_startOver_29 0 rfl ?_
        refine V_iconst hx dX0_startOver_30 ?_
        refine V_iast hx (by omega) (by omega) (by decide) (ix k (q + 6)) (SW_c8 hk hq 6 (by decide)) (SW g ad P k (pt (pt (soT T q i) (q + 5) (i) ((-1))) (q + 6) (i) ((-1)))) (SW_sc8 hq 6 (by decide)) dX0_startOver_31 ?_
        refine V_aload_n hx dX0_startOver_32 1 rfl ?_
        refine gf_X0_30 hx (ix k q) (SW_clk hk hq) rfl dX0_startOver_33 ?_
        refine V_iload_n hx dX0_startOver_36 0 rfl ?_
        refine V_iconst hx dX0_startOver_37 ?_
        refine V_iast hx (by omega) (by omega) (by decide) (ix k (q + 7)) (SW_c8 hk hq 7 (by decide)) (SW g ad P k (pt (pt (pt (soT T q i) (q + 5) (i) ((-1))) (q + 6) (i) ((-1))) (q + 7) (i) ((-1)))) (SW_sc8 hq 7 (by decide)) dX0_startOver_38 ?_
        refine V_iincN hx dX0_startOver_39 0 rfl [(1, .int (iZ (((i + 1 : Nat) : Int)))), (0, .ref (ad (ix k q)))] (by decide) rfl ?_
        refine V_goto hx dX0_startOver_42 12 (by decide) ?_
        refine V_ws (ws' := SW g ad P k (soT T q (i + 1))) (congrArg (SW g ad P k) (by funext a b; simp only [pt, soT]; (repeat' split) <;> first | rfl | omega | grind)) ?_
        exact V_sub [0, 1] rfl (ih (i + 1) (by omega) (by omega))
  refine V_ws (ws' := SW g ad P k (soT T q 0)) (congrArg (SW g ad P k) (by funext a b; simp only [pt, soT]; (repeat' split) <;> first | rfl | omega | grind)) ?_
  exact V_sub [0, 1] rfl (hL12 (8 + 1) 0 (by omega) (by omega))
set_option maxHeartbeats 4000000 in
set_option maxRecDepth 100000 in
theorem m_beginAnew (l : Launch) {g : GT} {ad : Nat → Nat} {P : Nat → TS} {k : Nat} (hk : k < 2) (T : TS) {q : Nat} (hq : isQ q) : MV l yX0_beginAnew cX0_beginAnew 1 (rmN 1) g [.ref (ad (ix k q))] (SW g ad P k T) (fun ws9 => ws9 = SW g ad P k (baT T q)) := by
  refine MV.of (own := RX0) (by decide) rfl (Nat.le_of_ble_eq_true rfl) (fun x hx hE => ?_)
  have hq7 := hq.1
  have hq8 := hq.2
  refine V_lv (lv' := [(0, .ref (ad (ix k q)))]) rfl ?_
  refine V_aload_n hx dX0_beginAnew_0 0 rfl ?_
  refine V_iconst hx dX0_beginAnew_1 ?_
  refine pf_X0_36 hx (ix k q) (SW_clk hk hq) (Nat.le_of_ble_eq_true rfl) (SW g ad P k (pt T (q) (0) (0))) (SW_sq0 hq) dX0_beginAnew_2 ?_
  refine V_aload_n hx dX0_beginAnew_5 0 rfl ?_
  refine V_iconst hx dX0_beginAnew_6 ?_
  refine pf_X0_40 hx (ix k q) (SW_clk hk hq) (Nat.le_of_ble_eq_true rfl) (SW g ad P k (pt (pt T (q) (0) (0)) (q) (3) (0))) (SW_sq3 hq) dX0_beginAnew_7 ?_
  refine V_aload_n hx dX0_beginAnew_10 0 rfl ?_
  refine V_callv hx (m_startOver l hk (pt (pt T (q) (0) (0)) (q) (3) (0)) (q := q) hq) cw_X0_33 (RMn (by decide) (by decide)) rfl (ix k q) (SW_clk hk hq) rfl rfl (Nat.le_of_ble_eq_true rfl) dX0_beginAnew_11 0 0 rfl rfl (fun ws1 e1 => ?_)
  subst e1
  exact hE _ _ _ dX0_beginAnew_14 rfl
set_option maxHeartbeats 4000000 in
set_option maxRecDepth 100000 in
theorem m_remembers (l : Launch) {g : GT} {ad : Nat → Nat} {P : Nat → TS} {k : Nat} (hk : k < 2) (T : TS) (hT : RG T) {q : Nat} (hq : isQ q) {d : Int} (hd0 : 0 ≤ d) (hd8 : d < 8) : MI l yX0_remembers cX0_remembers 2 .boolean (rmN 0) g [.ref (ad (ix k q)), .int (iZ (d))] (SW g ad P k T) (fun z ws9 => z = bz (T (q + 5) d.toNat ≠ -1) ∧ ws9 = SW g ad P k T) := by
  refine MI.of (own := RX0) (by decide) rfl (Nat.le_of_ble_eq_true rfl) (fun x hx hE => ?_)
  have hq7 := hq.1
  have hq8 := hq.2
  refine V_lv (lv' := [(0, .ref (ad (ix k q))), (1, .int (iZ (d)))]) rfl ?_
  refine V_aload_n hx dX0_remembers_0 0 rfl ?_
  refine gf_X0_24 hx (ix k q) (SW_clk hk hq) rfl dX0_remembers_1 ?_
  refine V_iload_n hx dX0_remembers_4 1 rfl ?_
  refine V_iald hx (by omega) (by omega) (by decide) (ix k (q + 5)) (SW_c8 hk hq 5 (by decide)) (v := T (q + 5) d.toNat) rfl dX0_remembers_5 ?_
  refine V_iconst hx dX0_remembers_6 ?_
  refine V_icmp_eq hx dX0_remembers_7 14 (by decide) (by first | assumption | exact hT _ _ | exact ⟨by omega, by omega⟩) ⟨by decide, by decide⟩ (fun h7 => ?_) (fun h7 => ?_)
  · refine V_iconst hx dX0_remembers_14 ?_
    exact hE _ _ _ _ dX0_remembers_15 rfl ⟨(bz_f (by first | assumption | (intro h9; omega) | omega)).symm, rfl⟩
  · refine V_iconst hx dX0_remembers_10 ?_
    refine V_goto hx dX0_remembers_11 15 (by decide) ?_
    exact hE _ _ _ _ dX0_remembers_15 rfl ⟨(bz_t (by first | assumption | omega)).symm, rfl⟩
set_option maxHeartbeats 4000000 in
set_option maxRecDepth 100000 in
theorem m_hasWritten (l : Launch) {g : GT} {ad : Nat → Nat} {P : Nat → TS} {k : Nat} (hk : k < 2) (T : TS) (hT : RG T) {q : Nat} (hq : isQ q) {d : Int} (hd0 : 0 ≤ d) (hd8 : d < 8) : MI l yX0_hasWritten cX0_hasWritten 2 .boolean (rmN 0) g [.ref (ad (ix k q)), .int (iZ (d))] (SW g ad P k T) (fun z ws9 => z = bz (T (q + 7) d.toNat ≠ -1) ∧ ws9 = SW g ad P k T) := by
  refine MI.of (own := RX0) (by decide) rfl (Nat.le_of_ble_eq_true rfl) (fun x hx hE => ?_)
  have hq7 := hq.1
  have hq8 := hq.2
  refine V_lv (lv' := [(0, .ref (ad (ix k q))), (1, .int (iZ (d)))]) rfl ?_
  refine V_aload_n hx dX0_hasWritten_0 0 rfl ?_
  refine gf_X0_30 hx (ix k q) (SW_clk hk hq) rfl dX0_hasWritten_1 ?_
  refine V_iload_n hx dX0_hasWritten_4 1 rfl ?_
  refine V_iald hx (by omega) (by omega) (by decide) (ix k (q + 7)) (SW_c8 hk hq 7 (by decide)) (v := T (q + 7) d.toNat) rfl dX0_hasWritten_5 ?_
  refine V_iconst hx dX0_hasWritten_6 ?_
  refine V_icmp_eq hx dX0_hasWritten_7 14 (by decide) (by first | assumption | exact hT _ _ | exact ⟨by omega, by omega⟩) ⟨by decide, by decide⟩ (fun h7 => ?_) (fun h7 => ?_)
  · refine V_iconst hx dX0_hasWritten_14 ?_
    exact hE _ _ _ _ dX0_hasWritten_15 rfl ⟨(bz_f (by first | assumption | (intro h9; omega) | omega)).symm, rfl⟩
  · refine V_iconst hx dX0_hasWritten_10 ?_
    refine V_goto hx dX0_hasWritten_11 15 (by decide) ?_
    exact hE _ _ _ _ dX0_hasWritten_15 rfl ⟨(bz_t (by first | assumption | omega)).symm, rfl⟩
set_option maxHeartbeats 4000000 in
set_option maxRecDepth 100000 in
theorem m_countRemembered (l : Launch) {g : GT} {ad : Nat → Nat} {P : Nat → TS} {k : Nat} (hk : k < 2) (T : TS) (hT : RG T) {q : Nat} (hq : isQ q) : MI l yX0_countRemembered cX0_countRemembered 3 .int (rmN 1) g [.ref (ad (ix k q))] (SW g ad P k T) (fun z ws9 => z = sm 8 (rmF T q) ∧ ws9 = SW g ad P k T) := by
  refine MI.of (own := RX0) (by decide) rfl (Nat.le_of_ble_eq_true rfl) (fun x hx hE => ?_)
  have hq7 := hq.1
  have hq8 := hq.2
  refine V_lv (lv' := [(0, .ref (ad (ix k q)))]) rfl ?_
  refine V_iconst hx dX0_countRemembered_0 ?_
  refine V_istore_n hx dX0_countRemembered_1 [(1, .int (iZ (0))), (0, .ref (ad (ix k q)))] (by decide) rfl ?_
  refine V_iconst hx dX0_countRemembered_2 ?_
  refine V_istore_n hx dX0_countRemembered_3 [(2, .int (iZ (0))), (1, .int (iZ (0))), (0, .ref (ad (ix k q)))] (by decide) rfl ?_
  have hL4 : ∀ (n : Nat) (i : Nat), 8 < i + n → i ≤ 8 → V x 0 0 (SW g ad P k T) 4 [(2, .int (iZ ((i : Int)))), (1, .int (iZ (sm i (rmF T q)))), (0, .ref (ad (ix k q)))] [] := by
    intro n
    induction n with
    | zero =>
      intro i g1 g2 
      exact absurd g1 (by omega)
    | succ n ih =>
      intro i g1 g2 
      refine V_iload_n hx dX0_countRemembered_4 0 rfl ?_
      refine V_bipush hx dX0_countRemembered_5 rfl ?_
      refine V_icmp_ge hx dX0_countRemembered_7 32 (by decide) ⟨by omega, by omega⟩ ⟨by decide, by decide⟩ (fun h7 => ?_) (fun h7 => ?_)
      · refine V_iload_n hx dX0_countRemembered_32 1 rfl ?_
        exact hE _ _ _ _ dX0_countRemembered_33 rfl ⟨by rw [show i = 8 by omega], rfl⟩
      · refine V_iload_n hx dX0_countRemembered_10 1 rfl ?_
        refine V_aload_n hx dX0_countRemembered_11 2 rfl ?_
        refine V_iload_n hx dX0_countRemembered_12 0 rfl ?_
        refine V_calli hx (m_remembers l hk T hT (q := q) hq (d := (i : Int)) (by omega) (by omega)) cw_X0_50 (RMn (by decide) (by decide)) rfl (ix k q) (SW_clk hk hq) rfl rfl (Nat.le_of_ble_eq_true rfl) dX0_countRemembered_13 0 0 rfl rfl (fun z1 ws1 e1 => ?_)
        obtain ⟨rfl, rfl⟩ := e1
        refine V_top (b := bz (T (q + 5) i ≠ -1)) rfl ?_
        refine V_ifb_eq hx dX0_countRemembered_16 23 (by decide) (fun h16 => ?_) (fun h16 => ?_)
        · refine V_iconst hx dX0_countRemembered_23 ?_
          refine V_iadd hx dX0_countRemembered_24 ?_
          refine V_istore_n hx dX0_countRemembered_25 [(1, .int (iZ ((sm i (rmF T q)) + 0))), (2, .int (iZ ((i : Int)))), (0, .ref (ad (ix k q)))] (by decide) rfl ?_
          refine V_iincN hx dX0_countRemembered_26 1 rfl [(2, .int (iZ (((i + 1 : Nat) : Int)))), (1, .int (iZ ((sm i (rmF T q)) + 0))), (0, .ref (ad (ix k q)))] (by decide) rfl ?_
          refine V_goto hx dX0_countRemembered_29 4 (by decide) ?_
          refine V_sub (lv' := [(2, .int (iZ (((i + 1 : Nat) : Int)))), (1, .int (iZ ((sm i (rmF T q)) + 0))), (0, .ref (ad (ix k q)))]) [0, 1, 2] rfl ?_
          refine V_lv (lv' := [(2, .int (iZ ((i + 1 : Nat) : Int))), (1, .int (iZ (sm (i + 1) (rmF T q)))), (0, .ref (ad (ix k q)))]) (by simp only [sm, rmF, bz_f h16]) ?_
          exact ih (i + 1) (by omega) (by omega)
        · refine V_iconst hx dX0_countRemembered_19 ?_
          refine V_goto hx dX0_countRemembered_20 24 (by decide) ?_
          refine V_iadd hx dX0_countRemembered_24 ?_
          refine V_istore_n hx dX0_countRemembered_25 [(1, .int (iZ ((sm i (rmF T q)) + 1))), (2, .int (iZ ((i : Int)))), (0, .ref (ad (ix k q)))] (by decide) rfl ?_
          refine V_iincN hx dX0_countRemembered_26 1 rfl [(2, .int (iZ (((i + 1 : Nat) : Int)))), (1, .int (iZ ((sm i (rmF T q)) + 1))), (0, .ref (ad (ix k q)))] (by decide) rfl ?_
          refine V_goto hx dX0_countRemembered_29 4 (by decide) ?_
          refine V_sub (lv' := [(2, .int (iZ (((i + 1 : Nat) : Int)))), (1, .int (iZ ((sm i (rmF T q)) + 1))), (0, .ref (ad (ix k q)))]) [0, 1, 2] rfl ?_
          refine V_lv (lv' := [(2, .int (iZ ((i + 1 : Nat) : Int))), (1, .int (iZ (sm (i + 1) (rmF T q)))), (0, .ref (ad (ix k q)))]) (by simp only [sm, rmF, bz_t h16]) ?_
          exact ih (i + 1) (by omega) (by omega)
  refine V_ws (ws' := SW g ad P k T) rfl ?_
  exact V_sub [0, 1, 2] rfl (hL4 (8 + 1) 0 (by omega) (by omega))
set_option maxHeartbeats 4000000 in
set_option maxRecDepth 100000 in
theorem m_countWritten (l : Launch) {g : GT} {ad : Nat → Nat} {P : Nat → TS} {k : Nat} (hk : k < 2) (T : TS) (hT : RG T) {q : Nat} (hq : isQ q) : MI l yX0_countWritten cX0_countWritten 3 .int (rmN 1) g [.ref (ad (ix k q))] (SW g ad P k T) (fun z ws9 => z = sm 8 (wrF T q) ∧ ws9 = SW g ad P k T) := by
  refine MI.of (own := RX0) (by decide) rfl (Nat.le_of_ble_eq_true rfl) (fun x hx hE => ?_)
  have hq7 := hq.1
  have hq8 := hq.2
  refine V_lv (lv' := [(0, .ref (ad (ix k q)))]) rfl ?_
  refine V_iconst hx dX0_countWritten_0 ?_
  refine V_istore_n hx dX0_countWritten_1 [(1, .int (iZ (0))), (0, .ref (ad (ix k q)))] (by decide) rfl ?_
  refine V_iconst hx dX0_countWritten_2 ?_
  refine V_istore_n hx dX0_countWritten_3 [(2, .int (iZ (0))), (1, .int (iZ (0))), (0, .ref (ad (ix k q)))] (by decide) rfl ?_
  have hL4 : ∀ (n : Nat) (i : Nat), 8 < i + n → i ≤ 8 → V x 0 0 (SW g ad P k T) 4 [(2, .int (iZ ((i : Int)))), (1, .int (iZ (sm i (wrF T q)))), (0, .ref (ad (ix k q)))] [] := by
    intro n
    induction n with
    | zero =>
      intro i g1 g2 
      exact absurd g1 (by omega)
    | succ n ih =>
      intro i g1 g2 
      refine V_iload_n hx dX0_countWritten_4 0 rfl ?_
      refine V_bipush hx dX0_countWritten_5 rfl ?_
      refine V_icmp_ge hx dX0_countWritten_7 32 (by decide) ⟨by omega, by omega⟩ ⟨by decide, by decide⟩ (fun h7 => ?_) (fun h7 => ?_)
      · refine V_iload_n hx dX0_countWritten_32 1 rfl ?_
        exact hE _ _ _ _ dX0_countWritten_33 rfl ⟨by rw [show i = 8 by omega], rfl⟩
      · refine V_iload_n hx dX0_countWritten_10 1 rfl ?_
        refine V_aload_n hx dX0_countWritten_11 2 rfl ?_
        refine V_iload_n hx dX0_countWritten_12 0 rfl ?_
        refine V_calli hx (m_hasWritten l hk T hT (q := q) hq (d := (i : Int)) (by omega) (by omega)) cw_X0_54 (RMn (by decide) (by decide)) rfl (ix k q) (SW_clk hk hq) rfl rfl (Nat.le_of_ble_eq_true rfl) dX0_countWritten_13 0 0 rfl rfl (fun z1 ws1 e1 => ?_)
        obtain ⟨rfl, rfl⟩ := e1
        refine V_top (b := bz (T (q + 7) i ≠ -1)) rfl ?_
        refine V_ifb_eq hx dX0_countWritten_16 23 (by decide) (fun h16 => ?_) (fun h16 => ?_)
        · refine V_iconst hx dX0_countWritten_23 ?_
          refine V_iadd hx dX0_countWritten_24 ?_
          refine V_istore_n hx dX0_countWritten_25 [(1, .int (iZ ((sm i (wrF T q)) + 0))), (2, .int (iZ ((i : Int)))), (0, .ref (ad (ix k q)))] (by decide) rfl ?_
          refine V_iincN hx dX0_countWritten_26 1 rfl [(2, .int (iZ (((i + 1 : Nat) : Int)))), (1, .int (iZ ((sm i (wrF T q)) + 0))), (0, .ref (ad (ix k q)))] (by decide) rfl ?_
          refine V_goto hx dX0_countWritten_29 4 (by decide) ?_
          refine V_sub (lv' := [(2, .int (iZ (((i + 1 : Nat) : Int)))), (1, .int (iZ ((sm i (wrF T q)) + 0))), (0, .ref (ad (ix k q)))]) [0, 1, 2] rfl ?_
          refine V_lv (lv' := [(2, .int (iZ ((i + 1 : Nat) : Int))), (1, .int (iZ (sm (i + 1) (wrF T q)))), (0, .ref (ad (ix k q)))]) (by simp only [sm, wrF, bz_f h16]) ?_
          exact ih (i + 1) (by omega) (by omega)
        · refine V_iconst hx dX0_countWritten_19 ?_
          refine V_goto hx dX0_countWritten_20 24 (by decide) ?_
          refine V_iadd hx dX0_countWritten_24 ?_
          refine V_istore_n hx dX0_countWritten_25 [(1, .int (iZ ((sm i (wrF T q)) + 1))), (2, .int (iZ ((i : Int)))), (0, .ref (ad (ix k q)))] (by decide) rfl ?_
          refine V_iincN hx dX0_countWritten_26 1 rfl [(2, .int (iZ (((i + 1 : Nat) : Int)))), (1, .int (iZ ((sm i (wrF T q)) + 1))), (0, .ref (ad (ix k q)))] (by decide) rfl ?_
          refine V_goto hx dX0_countWritten_29 4 (by decide) ?_
          refine V_sub (lv' := [(2, .int (iZ (((i + 1 : Nat) : Int)))), (1, .int (iZ ((sm i (wrF T q)) + 1))), (0, .ref (ad (ix k q)))]) [0, 1, 2] rfl ?_
          refine V_lv (lv' := [(2, .int (iZ ((i + 1 : Nat) : Int))), (1, .int (iZ (sm (i + 1) (wrF T q)))), (0, .ref (ad (ix k q)))]) (by simp only [sm, wrF, bz_t h16]) ?_
          exact ih (i + 1) (by omega) (by omega)
  refine V_ws (ws' := SW g ad P k T) rfl ?_
  exact V_sub [0, 1, 2] rfl (hL4 (8 + 1) 0 (by omega) (by omega))
set_option maxHeartbeats 4000000 in
set_option maxRecDepth 100000 in
theorem m_isAtWork (l : Launch) {g : GT} {ad : Nat → Nat} {P : Nat → TS} {k : Nat} (hk : k < 2) (T : TS) (hT : RG T) {q : Nat} (hq : isQ q) : MI l yX0_isAtWork cX0_isAtWork 1 .boolean (rmN 0) g [.ref (ad (ix k q))] (SW g ad P k T) (fun z ws9 => z = bz (T q 2 = 0 ∧ 0 < T q 0) ∧ ws9 = SW g ad P k T) := by
  refine MI.of (own := RX0) (by decide) rfl (Nat.le_of_ble_eq_true rfl) (fun x hx hE => ?_)
  have hq7 := hq.1
  have hq8 := hq.2
  refine V_lv (lv' := [(0, .ref (ad (ix k q)))]) rfl ?_
  refine V_aload_n hx dX0_isAtWork_0 0 rfl ?_
  refine gf_X0_46 hx (ix k q) (SW_clk hk hq) rfl dX0_isAtWork_1 ?_
  refine V_if_ne hx dX0_isAtWork_4 18 (by decide) (by first | assumption | exact hT _ _ | exact ⟨by omega, by omega⟩) (fun h4 => ?_) (fun h4 => ?_)
  · refine V_iconst hx dX0_isAtWork_18 ?_
    exact hE _ _ _ _ dX0_isAtWork_19 rfl ⟨(bz_f (by first | assumption | (intro h9; omega) | omega)).symm, rfl⟩
  · refine V_aload_n hx dX0_isAtWork_7 0 rfl ?_
    refine gf_X0_36 hx (ix k q) (SW_clk hk hq) rfl dX0_isAtWork_8 ?_
    refine V_if_le hx dX0_isAtWork_11 18 (by decide) (by first | assumption | exact hT _ _ | exact ⟨by omega, by omega⟩) (fun h11 => ?_) (fun h11 => ?_)
    · refine V_iconst hx dX0_isAtWork_18 ?_
      exact hE _ _ _ _ dX0_isAtWork_19 rfl ⟨(bz_f (by first | assumption | (intro h9; omega) | omega)).symm, rfl⟩
    · refine V_iconst hx dX0_isAtWork_14 ?_
      refine V_goto hx dX0_isAtWork_15 19 (by decide) ?_
      exact hE _ _ _ _ dX0_isAtWork_19 rfl ⟨(bz_t (by first | assumption | omega)).symm, rfl⟩
set_option maxHeartbeats 4000000 in
set_option maxRecDepth 100000 in
theorem m_slipFact (l : Launch) {g : GT} {ad : Nat → Nat} {P : Nat → TS} {k : Nat} (hk : k < 2) (T : TS) (hT : RG T) {q : Nat} (hq : isQ q) {d : Int} (hd0 : 0 ≤ d) (hd8 : d < 8) {what : Int} (hw0 : 0 ≤ what) (hw9 : what < 2147483648) : MI l yX0_slipFact cX0_slipFact 3 .int (rmN 0) g [.ref (ad (ix k q)), .int (iZ (d)), .int (iZ (what))] (SW g ad P k T) (fun z ws9 => z = slV T q d what ∧ ws9 = SW g ad P k T) := by
  refine MI.of (own := RX0) (by decide) rfl (Nat.le_of_ble_eq_true rfl) (fun x hx hE => ?_)
  have hq7 := hq.1
  have hq8 := hq.2
  refine V_lv (lv' := [(0, .ref (ad (ix k q))), (1, .int (iZ (d))), (2, .int (iZ (what)))]) rfl ?_
  refine V_iload_n hx dX0_slipFact_0 2 rfl ?_
  by_cases h1_0 : what = 0
  · refine V_lookup hx dX0_slipFact_1 rfl (by first | assumption | exact hT _ _ | exact ⟨by omega, by omega⟩) (off := 27) (by rw [h1_0]; rfl) 28 (by decide) ?_
    refine V_aload_n hx dX0_slipFact_28 0 rfl ?_
    refine gf_X0_24 hx (ix k q) (SW_clk hk hq) rfl dX0_slipFact_29 ?_
    refine V_iload_n hx dX0_slipFact_32 1 rfl ?_
    refine V_iald hx (by omega) (by omega) (by decide) (ix k (q + 5)) (SW_c8 hk hq 5 (by decide)) (v := T (q + 5) d.toNat) rfl dX0_slipFact_33 ?_
    exact hE _ _ _ _ dX0_slipFact_34 rfl ⟨by unfold slV; simp [*], rfl⟩
  by_cases h1_1 : what = 1
  · refine V_lookup hx dX0_slipFact_1 rfl (by first | assumption | exact hT _ _ | exact ⟨by omega, by omega⟩) (off := 34) (by rw [h1_1]; rfl) 35 (by decide) ?_
    refine V_aload_n hx dX0_slipFact_35 0 rfl ?_
    refine gf_X0_27 hx (ix k q) (SW_clk hk hq) rfl dX0_slipFact_36 ?_
    refine V_iload_n hx dX0_slipFact_39 1 rfl ?_
    refine V_iald hx (by omega) (by omega) (by decide) (ix k (q + 6)) (SW_c8 hk hq 6 (by decide)) (v := T (q + 6) d.toNat) rfl dX0_slipFact_40 ?_
    exact hE _ _ _ _ dX0_slipFact_41 rfl ⟨by unfold slV; simp [*], rfl⟩
  refine V_lookup hx dX0_slipFact_1 rfl (by first | assumption | exact hT _ _ | exact ⟨by omega, by omega⟩) (off := 41) (by simp [Op.lookupswitch.offset, Ne.symm h1_0, Ne.symm h1_1]) 42 (by decide) ?_
  refine V_aload_n hx dX0_slipFact_42 0 rfl ?_
  refine gf_X0_30 hx (ix k q) (SW_clk hk hq) rfl dX0_slipFact_43 ?_
  refine V_iload_n hx dX0_slipFact_46 1 rfl ?_
  refine V_iald hx (by omega) (by omega) (by decide) (ix k (q + 7)) (SW_c8 hk hq 7 (by decide)) (v := T (q + 7) d.toNat) rfl dX0_slipFact_47 ?_
  exact hE _ _ _ _ dX0_slipFact_48 rfl ⟨by unfold slV; simp [*], rfl⟩
set_option maxHeartbeats 4000000 in
set_option maxRecDepth 100000 in
theorem m_stepFact (l : Launch) {g : GT} {ad : Nat → Nat} {P : Nat → TS} {k : Nat} (hk : k < 2) (T : TS) (hT : RG T) {q : Nat} (hq : isQ q) {d : Int} (hd0 : 0 ≤ d) (hd8 : d < 8) {what : Int} (hw0 : 0 ≤ what) (hw9 : what < 2147483648) : MI l yX0_stepFact cX0_stepFact 3 .int (rmN 0) g [.ref (ad (ix k q)), .int (iZ (d)), .int (iZ (what))] (SW g ad P k T) (fun z ws9 => z = stV T q d what ∧ ws9 = SW g ad P k T) := by
  refine MI.of (own := RX0) (by decide) rfl (Nat.le_of_ble_eq_true rfl) (fun x hx hE => ?_)
  have hq7 := hq.1
  have hq8 := hq.2
  refine V_lv (lv' := [(0, .ref (ad (ix k q))), (1, .int (iZ (d))), (2, .int (iZ (what)))]) rfl ?_
  refine V_iload_n hx dX0_stepFact_0 2 rfl ?_
  by_cases h1_0 : what = 0
  · refine V_tabIn hx dX0_stepFact_1 (by first | assumption | exact hT _ _ | exact ⟨by omega, by omega⟩) (by omega) (by omega) (off := 27) (by rw [h1_0]; rfl) 28 (by decide) ?_
    refine V_aload_n hx dX0_stepFact_28 0 rfl ?_
    refine gf_X0_9 hx (ix k q) (SW_clk hk hq) rfl dX0_stepFact_29 ?_
    refine V_iload_n hx dX0_stepFact_32 1 rfl ?_
    refine V_iald hx (by omega) (by omega) (by decide) (ix k (q + 1)) (SW_c8 hk hq 1 (by decide)) (v := T (q + 1) d.toNat) rfl dX0_stepFact_33 ?_
    exact hE _ _ _ _ dX0_stepFact_34 rfl ⟨by unfold stV; simp [*], rfl⟩
  by_cases h1_1 : what = 1
  · refine V_tabIn hx dX0_stepFact_1 (by first | assumption | exact hT _ _ | exact ⟨by omega, by omega⟩) (by omega) (by omega) (off := 34) (by rw [h1_1]; rfl) 35 (by decide) ?_
    refine V_aload_n hx dX0_stepFact_35 0 rfl ?_
    refine gf_X0_15 hx (ix k q) (SW_clk hk hq) rfl dX0_stepFact_36 ?_
    refine V_iload_n hx dX0_stepFact_39 1 rfl ?_
    refine V_iald hx (by omega) (by omega) (by decide) (ix k (q + 2)) (SW_c8 hk hq 2 (by decide)) (v := T (q + 2) d.toNat) rfl dX0_stepFact_40 ?_
    exact hE _ _ _ _ dX0_stepFact_41 rfl ⟨by unfold stV; simp [*], rfl⟩
  by_cases h1_2 : what = 2
  · refine V_tabIn hx dX0_stepFact_1 (by first | assumption | exact hT _ _ | exact ⟨by omega, by omega⟩) (by omega) (by omega) (off := 41) (by rw [h1_2]; rfl) 42 (by decide) ?_
    refine V_aload_n hx dX0_stepFact_42 0 rfl ?_
    refine gf_X0_18 hx (ix k q) (SW_clk hk hq) rfl dX0_stepFact_43 ?_
    refine V_iload_n hx dX0_stepFact_46 1 rfl ?_
    refine V_iald hx (by omega) (by omega) (by decide) (ix k (q + 3)) (SW_c8 hk hq 3 (by decide)) (v := T (q + 3) d.toNat) rfl dX0_stepFact_47 ?_
    exact hE _ _ _ _ dX0_stepFact_48 rfl ⟨by unfold stV; simp [*], rfl⟩
  refine V_tabOut hx dX0_stepFact_1 (by first | assumption | exact hT _ _ | exact ⟨by omega, by omega⟩) (by omega) 49 (by decide) ?_
  refine V_aload_n hx dX0_stepFact_49 0 rfl ?_
  refine gf_X0_21 hx (ix k q) (SW_clk hk hq) rfl dX0_stepFact_50 ?_
  refine V_iload_n hx dX0_stepFact_53 1 rfl ?_
  refine V_iald hx (by omega) (by omega) (by decide) (ix k (q + 4)) (SW_c8 hk hq 4 (by decide)) (v := T (q + 4) d.toNat) rfl dX0_stepFact_54 ?_
  exact hE _ _ _ _ dX0_stepFact_55 rfl ⟨by unfold stV; simp [*], rfl⟩
set_option maxHeartbeats 4000000 in
set_option maxRecDepth 100000 in
theorem m_addStep (l : Launch) {g : GT} {ad : Nat → Nat} {P : Nat → TS} {k : Nat} (hk : k < 2) (T : TS) (hT : RG T) {q : Nat} (hq : isQ q) {kd d e b : Int} (h0 : 0 ≤ T q 0) (h8 : T q 0 < 8) : MV l yX0_addStep cX0_addStep 5 (rmN 0) g [.ref (ad (ix k q)), .int (iZ (kd)), .int (iZ (d)), .int (iZ (e)), .int (iZ (b))] (SW g ad P k T) (fun ws9 => ws9 = SW g ad P k (asT T q kd d e b)) := by
  refine MV.of (own := RX0) (by decide) rfl (Nat.le_of_ble_eq_true rfl) (fun x hx hE => ?_)
  have hq7 := hq.1
  have hq8 := hq.2
  refine V_lv (lv' := [(0, .ref (ad (ix k q))), (1, .int (iZ (kd))), (2, .int (iZ (d))), (3, .int (iZ (e))), (4, .int (iZ (b)))]) rfl ?_
  refine V_aload_n hx dX0_addStep_0 0 rfl ?_
  refine gf_X0_36 hx (ix k q) (SW_clk hk hq) rfl dX0_addStep_1 ?_
  refine V_bipush hx dX0_addStep_4 rfl ?_
  refine V_icmp_lt hx dX0_addStep_6 10 (by decide) (by first | assumption | exact hT _ _ | exact ⟨by omega, by omega⟩) ⟨by decide, by decide⟩ (fun h6 => ?_) (fun h6 => ?_)
  · refine V_aload_n hx dX0_addStep_10 0 rfl ?_
    refine gf_X0_9 hx (ix k q) (SW_clk hk hq) rfl dX0_addStep_11 ?_
    refine V_aload_n hx dX0_addStep_14 0 rfl ?_
    refine gf_X0_36 hx (ix k q) (SW_clk hk hq) rfl dX0_addStep_15 ?_
    refine V_iload_n hx dX0_addStep_18 1 rfl ?_
    refine V_iast hx (by omega) (by omega) (by decide) (ix k (q + 1)) (SW_c8 hk hq 1 (by decide)) (SW g ad P k (pt T (q + 1) ((T q 0).toNat) (kd))) (SW_sc8 hq 1 (by decide)) dX0_addStep_19 ?_
    refine V_aload_n hx dX0_addStep_20 0 rfl ?_
    refine gf_X0_15 hx (ix k q) (SW_clk hk hq) rfl dX0_addStep_21 ?_
    refine V_aload_n hx dX0_addStep_24 0 rfl ?_
    refine gf_X0_36 hx (ix k q) (SW_clk hk hq) rfl dX0_addStep_25 ?_
    refine V_top (b := T q 0) (by rw [pt_ne _ _ (Or.inl (by omega))]) ?_
    refine V_iload_n hx dX0_addStep_28 2 rfl ?_
    refine V_iast hx (by omega) (by omega) (by decide) (ix k (q + 2)) (SW_c8 hk hq 2 (by decide)) (SW g ad P k (pt (pt T (q + 1) ((T q 0).toNat) (kd)) (q + 2) ((T q 0).toNat) (d))) (SW_sc8 hq 2 (by decide)) dX0_addStep_29 ?_
    refine V_aload_n hx dX0_addStep_30 0 rfl ?_
    refine gf_X0_18 hx (ix k q) (SW_clk hk hq) rfl dX0_addStep_31 ?_
    refine V_aload_n hx dX0_addStep_34 0 rfl ?_
    refine gf_X0_36 hx (ix k q) (SW_clk hk hq) rfl dX0_addStep_35 ?_
    refine V_top (b := T q 0) (by rw [pt_ne _ _ (Or.inl (by omega)), pt_ne _ _ (Or.inl (by omega))]) ?_
    refine V_iload_n hx dX0_addStep_38 3 rfl ?_
    refine V_iast hx (by omega) (by omega) (by decide) (ix k (q + 3)) (SW_c8 hk hq 3 (by decide)) (SW g ad P k (pt (pt (pt T (q + 1) ((T q 0).toNat) (kd)) (q + 2) ((T q 0).toNat) (d)) (q + 3) ((T q 0).toNat) (e))) (SW_sc8 hq 3 (by decide)) dX0_addStep_39 ?_
    refine V_aload_n hx dX0_addStep_40 0 rfl ?_
    refine gf_X0_21 hx (ix k q) (SW_clk hk hq) rfl dX0_addStep_41 ?_
    refine V_aload_n hx dX0_addStep_44 0 rfl ?_
    refine gf_X0_36 hx (ix k q) (SW_clk hk hq) rfl dX0_addStep_45 ?_
    refine V_top (b := T q 0) (by rw [pt_ne _ _ (Or.inl (by omega)), pt_ne _ _ (Or.inl (by omega)), pt_ne _ _ (Or.inl (by omega))]) ?_
    refine V_iload hx dX0_addStep_48 4 rfl ?_
    refine V_iast hx (by omega) (by omega) (by decide) (ix k (q + 4)) (SW_c8 hk hq 4 (by decide)) (SW g ad P k (pt (pt (pt (pt T (q + 1) ((T q 0).toNat) (kd)) (q + 2) ((T q 0).toNat) (d)) (q + 3) ((T q 0).toNat) (e)) (q + 4) ((T q 0).toNat) (b))) (SW_sc8 hq 4 (by decide)) dX0_addStep_50 ?_
    refine V_aload_n hx dX0_addStep_51 0 rfl ?_
    refine V_dup hx dX0_addStep_52 rfl ?_
    refine gf_X0_36 hx (ix k q) (SW_clk hk hq) rfl dX0_addStep_53 ?_
    refine V_top (b := T q 0) (by rw [pt_ne _ _ (Or.inl (by omega)), pt_ne _ _ (Or.inl (by omega)), pt_ne _ _ (Or.inl (by omega)), pt_ne _ _ (Or.inl (by omega))]) ?_
    refine V_iconst hx dX0_addStep_56 ?_
    refine V_iadd hx dX0_addStep_57 ?_
    refine pf_X0_36 hx (ix k q) (SW_clk hk hq) (Nat.le_of_ble_eq_true rfl) (SW g ad P k (pt (pt (pt (pt (pt T (q + 1) ((T q 0).toNat) (kd)) (q + 2) ((T q 0).toNat) (d)) (q + 3) ((T q 0).toNat) (e)) (q + 4) ((T q 0).toNat) (b)) (q) (0) ((T q 0) + 1))) (SW_sq0 hq) dX0_addStep_58 ?_
    exact hE _ _ _ dX0_addStep_61 rfl
  · exact hE _ _ _ dX0_addStep_9 (absurd h8 h6)
set_option maxHeartbeats 4000000 in
set_option maxRecDepth 100000 in
theorem m_become (l : Launch) {g : GT} {ad : Nat → Nat} {P : Nat → TS} {k k' : Nat} (hk : k < 2) (hk' : k' < 2) (hne : k' ≠ k) (T : TS) {q : Nat} (hq : isQ q) (hdn : P k' q 2 = 0 ∨ P k' q 2 = 1) : MV l yX0_become cX0_become 3 (rmN 0) g [.ref (ad (ix k q)), .ref (ad (ix k' q))] (SW g ad P k T) (fun ws9 => ws9 = SW g ad P k (bcT T (P k') q 8 8)) := by
  refine MV.of (own := RX0) (by decide) rfl (Nat.le_of_ble_eq_true rfl) (fun x hx hE => ?_)
  have hq7 := hq.1
  have hq8 := hq.2
  refine V_lv (lv' := [(0, .ref (ad (ix k q))), (1, .ref (ad (ix k' q)))]) rfl ?_
  refine V_aload_n hx dX0_become_0 0 rfl ?_
  refine V_aload_n hx dX0_become_1 1 rfl ?_
  refine gf_X0_36 hx (ix k' q) (SW_clk' hk' hne hq) rfl dX0_become_2 ?_
  refine pf_X0_36 hx (ix k q) (SW_clk hk hq) (Nat.le_of_ble_eq_true rfl) (SW g ad P k (pt T (q) (0) (P k' q 0))) (SW_sq0 hq) dX0_become_5 ?_
  refine V_aload_n hx dX0_become_8 0 rfl ?_
  refine V_aload_n hx dX0_become_9 1 rfl ?_
  refine gf_X0_43 hx (ix k' q) (SW_clk' hk' hne hq) rfl dX0_become_10 ?_
  refine pf_X0_43 hx (ix k q) (SW_clk hk hq) (Nat.le_of_ble_eq_true rfl) (SW g ad P k (pt (pt T (q) (0) (P k' q 0)) (q) (1) (P k' q 1))) (SW_sq1 hq) dX0_become_13 ?_
  refine V_aload_n hx dX0_become_16 0 rfl ?_
  refine V_aload_n hx dX0_become_17 1 rfl ?_
  refine gf_X0_46 hx (ix k' q) (SW_clk' hk' hne hq) rfl dX0_become_18 ?_
  refine pf_X0_46 hx (by rcases hdn with h | h <;> rw [h] <;> rfl) (by rcases hdn with h | h <;> rw [h] <;> rfl) (ix k q) (SW_clk hk hq) (Nat.le_of_ble_eq_true rfl) (SW g ad P k (pt (pt (pt T (q) (0) (P k' q 0)) (q) (1) (P k' q 1)) (q) (2) (P k' q 2))) (SW_sq2 hq) dX0_become_21 ?_
  refine V_aload_n hx dX0_become_24 0 rfl ?_
  refine V_aload_n hx dX0_become_25 1 rfl ?_
  refine gf_X0_40 hx (ix k' q) (SW_clk' hk' hne hq) rfl dX0_become_26 ?_
  refine pf_X0_40 hx (ix k q) (SW_clk hk hq) (Nat.le_of_ble_eq_true rfl) (SW g ad P k (pt (pt (pt (pt T (q) (0) (P k' q 0)) (q) (1) (P k' q 1)) (q) (2) (P k' q 2)) (q) (3) (P k' q 3))) (SW_sq3 hq) dX0_become_29 ?_
  refine V_iconst hx dX0_become_32 ?_
  refine V_istore_n hx dX0_become_33 [(2, .int (iZ (0))), (0, .ref (ad (ix k q))), (1, .ref (ad (ix k' q)))] (by decide) rfl ?_
  have hL34 : ∀ (n : Nat) (i : Nat), 8 < i + n → i ≤ 8 → V x 0 0 (SW g ad P k (bcT T (P k') q i 0)) 34 [(2, .int (iZ ((i : Int)))), (0, .ref (ad (ix k q))), (1, .ref (ad (ix k' q)))] [] := by
    intro n
    induction n with
    | zero =>
      intro i g1 g2 
      exact absurd g1 (by omega)
    | succ n ih =>
      intro i g1 g2 
      refine V_iload_n hx dX0_become_34 0 rfl ?_
      refine V_bipush hx dX0_become_35 rfl ?_
      refine V_icmp_ge hx dX0_become_37 94 (by decide) ⟨by omega, by omega⟩ ⟨by decide, by decide⟩ (fun h37 => ?_) (fun h37 => ?_)
      · refine V_iconst hx dX0_become_94 ?_
        refine V_istore_n hx dX0_become_95 [(2, .int (iZ (0))), (0, .ref (ad (ix k q))), (1, .ref (ad (ix k' q)))] (by decide) rfl ?_
        have hL96 : ∀ (n : Nat) (i : Nat), 8 < i + n → i ≤ 8 → V x 0 0 (SW g ad P k (bcT T (P k') q 8 i)) 96 [(2, .int (iZ ((i : Int)))), (0, .ref (ad (ix k q))), (1, .ref (ad (ix k' q)))] [] := by
          intro n
          induction n with
          | zero =>
            intro i g1 g2 
            exact absurd g1 (by omega)
          | succ n ih =>
            intro i g1 g2 
            refine V_iload_n hx dX0_become_96 0 rfl ?_
            refine V_bipush hx dX0_become_97 rfl ?_
            refine V_icmp_ge hx dX0_become_99 144 (by decide) ⟨by omega, by omega⟩ ⟨by decide, by decide⟩ (fun h99 => ?_) (fun h99 => ?_)
            · exact hE _ _ _ dX0_become_144 (by rw [show i = 8 by omega])
            · refine V_aload_n hx dX0_become_102 1 rfl ?_
              refine gf_X0_24 hx (ix k q) (SW_clk hk hq) rfl dX0_become_103 ?_
              refine V_iload_n hx dX0_become_106 0 rfl ?_
              refine V_aload_n hx dX0_become_107 2 rfl ?_
              refine gf_X0_24 hx (ix k' q) (SW_clk' hk' hne hq) rfl dX0_become_108 ?_
              refine V_iload_n hx dX0_become_111 0 rfl ?_
              refine V_iald hx (by omega) (by omega) (by decide) (ix k' (q + 5)) (SW_c8' hk' hne hq 5 (by decide)) (v := P k' (q + 5) i) rfl dX0_become_112 ?_
              refine V_iast hx (by omega) (by omega) (by decide) (ix k (q + 5)) (SW_c8 hk hq 5 (by decide)) (SW g ad P k (pt (bcT T (P k') q 8 i) (q + 5) (i) (P k' (q + 5) i))) (SW_sc8 hq 5 (by decide)) dX0_become_113 ?_
              refine V_aload_n hx dX0_become_114 1 rfl ?_
              refine gf_X0_27 hx (ix k q) (SW_clk hk hq) rfl dX0_become_115 ?_
              refine V_iload_n hx dX0_become_118 0 rfl ?_
              refine V_aload_n hx dX0_become_119 2 rfl ?_
              refine gf_X0_27 hx (ix k' q) (SW_clk' hk' hne hq) rfl dX0_become_120 ?_
              refine V_iload_n hx dX0_become_123 0 rfl ?_
              refine V_iald hx (by omega) (by omega) (by decide) (ix k' (q + 6)) (SW_c8' hk' hne hq 6 (by decide)) (v := P k' (q + 6) i) rfl dX0_become_124 ?_
              refine V_iast hx (by omega) (by omega) (by decide) (ix k (q + 6)) (SW_c8 hk hq 6 (by decide)) (SW g ad P k (pt (pt (bcT T (P k') q 8 i) (q + 5) (i) (P k' (q + 5) i)) (q + 6) (i) (P k' (q + 6) i))) (SW_sc8 hq 6 (by decide)) dX0_become_125 ?_
              refine V_aload_n hx dX0_become_126 1 rfl ?_
              refine gf_X0_30 hx (ix k q) (SW_clk hk hq) rfl dX0_become_127 ?_
              refine V_iload_n hx dX0_become_130 0 rfl ?_
              refine V_aload_n hx dX0_become_131 2 rfl ?_
              refine gf_X0_30 hx (ix k' q) (SW_clk' hk' hne hq) rfl dX0_become_132 ?_
              refine V_iload_n hx dX0_become_135 0 rfl ?_
              refine V_iald hx (by omega) (by omega) (by decide) (ix k' (q + 7)) (SW_c8' hk' hne hq 7 (by decide)) (v := P k' (q + 7) i) rfl dX0_become_136 ?_
              refine V_iast hx (by omega) (by omega) (by decide) (ix k (q + 7)) (SW_c8 hk hq 7 (by decide)) (SW g ad P k (pt (pt (pt (bcT T (P k') q 8 i) (q + 5) (i) (P k' (q + 5) i)) (q + 6) (i) (P k' (q + 6) i)) (q + 7) (i) (P k' (q + 7) i))) (SW_sc8 hq 7 (by decide)) dX0_become_137 ?_
              refine V_iincN hx dX0_become_138 0 rfl [(2, .int (iZ (((i + 1 : Nat) : Int)))), (0, .ref (ad (ix k q))), (1, .ref (ad (ix k' q)))] (by decide) rfl ?_
              refine V_goto hx dX0_become_141 96 (by decide) ?_
              refine V_ws (ws' := SW g ad P k (bcT T (P k') q 8 (i + 1))) (congrArg (SW g ad P k) (by funext a b; simp only [pt, bcT]; (repeat' split) <;> first | rfl | omega | grind)) ?_
              exact V_sub [0, 1, 2] rfl (ih (i + 1) (by omega) (by omega))
        refine V_ws (ws' := SW g ad P k (bcT T (P k') q 8 0)) (by rw [show i = 8 by omega]) ?_
        exact V_sub [0, 1, 2] rfl (hL96 (8 + 1) 0 (by omega) (by omega))
      · refine V_aload_n hx dX0_become_40 1 rfl ?_
        refine gf_X0_9 hx (ix k q) (SW_clk hk hq) rfl dX0_become_41 ?_
        refine V_iload_n hx dX0_become_44 0 rfl ?_
        refine V_aload_n hx dX0_become_45 2 rfl ?_
        refine gf_X0_9 hx (ix k' q) (SW_clk' hk' hne hq) rfl dX0_become_46 ?_
        refine V_iload_n hx dX0_become_49 0 rfl ?_
        refine V_iald hx (by omega) (by omega) (by decide) (ix k' (q + 1)) (SW_c8' hk' hne hq 1 (by decide)) (v := P k' (q + 1) i) rfl dX0_become_50 ?_
        refine V_iast hx (by omega) (by omega) (by decide) (ix k (q + 1)) (SW_c8 hk hq 1 (by decide)) (SW g ad P k (pt (bcT T (P k') q i 0) (q + 1) (i) (P k' (q + 1) i))) (SW_sc8 hq 1 (by decide)) dX0_become_51 ?_
        refine V_aload_n hx dX0_become_52 1 rfl ?_
        refine gf_X0_15 hx (ix k q) (SW_clk hk hq) rfl dX0_become_53 ?_
        refine V_iload_n hx dX0_become_56 0 rfl ?_
        refine V_aload_n hx dX0_become_57 2 rfl ?_
        refine gf_X0_15 hx (ix k' q) (SW_clk' hk' hne hq) rfl dX0_become_58 ?_
        refine V_iload_n hx dX0_become_61 0 rfl ?_
        refine V_iald hx (by omega) (by omega) (by decide) (ix k' (q + 2)) (SW_c8' hk' hne hq 2 (by decide)) (v := P k' (q + 2) i) rfl dX0_become_62 ?_
        refine V_iast hx (by omega) (by omega) (by decide) (ix k (q + 2)) (SW_c8 hk hq 2 (by decide)) (SW g ad P k (pt (pt (bcT T (P k') q i 0) (q + 1) (i) (P k' (q + 1) i)) (q + 2) (i) (P k' (q + 2) i))) (SW_sc8 hq 2 (by decide)) dX0_become_63 ?_
        refine V_aload_n hx dX0_become_64 1 rfl ?_
        refine gf_X0_18 hx (ix k q) (SW_clk hk hq) rfl dX0_become_65 ?_
        refine V_iload_n hx dX0_become_68 0 rfl ?_
        refine V_aload_n hx dX0_become_69 2 rfl ?_
        refine gf_X0_18 hx (ix k' q) (SW_clk' hk' hne hq) rfl dX0_become_70 ?_
        refine V_iload_n hx dX0_become_73 0 rfl ?_
        refine V_iald hx (by omega) (by omega) (by decide) (ix k' (q + 3)) (SW_c8' hk' hne hq 3 (by decide)) (v := P k' (q + 3) i) rfl dX0_become_74 ?_
        refine V_iast hx (by omega) (by omega) (by decide) (ix k (q + 3)) (SW_c8 hk hq 3 (by decide)) (SW g ad P k (pt (pt (pt (bcT T (P k') q i 0) (q + 1) (i) (P k' (q + 1) i)) (q + 2) (i) (P k' (q + 2) i)) (q + 3) (i) (P k' (q + 3) i))) (SW_sc8 hq 3 (by decide)) dX0_become_75 ?_
        refine V_aload_n hx dX0_become_76 1 rfl ?_
        refine gf_X0_21 hx (ix k q) (SW_clk hk hq) rfl dX0_become_77 ?_
        refine V_iload_n hx dX0_become_80 0 rfl ?_
        refine V_aload_n hx dX0_become_81 2 rfl ?_
        refine gf_X0_21 hx (ix k' q) (SW_clk' hk' hne hq) rfl dX0_become_82 ?_
        refine V_iload_n hx dX0_become_85 0 rfl ?_
        refine V_iald hx (by omega) (by omega) (by decide) (ix k' (q + 4)) (SW_c8' hk' hne hq 4 (by decide)) (v := P k' (q + 4) i) rfl dX0_become_86 ?_
        refine V_iast hx (by omega) (by omega) (by decide) (ix k (q + 4)) (SW_c8 hk hq 4 (by decide)) (SW g ad P k (pt (pt (pt (pt (bcT T (P k') q i 0) (q + 1) (i) (P k' (q + 1) i)) (q + 2) (i) (P k' (q + 2) i)) (q + 3) (i) (P k' (q + 3) i)) (q + 4) (i) (P k' (q + 4) i))) (SW_sc8 hq 4 (by decide)) dX0_become_87 ?_
        refine V_iincN hx dX0_become_88 0 rfl [(2, .int (iZ (((i + 1 : Nat) : Int)))), (0, .ref (ad (ix k q))), (1, .ref (ad (ix k' q)))] (by decide) rfl ?_
        refine V_goto hx dX0_become_91 34 (by decide) ?_
        refine V_ws (ws' := SW g ad P k (bcT T (P k') q (i + 1) 0)) (congrArg (SW g ad P k) (by funext a b; simp only [pt, bcT]; (repeat' split) <;> first | rfl | omega | grind)) ?_
        exact V_sub [0, 1, 2] rfl (ih (i + 1) (by omega) (by omega))
  refine V_ws (ws' := SW g ad P k (bcT T (P k') q 0 0)) (congrArg (SW g ad P k) (by funext a b; simp only [pt, bcT]; (repeat' split) <;> first | rfl | omega | grind)) ?_
  exact V_sub [0, 1, 2] rfl (hL34 (8 + 1) 0 (by omega) (by omega))
