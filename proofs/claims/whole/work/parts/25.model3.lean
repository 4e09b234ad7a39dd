/-! the reference: its public methods, on -/
theorem RW_01 {g : GT} {md : Nat → Nat} {h : Int} {Q : Nat → TS} {R : TS} : RW g md h Q 0 R = RW g md h (ups Q 0 R) 1 (Q 1) := by
  unfold RW
  congr 1
  funext n
  unfold ups
  by_cases h : n = 1
  · subst h; rfl
  · rw [if_neg h]
theorem RW_1z {g : GT} {md : Nat → Nat} {h : Int} {Q : Nat → TS} {R R1 : TS} (h0 : Q 0 = R) : RW g md h Q 1 R1 = RW g md h (ups Q 1 R1) 0 R := by
  unfold RW
  congr 1
  funext n
  unfold ups
  by_cases h : n = 0
  · subst h; exact h0
  · rw [if_neg h]
set_option maxHeartbeats 4000000 in
set_option maxRecDepth 100000 in
theorem z_step (l : Launch) {g : GT} {md : Nat → Nat} {h : Int} {Q : Nat → TS} (R T : TS) (hR : REL R T) (hn1 : 1 ≤ T 0 0) (hn8 : T 0 0 ≤ 8) (hc0 : 0 ≤ T 0 1) (hc6 : T 0 1 ≤ 6) (hl0 : 0 ≤ T 0 2) (hl9 : T 0 2 < 2147483647) {c d : Int} (hc : rg c) (hd : rg d) {what : Int} (hwh : rg what) (hs8 : 0 ≤ c → c < T 0 1 → 0 ≤ T (7 + 8 * c.toNat) 0 ∧ T (7 + 8 * c.toNat) 0 ≤ 8) : MI l yX4_step cX4_step 4 .int (rmN 2) g [.ref (md 0), .int (iZ (c)), .int (iZ (d)), .int (iZ (what))] (RW g md h Q 0 R) (fun z ws9 => (((0 ≤ c ∧ c < T 0 1) ∧ (0 ≤ d ∧ d < T (7 + 8 * c.toNat) 0) ∧ (0 ≤ what ∧ what ≤ 3)) ∧ z = stV T (7 + 8 * c.toNat) d what ∧ ws9 = RW g md 0 Q 0 R) ∨ (¬ ((0 ≤ c ∧ c < T 0 1) ∧ (0 ≤ d ∧ d < T (7 + 8 * c.toNat) 0) ∧ (0 ≤ what ∧ what ≤ 3)) ∧ ws9 = RW g md 1 Q 0 R)) := by
  refine MI.of (own := RX4) (by decide) rfl (Nat.le_of_ble_eq_true rfl) (fun x hx hE => ?_)
  have hk : 0 < 2 := by decide
  obtain ⟨hT, r00, r01, r02, r12, rcc⟩ := id hR.1
  refine V_lv (lv' := [(0, .ref (md 0)), (1, .int (iZ (c))), (2, .int (iZ (d))), (3, .int (iZ (what)))]) rfl ?_
  refine V_aload_n hx dX4_step_0 0 rfl ?_
  refine V_iconst hx dX4_step_1 ?_
  refine pf_X4_19 hx 0 RW_o (Nat.le_of_ble_eq_true rfl) (RW g md 0 Q 0 R) RW_seth dX4_step_2 ?_
  refine V_aload_n hx dX4_step_5 0 rfl ?_
  refine V_iload_n hx dX4_step_6 1 rfl ?_
  refine V_calli hx (z_isClerk l R T hR (by omega) (by omega) (d := c) (by first | assumption | exact hT _ _ | exact ⟨by omega, by omega⟩)) cw_X4_57 (RMn (by decide) (by decide)) rfl 0 RW_o rfl rfl (Nat.le_of_ble_eq_true rfl) dX4_step_7 0 0 rfl rfl (fun z1 ws1 e1 => ?_)
  obtain ⟨rfl, rfl⟩ := e1
  refine V_ifb_eq hx dX4_step_10 54 (by decide) (fun h10 => ?_) (fun h10 => ?_)
  · refine V_aload_n hx dX4_step_54 0 rfl ?_
    refine V_iconst hx dX4_step_55 ?_
    refine V_calli hx (z_no l R (n := 1)) cw_X4_33 (RMn (by decide) (by decide)) rfl 0 RW_o rfl rfl (Nat.le_of_ble_eq_true rfl) dX4_step_56 0 0 rfl rfl (fun z2 ws2 e2 => ?_)
    obtain ⟨rfl, rfl⟩ := e2
    exact hE _ _ _ _ dX4_step_59 rfl (Or.inr ⟨by omega, rfl⟩)
  · obtain ⟨a1, a2, a3, a4, a5, a6⟩ := rcc c.toNat (by omega)
    obtain ⟨hs0, hs1⟩ := hs8 (by omega) (by omega)
    refine V_iload_n hx dX4_step_13 2 rfl ?_
    refine V_iconst hx dX4_step_14 ?_
    refine V_aload_n hx dX4_step_15 0 rfl ?_
    refine gf_X4_10 hx 0 RW_o rfl dX4_step_16 ?_
    refine gf_X4_66 hx (iy 0 0) (RW_s hk) rfl dX4_step_19 ?_
    refine V_iload_n hx dX4_step_22 1 rfl ?_
    refine V_iald hx (by omega) (by omega) (by decide) (iy 0 4) (RW_a hk 4 (by decide) (n := 6) rfl) (v := R 4 c.toNat) rfl dX4_step_23 ?_
    refine V_iconst hx dX4_step_24 ?_
    refine V_isub hx dX4_step_25 ?_
    refine V_callSi hx (z_isIn l (h := 0) (Q := Q) R (v := d) (lo := 0) (hi := (R 4 c.toNat) - 1) (by first | assumption | exact hT _ _ | exact ⟨by omega, by omega⟩) ⟨by decide, by decide⟩ (by first | assumption | exact hT _ _ | exact ⟨by omega, by omega⟩)) cw_X4_26 (RMn (by decide) (by decide)) rfl rfl (Nat.le_of_ble_eq_true rfl) dX4_step_26 0 0 rfl rfl (fun z3 ws3 e3 => ?_)
    obtain ⟨rfl, rfl⟩ := e3
    refine V_ifb_eq hx dX4_step_29 54 (by decide) (fun h29 => ?_) (fun h29 => ?_)
    · refine V_aload_n hx dX4_step_54 0 rfl ?_
      refine V_iconst hx dX4_step_55 ?_
      refine V_calli hx (z_no l R (n := 1)) cw_X4_33 (RMn (by decide) (by decide)) rfl 0 RW_o rfl rfl (Nat.le_of_ble_eq_true rfl) dX4_step_56 0 0 rfl rfl (fun z4 ws4 e4 => ?_)
      obtain ⟨rfl, rfl⟩ := e4
      exact hE _ _ _ _ dX4_step_59 rfl (Or.inr ⟨by omega, rfl⟩)
    · refine V_iload_n hx dX4_step_32 3 rfl ?_
      refine V_iconst hx dX4_step_33 ?_
      refine V_iconst hx dX4_step_34 ?_
      refine V_callSi hx (z_isIn l (h := 0) (Q := Q) R (v := what) (lo := 0) (hi := 3) (by first | assumption | exact hT _ _ | exact ⟨by omega, by omega⟩) ⟨by decide, by decide⟩ ⟨by decide, by decide⟩) cw_X4_26 (RMn (by decide) (by decide)) rfl rfl (Nat.le_of_ble_eq_true rfl) dX4_step_35 0 0 rfl rfl (fun z5 ws5 e5 => ?_)
      obtain ⟨rfl, rfl⟩ := e5
      refine V_ifb_eq hx dX4_step_38 54 (by decide) (fun h38 => ?_) (fun h38 => ?_)
      · refine V_aload_n hx dX4_step_54 0 rfl ?_
        refine V_iconst hx dX4_step_55 ?_
        refine V_calli hx (z_no l R (n := 1)) cw_X4_33 (RMn (by decide) (by decide)) rfl 0 RW_o rfl rfl (Nat.le_of_ble_eq_true rfl) dX4_step_56 0 0 rfl rfl (fun z6 ws6 e6 => ?_)
        obtain ⟨rfl, rfl⟩ := e6
        exact hE _ _ _ _ dX4_step_59 rfl (Or.inr ⟨by omega, rfl⟩)
      · refine V_aload_n hx dX4_step_41 0 rfl ?_
        refine gf_X4_10 hx 0 RW_o rfl dX4_step_42 ?_
        refine V_iload_n hx dX4_step_45 1 rfl ?_
        refine V_iload_n hx dX4_step_46 2 rfl ?_
        refine V_iload_n hx dX4_step_47 3 rfl ?_
        refine V_calli hx (y_step l hk R (c := c) (j := d) (w := what) (by omega) (by omega) (by omega) (by omega) (by omega) (by omega)) cw_X4_123 (RMn (by decide) (by decide)) rfl (iy 0 0) (RW_s hk) rfl rfl (Nat.le_of_ble_eq_true rfl) dX4_step_48 0 0 rfl rfl (fun z7 ws7 e7 => ?_)
        obtain ⟨rfl, rfl⟩ := e7
        refine V_goto hx dX4_step_51 59 (by decide) ?_
        exact hE _ _ _ _ dX4_step_59 rfl (Or.inl ⟨⟨h10, ⟨by omega, by omega⟩, h38⟩, by obtain ⟨g1, g2, g3, g4⟩ := a5 d.toNat (by omega); unfold stV; rcases (show what = 0 ∨ what = 1 ∨ what = 2 ∨ what = 3 by omega) with h9 | h9 | h9 | h9 <;> subst h9 <;> simp <;> assumption, rfl⟩)
set_option maxHeartbeats 4000000 in
set_option maxRecDepth 100000 in
theorem z_clash (l : Launch) {g : GT} {md : Nat → Nat} {h : Int} {Q : Nat → TS} (R T : TS) (hR : REL R T) (hn1 : 1 ≤ T 0 0) (hn8 : T 0 0 ≤ 8) (hc0 : 0 ≤ T 0 1) (hc6 : T 0 1 ≤ 6) (hdn : ∀ c : Nat, (c : Int) < T 0 1 → T (7 + 8 * c) 2 = 0 ∨ T (7 + 8 * c) 2 = 1) {c d : Int} (hc : rg c) (hd : rg d) : MI l yX4_clash cX4_clash 3 .boolean (rmN 2) g [.ref (md 0), .int (iZ (c)), .int (iZ (d))] (RW g md h Q 0 R) (fun z ws9 => (((0 ≤ c ∧ c < T 0 1) ∧ (0 ≤ d ∧ d < T 0 1)) ∧ z = bz (clP T c.toNat d.toNat) ∧ ws9 = RW g md 0 Q 0 R) ∨ (¬ ((0 ≤ c ∧ c < T 0 1) ∧ (0 ≤ d ∧ d < T 0 1)) ∧ ws9 = RW g md 1 Q 0 R)) := by
  refine MI.of (own := RX4) (by decide) rfl (Nat.le_of_ble_eq_true rfl) (fun x hx hE => ?_)
  have hk : 0 < 2 := by decide
  obtain ⟨hT, r00, r01, r02, r12, rcc⟩ := id hR.1
  refine V_lv (lv' := [(0, .ref (md 0)), (1, .int (iZ (c))), (2, .int (iZ (d)))]) rfl ?_
  refine V_aload_n hx dX4_clash_0 0 rfl ?_
  refine V_aload_n hx dX4_clash_1 0 rfl ?_
  refine V_iload_n hx dX4_clash_2 1 rfl ?_
  refine V_calli hx (z_isClerk l R T hR (by omega) (by omega) (d := c) (by first | assumption | exact hT _ _ | exact ⟨by omega, by omega⟩)) cw_X4_57 (RMn (by decide) (by decide)) rfl 0 RW_o rfl rfl (Nat.le_of_ble_eq_true rfl) dX4_clash_3 0 0 rfl rfl (fun z1 ws1 e1 => ?_)
  obtain ⟨rfl, rfl⟩ := e1
  refine V_ifb_eq hx dX4_clash_6 21 (by decide) (fun h6 => ?_) (fun h6 => ?_)
  · refine V_iconst hx dX4_clash_21 ?_
    refine pf_X4_19 hx 0 RW_o (Nat.le_of_ble_eq_true rfl) (RW g md 1 Q 0 R) RW_seth dX4_clash_22 ?_
    refine V_aload_n hx dX4_clash_25 0 rfl ?_
    refine gf_X4_19 hx 0 RW_o rfl dX4_clash_26 ?_
    refine V_if_ne hx dX4_clash_29 45 (by decide) ⟨by decide, by decide⟩ (fun h29 => ?_) (fun h29 => absurd h29 (by decide))
    refine V_iconst hx dX4_clash_45 ?_
    exact hE _ _ _ _ dX4_clash_46 rfl (Or.inr ⟨by omega, rfl⟩)
  · refine V_aload_n hx dX4_clash_9 0 rfl ?_
    refine V_iload_n hx dX4_clash_10 2 rfl ?_
    refine V_calli hx (z_isClerk l R T hR (by omega) (by omega) (d := d) (by first | assumption | exact hT _ _ | exact ⟨by omega, by omega⟩)) cw_X4_57 (RMn (by decide) (by decide)) rfl 0 RW_o rfl rfl (Nat.le_of_ble_eq_true rfl) dX4_clash_11 0 0 rfl rfl (fun z2 ws2 e2 => ?_)
    obtain ⟨rfl, rfl⟩ := e2
    refine V_ifb_eq hx dX4_clash_14 21 (by decide) (fun h14 => ?_) (fun h14 => ?_)
    · refine V_iconst hx dX4_clash_21 ?_
      refine pf_X4_19 hx 0 RW_o (Nat.le_of_ble_eq_true rfl) (RW g md 1 Q 0 R) RW_seth dX4_clash_22 ?_
      refine V_aload_n hx dX4_clash_25 0 rfl ?_
      refine gf_X4_19 hx 0 RW_o rfl dX4_clash_26 ?_
      refine V_if_ne hx dX4_clash_29 45 (by decide) ⟨by decide, by decide⟩ (fun h29_2 => ?_) (fun h29_2 => absurd h29_2 (by decide))
      refine V_iconst hx dX4_clash_45 ?_
      exact hE _ _ _ _ dX4_clash_46 rfl (Or.inr ⟨by omega, rfl⟩)
    · refine V_iconst hx dX4_clash_17 ?_
      refine V_goto hx dX4_clash_18 22 (by decide) ?_
      refine pf_X4_19 hx 0 RW_o (Nat.le_of_ble_eq_true rfl) (RW g md 0 Q 0 R) RW_seth dX4_clash_22 ?_
      refine V_aload_n hx dX4_clash_25 0 rfl ?_
      refine gf_X4_19 hx 0 RW_o rfl dX4_clash_26 ?_
      refine V_if_ne hx dX4_clash_29 45 (by decide) ⟨by decide, by decide⟩ (fun h29_3 => absurd h29_3 (by decide)) (fun h29_3 => ?_)
      refine V_aload_n hx dX4_clash_32 0 rfl ?_
      refine V_iload_n hx dX4_clash_33 1 rfl ?_
      refine V_iload_n hx dX4_clash_34 2 rfl ?_
      refine V_calli hx (z_clashes l R T hR (by omega) (by omega) (a := c) (b := d) (by omega) (by omega) (by omega) (by omega) (by omega) (hdn c.toNat (by omega)) (hdn d.toNat (by omega))) cw_X4_146 (RMn (by decide) (by decide)) rfl 0 RW_o rfl rfl (Nat.le_of_ble_eq_true rfl) dX4_clash_35 0 0 rfl rfl (fun z3 ws3 e3 => ?_)
      obtain ⟨rfl, rfl⟩ := e3
      refine V_ifb_eq hx dX4_clash_38 45 (by decide) (fun h38 => ?_) (fun h38 => ?_)
      · refine V_iconst hx dX4_clash_45 ?_
        exact hE _ _ _ _ dX4_clash_46 rfl (Or.inl ⟨⟨h6, h14⟩, (bz_f h38).symm, rfl⟩)
      · refine V_iconst hx dX4_clash_41 ?_
        refine V_goto hx dX4_clash_42 46 (by decide) ?_
        exact hE _ _ _ _ dX4_clash_46 rfl (Or.inl ⟨⟨h6, h14⟩, (bz_t h38).symm, rfl⟩)
set_option maxHeartbeats 4000000 in
set_option maxRecDepth 100000 in
theorem z_count (l : Launch) {g : GT} {md : Nat → Nat} {h : Int} {Q : Nat → TS} (R T : TS) (hR : REL R T) (hn1 : 1 ≤ T 0 0) (hn8 : T 0 0 ≤ 8) (hc0 : 0 ≤ T 0 1) (hc6 : T 0 1 ≤ 6) (hl0 : 0 ≤ T 0 2) (hl9 : T 0 2 < 2147483647) (hdn : ∀ c : Nat, (c : Int) < T 0 1 → T (7 + 8 * c) 2 = 0 ∨ T (7 + 8 * c) 2 = 1) {what : Int} (hwh : rg what) : MI l yX4_count cX4_count 2 .int (rmN 4) g [.ref (md 0), .int (iZ (what))] (RW g md h Q 0 R) (fun z ws9 => ((0 ≤ what ∧ what ≤ 6) ∧ z = cnV T what ∧ ws9 = RW g md 0 Q 0 R) ∨ (¬ (0 ≤ what ∧ what ≤ 6) ∧ ws9 = RW g md 1 Q 0 R)) := by
  refine MI.of (own := RX4) (by decide) rfl (Nat.le_of_ble_eq_true rfl) (fun x hx hE => ?_)
  have hk : 0 < 2 := by decide
  obtain ⟨hT, r00, r01, r02, r12, rcc⟩ := id hR.1
  refine V_lv (lv' := [(0, .ref (md 0)), (1, .int (iZ (what)))]) rfl ?_
  refine V_aload_n hx dX4_count_0 0 rfl ?_
  refine V_iconst hx dX4_count_1 ?_
  refine pf_X4_19 hx 0 RW_o (Nat.le_of_ble_eq_true rfl) (RW g md 0 Q 0 R) RW_seth dX4_count_2 ?_
  refine V_iload_n hx dX4_count_5 1 rfl ?_
  refine V_iconst hx dX4_count_6 ?_
  refine V_bipush hx dX4_count_7 rfl ?_
  refine V_callSi hx (z_isIn l (h := 0) (Q := Q) R (v := what) (lo := 0) (hi := 6) (by first | assumption | exact hT _ _ | exact ⟨by omega, by omega⟩) ⟨by decide, by decide⟩ ⟨by decide, by decide⟩) cw_X4_26 (RMn (by decide) (by decide)) rfl rfl (Nat.le_of_ble_eq_true rfl) dX4_count_9 0 0 rfl rfl (fun z1 ws1 e1 => ?_)
  obtain ⟨rfl, rfl⟩ := e1
  refine V_ifb_eq hx dX4_count_12 26 (by decide) (fun h12 => ?_) (fun h12 => ?_)
  · refine V_aload_n hx dX4_count_26 0 rfl ?_
    refine V_iconst hx dX4_count_27 ?_
    refine V_calli hx (z_no l R (n := 1)) cw_X4_33 (RMn (by decide) (by decide)) rfl 0 RW_o rfl rfl (Nat.le_of_ble_eq_true rfl) dX4_count_28 0 0 rfl rfl (fun z2 ws2 e2 => ?_)
    obtain ⟨rfl, rfl⟩ := e2
    exact hE _ _ _ _ dX4_count_31 rfl (Or.inr ⟨by omega, rfl⟩)
  · refine V_aload_n hx dX4_count_15 0 rfl ?_
    refine gf_X4_10 hx 0 RW_o rfl dX4_count_16 ?_
    refine V_iload_n hx dX4_count_19 1 rfl ?_
    refine V_calli hx (y_counted l hk R T hR (by omega) (by omega) (by omega) (by omega) hdn (what := what) (by omega) (by first | assumption | exact hT _ _ | exact ⟨by omega, by omega⟩)) cw_X4_150 (RMn (by decide) (by decide)) rfl (iy 0 0) (RW_s hk) rfl rfl (Nat.le_of_ble_eq_true rfl) dX4_count_20 0 0 rfl rfl (fun z3 ws3 e3 => ?_)
    obtain ⟨rfl, rfl⟩ := e3
    refine V_goto hx dX4_count_23 31 (by decide) ?_
    exact hE _ _ _ _ dX4_count_31 rfl (Or.inl ⟨h12, rfl, rfl⟩)
set_option maxHeartbeats 4000000 in
set_option maxRecDepth 100000 in
theorem z_until (l : Launch) {g : GT} {md : Nat → Nat} {h : Int} {Q : Nat → TS} (R T : TS) (hR : REL R T) (hn1 : 1 ≤ T 0 0) (hn8 : T 0 0 ≤ 8) (hc0 : 0 ≤ T 0 1) (hc6 : T 0 1 ≤ 6) (hl0 : 0 ≤ T 0 2) (hl9 : T 0 2 < 2147483647) (hQ1 : RG (Q 1)) (hs8 : ∀ c : Nat, (c : Int) < T 0 1 → T (7 + 8 * c) 0 ≤ 8) (hG : ∀ j : Nat, j ≤ 201 → GRok (grs T j).1 ∧ 0 ≤ (grs T j).1 0 2 ∧ ∀ c : Nat, (c : Int) < (grs T j).1 0 1 → MOK (gr (grs T j).1 c).1 (7 + 8 * c)) : MI l yX4_until cX4_until 2 .int (rmN 6) g [.ref (md 0)] (RW g md h Q 0 R) (fun z ws9 => ((∃ r : Nat, r ≤ 200 ∧ (∀ j, j < r → anP (grs T j).1) ∧ ¬ anP (grs T r).1 ∧ z = r) ∨ ((∀ j, j ≤ 200 → anP (grs T j).1) ∧ z = -1)) ∧ ∃ Q9, RG (Q9 1) ∧ ws9 = RW g md 0 Q9 0 R) := by
  refine MI.of (own := RX4) (by decide) rfl (Nat.le_of_ble_eq_true rfl) (fun x hx hE => ?_)
  have hk : 0 < 2 := by decide
  obtain ⟨hT, r00, r01, r02, r12, rcc⟩ := id hR.1
  refine V_lv (lv' := [(0, .ref (md 0))]) rfl ?_
  refine V_aload_n hx dX4_until_0 0 rfl ?_
  refine V_iconst hx dX4_until_1 ?_
  refine pf_X4_19 hx 0 RW_o (Nat.le_of_ble_eq_true rfl) (RW g md 0 Q 0 R) RW_seth dX4_until_2 ?_
  obtain ⟨Q2, hQ2⟩ : ∃ Q2, Q2 = ups Q 0 R := ⟨_, rfl⟩
  have hQ20 : Q2 0 = R := by rw [hQ2, ups_at]
  have hQ21 : RG (Q2 1) := by rw [hQ2, ups_ne _ (by decide)]; exact hQ1
  have hk : 1 < 2 := by decide
  have hk' : 0 < 2 := by decide
  have hne : (0 : Nat) ≠ 1 := by decide
  have hB : REL (xbe (Q2 1) (Q2 0)) T := rz_be hQ21 (by rw [hQ20]; exact hR) (by omega) hs8
  refine V_ws (ws' := RW g md 0 Q2 1 (Q2 1)) (by rw [hQ2, ups_ne _ (by decide)]; exact RW_01) ?_
  refine V_aload_n hx dX4_until_5 0 rfl ?_
  refine gf_X4_16 hx 0 RW_o rfl dX4_until_6 ?_
  refine V_aload_n hx dX4_until_9 0 rfl ?_
  refine gf_X4_10 hx 0 RW_o rfl dX4_until_10 ?_
  refine V_callv hx (y_become l hk hk' hne (Q := Q2) (Q2 1)) cw_X4_153 (RMn (by decide) (by decide)) rfl (iy 1 0) (RW_s hk) rfl rfl (Nat.le_of_ble_eq_true rfl) dX4_until_13 0 0 rfl rfl (fun ws1 e1 => ?_)
  subst e1
  refine V_iconst hx dX4_until_16 ?_
  refine V_istore_n hx dX4_until_17 [(1, .int (iZ (0))), (0, .ref (md 0))] (by decide) rfl ?_
  have hL18 : ∀ (n : Nat) (i : Nat) (R1 : TS), 201 < i + n → i ≤ 201 → (REL R1 (grs T i).1) → (∀ j, j < i → anP (grs T j).1) → V x 0 0 (RW g md 0 Q2 1 R1) 18 [(1, .int (iZ ((i : Int)))), (0, .ref (md 0))] [] := by
    intro n
    induction n with
    | zero =>
      intro i R1 g1 g2 hR1 g3
      exact absurd g1 (by omega)
    | succ n ih =>
      intro i R1 g1 g2 hR1 g3
      refine V_iload_n hx dX4_until_18 0 rfl ?_
      refine V_sipush hx dX4_until_19 rfl ?_
      refine V_icmp_gt hx dX4_until_22 51 (by decide) ⟨by omega, by omega⟩ ⟨by decide, by decide⟩ (fun h22 => ?_) (fun h22 => ?_)
      · refine V_iconst hx dX4_until_51 ?_
        exact hE _ _ _ _ dX4_until_52 rfl ⟨Or.inr ⟨fun j hj => g3 j (by omega), rfl⟩, ⟨ups Q2 1 R1, by rw [ups_at]; exact hR1.1.1, RW_1z hQ20⟩⟩
      · obtain ⟨hGi, hli, hGmi⟩ := hG i (by omega)
        have hzi : ((((grs T i).1 0 2).toNat : Nat) : Int) = (grs T i).1 0 2 := Int.toNat_of_nonneg hli
        obtain ⟨-, ⟨hci0, hci6⟩, -, -⟩ := id hGi
        refine V_aload_n hx dX4_until_25 1 rfl ?_
        refine gf_X4_16 hx 0 RW_o rfl dX4_until_26 ?_
        refine V_calli hx (y_areDone l hk R1 ((grs T i).1) hR1 (by omega) (by omega)) cw_X4_157 (RMn (by decide) (by decide)) rfl (iy 1 0) (RW_s hk) rfl rfl (Nat.le_of_ble_eq_true rfl) dX4_until_29 0 0 rfl rfl (fun z2 ws2 e2 => ?_)
        obtain ⟨rfl, rfl⟩ := e2
        refine V_ifb_eq hx dX4_until_32 37 (by decide) (fun h32 => ?_) (fun h32 => ?_)
        · refine V_aload_n hx dX4_until_37 1 rfl ?_
          refine gf_X4_16 hx 0 RW_o rfl dX4_until_38 ?_
          refine V_calli hx (y_round l hk R1 ((grs T i).1) hR1 hzi hGi hGmi) cw_X4_87 (RMn (by decide) (by decide)) rfl (iy 1 0) (RW_s hk) rfl rfl (Nat.le_of_ble_eq_true rfl) dX4_until_41 0 0 rfl rfl (fun z3 ws3 e3 => ?_)
          obtain ⟨rfl, R3, hR3, rfl⟩ := e3
          refine V_pop hx dX4_until_44 rfl ?_
          refine V_iincN hx dX4_until_45 0 rfl [(1, .int (iZ (((i + 1 : Nat) : Int)))), (0, .ref (md 0))] (by decide) rfl ?_
          refine V_goto hx dX4_until_48 18 (by decide) ?_
          exact V_sub [0, 1] rfl (ih (i + 1) _ (by omega) (by omega) hR3 (lt_s g3 (Classical.byContradiction h32)))
        · refine V_iload_n hx dX4_until_35 0 rfl ?_
          exact hE _ _ _ _ dX4_until_36 rfl ⟨Or.inl ⟨i, by omega, g3, h32, rfl⟩, ⟨ups Q2 1 R1, by rw [ups_at]; exact hR1.1.1, RW_1z hQ20⟩⟩
  refine V_ws (ws' := _) rfl ?_
  exact V_sub [0, 1] rfl (hL18 (201 + 1) 0 _ (by omega) (by omega) hB (fun d h9 => absurd h9 (Nat.not_lt_zero d)))
