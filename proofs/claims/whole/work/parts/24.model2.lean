/-! the reference: its public methods -/
set_option maxHeartbeats 4000000 in
set_option maxRecDepth 100000 in
theorem z_closingTold (l : Launch) {g : GT} {md : Nat → Nat} {h : Int} {Q : Nat → TS} (R T : TS) (hR : REL R T) {b : Int} (hb0 : 0 ≤ b) (hb9 : b < 10) (hb1 : b < T 0 2) (hl9 : T 0 2 < 2147483648) {what : Int} (hw0 : 0 ≤ what) (hw9 : what < 2147483648) : MI l yX4_closingTold cX4_closingTold 4 .int (rmN 0) g [.ref (md 0), .int (iZ (b)), .int (iZ (what))] (RW g md h Q 0 R) (fun z ws9 => z = cfV T b what ∧ ws9 = RW g md h Q 0 R) := by
  refine MI.of (own := RX4) (by decide) rfl (Nat.le_of_ble_eq_true rfl) (fun x hx hE => ?_)
  have hk : 0 < 2 := by decide
  obtain ⟨hT, r00, r01, r02, r12, rcc⟩ := id hR.1
  obtain ⟨g1, g2, g3⟩ := hR.2 b.toNat (by omega) (by omega)
  rw [show ((T 0 2).toNat - b.toNat) % 10 = ((R 0 2 - b) % 10).toNat by omega] at g1 g2 g3
  refine V_lv (lv' := [(0, .ref (md 0)), (1, .int (iZ (b))), (2, .int (iZ (what)))]) rfl ?_
  refine V_aload_n hx dX4_closingTold_0 0 rfl ?_
  refine gf_X4_10 hx 0 RW_o rfl dX4_closingTold_1 ?_
  refine gf_X4_126 hx (iy 0 0) (RW_s hk) rfl dX4_closingTold_4 ?_
  refine V_iload_n hx dX4_closingTold_7 1 rfl ?_
  refine V_isub hx dX4_closingTold_8 ?_
  refine V_bipush hx dX4_closingTold_9 rfl ?_
  refine V_irem hx ⟨by omega, by omega⟩ ⟨by decide, by decide⟩ dX4_closingTold_11 ?_
  refine V_istore_n hx dX4_closingTold_12 [(3, .int (iZ (((R 0 2) - b) % 10))), (0, .ref (md 0)), (1, .int (iZ (b))), (2, .int (iZ (what)))] (by decide) rfl ?_
  refine V_iload_n hx dX4_closingTold_13 3 rfl ?_
  refine V_if_ne hx dX4_closingTold_14 29 (by decide) (by first | assumption | exact hT _ _ | exact ⟨by omega, by omega⟩) (fun h14 => ?_) (fun h14 => ?_)
  · refine V_iload_n hx dX4_closingTold_29 3 rfl ?_
    refine V_iconst hx dX4_closingTold_30 ?_
    refine V_icmp_ne hx dX4_closingTold_31 46 (by decide) (by first | assumption | exact hT _ _ | exact ⟨by omega, by omega⟩) ⟨by decide, by decide⟩ (fun h31 => ?_) (fun h31 => ?_)
    · refine V_aload_n hx dX4_closingTold_46 1 rfl ?_
      refine gf_X4_10 hx 0 RW_o rfl dX4_closingTold_47 ?_
      refine gf_X4_135 hx (iy 0 0) (RW_s hk) rfl dX4_closingTold_50 ?_
      refine V_iload_n hx dX4_closingTold_53 0 rfl ?_
      refine V_iald hx (by omega) (by omega) (by decide) (iy 0 13) (RW_a hk 13 (by decide) (n := 10) rfl) (v := R 13 ((((R 0 2) - b) % 10).toNat)) rfl dX4_closingTold_54 ?_
      exact hE _ _ _ _ dX4_closingTold_55 rfl ⟨by unfold cfV; first | (rw [if_pos (by omega)]; exact g1) | (rw [if_neg (by omega), if_pos (by omega)]; exact g2) | (rw [if_neg (by omega), if_neg (by omega)]; exact g3), rfl⟩
    · refine V_aload_n hx dX4_closingTold_34 1 rfl ?_
      refine gf_X4_10 hx 0 RW_o rfl dX4_closingTold_35 ?_
      refine gf_X4_132 hx (iy 0 0) (RW_s hk) rfl dX4_closingTold_38 ?_
      refine V_iload_n hx dX4_closingTold_41 0 rfl ?_
      refine V_iald hx (by omega) (by omega) (by decide) (iy 0 12) (RW_a hk 12 (by decide) (n := 10) rfl) (v := R 12 ((((R 0 2) - b) % 10).toNat)) rfl dX4_closingTold_42 ?_
      refine V_goto hx dX4_closingTold_43 55 (by decide) ?_
      exact hE _ _ _ _ dX4_closingTold_55 rfl ⟨by unfold cfV; first | (rw [if_pos (by omega)]; exact g1) | (rw [if_neg (by omega), if_pos (by omega)]; exact g2) | (rw [if_neg (by omega), if_neg (by omega)]; exact g3), rfl⟩
  · refine V_aload_n hx dX4_closingTold_17 1 rfl ?_
    refine gf_X4_10 hx 0 RW_o rfl dX4_closingTold_18 ?_
    refine gf_X4_129 hx (iy 0 0) (RW_s hk) rfl dX4_closingTold_21 ?_
    refine V_iload_n hx dX4_closingTold_24 0 rfl ?_
    refine V_iald hx (by omega) (by omega) (by decide) (iy 0 11) (RW_a hk 11 (by decide) (n := 10) rfl) (v := R 11 ((((R 0 2) - b) % 10).toNat)) rfl dX4_closingTold_25 ?_
    refine V_goto hx dX4_closingTold_26 55 (by decide) ?_
    exact hE _ _ _ _ dX4_closingTold_55 rfl ⟨by unfold cfV; first | (rw [if_pos (by omega)]; exact g1) | (rw [if_neg (by omega), if_pos (by omega)]; exact g2) | (rw [if_neg (by omega), if_neg (by omega)]; exact g3), rfl⟩
set_option maxHeartbeats 4000000 in
set_option maxRecDepth 100000 in
theorem z_clashes (l : Launch) {g : GT} {md : Nat → Nat} {h : Int} {Q : Nat → TS} (R T : TS) {zz : Nat} (hR : RLz R T zz) (hn1 : 1 ≤ T 0 0) (hn8 : T 0 0 ≤ 8) {a b : Int} (ha0 : 0 ≤ a) (ha1 : a < T 0 1) (hb0 : 0 ≤ b) (hb1 : b < T 0 1) (hc6 : T 0 1 ≤ 6) (hda : T (7 + 8 * a.toNat) 2 = 0 ∨ T (7 + 8 * a.toNat) 2 = 1) (hdb : T (7 + 8 * b.toNat) 2 = 0 ∨ T (7 + 8 * b.toNat) 2 = 1) : MI l yX4_clashes cX4_clashes 4 .boolean (rmN 0) g [.ref (md 0), .int (iZ (a)), .int (iZ (b))] (RW g md h Q 0 R) (fun z ws9 => z = bz (clP T a.toNat b.toNat) ∧ ws9 = RW g md h Q 0 R) := by
  refine MI.of (own := RX4) (by decide) rfl (Nat.le_of_ble_eq_true rfl) (fun x hx hE => ?_)
  have hk : 0 < 2 := by decide
  obtain ⟨hT, r00, r01, r02, r12, rcc⟩ := id hR.1
  have hnd : ((nd T : Nat) : Int) = T 0 0 := Int.toNat_of_nonneg (by omega)
  obtain ⟨-, -, a3, -, -, a6⟩ := rcc a.toNat (by omega)
  obtain ⟨-, -, b3, -, -, b6⟩ := rcc b.toNat (by omega)
  refine V_lv (lv' := [(0, .ref (md 0)), (1, .int (iZ (a))), (2, .int (iZ (b)))]) rfl ?_
  refine V_iload_n hx dX4_clashes_0 1 rfl ?_
  refine V_iload_n hx dX4_clashes_1 2 rfl ?_
  refine V_icmp_eq hx dX4_clashes_2 31 (by decide) (by first | assumption | exact hT _ _ | exact ⟨by omega, by omega⟩) (by first | assumption | exact hT _ _ | exact ⟨by omega, by omega⟩) (fun h2 => ?_) (fun h2 => ?_)
  · refine V_iconst hx dX4_clashes_31 ?_
    exact hE _ _ _ _ dX4_clashes_32 rfl ⟨(bz_f (fun h9 => by obtain ⟨h1, h2, h3, -⟩ := h9; omega)).symm, rfl⟩
  · refine V_aload_n hx dX4_clashes_5 0 rfl ?_
    refine gf_X4_10 hx 0 RW_o rfl dX4_clashes_6 ?_
    refine gf_X4_60 hx (iy 0 0) (RW_s hk) rfl dX4_clashes_9 ?_
    refine V_iload_n hx dX4_clashes_12 1 rfl ?_
    refine V_iald hx (by omega) (by omega) (by decide) (iy 0 6) (RW_a hk 6 (by decide) (n := 6) rfl) (v := R 6 a.toNat) rfl dX4_clashes_13 ?_
    refine V_iconst hx dX4_clashes_14 ?_
    refine V_icmp_eq hx dX4_clashes_15 31 (by decide) (by first | assumption | exact hT _ _ | exact ⟨by omega, by omega⟩) ⟨by decide, by decide⟩ (fun h15 => ?_) (fun h15 => ?_)
    · refine V_iconst hx dX4_clashes_31 ?_
      exact hE _ _ _ _ dX4_clashes_32 rfl ⟨(bz_f (fun h9 => by obtain ⟨h1, h2, h3, -⟩ := h9; omega)).symm, rfl⟩
    · refine V_aload_n hx dX4_clashes_18 0 rfl ?_
      refine gf_X4_10 hx 0 RW_o rfl dX4_clashes_19 ?_
      refine gf_X4_60 hx (iy 0 0) (RW_s hk) rfl dX4_clashes_22 ?_
      refine V_iload_n hx dX4_clashes_25 2 rfl ?_
      refine V_iald hx (by omega) (by omega) (by decide) (iy 0 6) (RW_a hk 6 (by decide) (n := 6) rfl) (v := R 6 b.toNat) rfl dX4_clashes_26 ?_
      refine V_iconst hx dX4_clashes_27 ?_
      refine V_icmp_ne hx dX4_clashes_28 33 (by decide) (by first | assumption | exact hT _ _ | exact ⟨by omega, by omega⟩) ⟨by decide, by decide⟩ (fun h28 => ?_) (fun h28 => ?_)
      · refine V_iconst hx dX4_clashes_33 ?_
        refine V_istore_n hx dX4_clashes_34 [(3, .int (iZ (0))), (0, .ref (md 0)), (1, .int (iZ (a))), (2, .int (iZ (b)))] (by decide) rfl ?_
        have hL35 : ∀ (n : Nat) (i : Nat), nd T < i + n → i ≤ nd T → (∀ d, d < i → ¬ (T (7 + 8 * a.toNat + 7) d ≠ -1 ∧ T (7 + 8 * b.toNat + 5) d ≠ -1)) → V x 0 0 (RW g md h Q 0 R) 35 [(3, .int (iZ ((i : Int)))), (0, .ref (md 0)), (1, .int (iZ (a))), (2, .int (iZ (b)))] [] := by
          intro n
          induction n with
          | zero =>
            intro i g1 g2 g3
            exact absurd g1 (by omega)
          | succ n ih =>
            intro i g1 g2 g3
            refine V_iload_n hx dX4_clashes_35 0 rfl ?_
            refine V_aload_n hx dX4_clashes_36 1 rfl ?_
            refine gf_X4_10 hx 0 RW_o rfl dX4_clashes_37 ?_
            refine gf_X4_23 hx (iy 0 0) (RW_s hk) rfl dX4_clashes_40 ?_
            refine V_icmp_ge hx dX4_clashes_43 90 (by decide) ⟨by omega, by omega⟩ (by first | assumption | exact hT _ _ | exact ⟨by omega, by omega⟩) (fun h43 => ?_) (fun h43 => ?_)
            · refine V_iconst hx dX4_clashes_90 ?_
              exact hE _ _ _ _ dX4_clashes_91 rfl ⟨(bz_f (fun h9 => by obtain ⟨-, -, -, d, h1, h2, h3⟩ := h9; exact g3 d (by omega) ⟨h2, h3⟩)).symm, rfl⟩
            · obtain ⟨-, -, e10⟩ := a6 i (by omega)
              obtain ⟨e8, -, -⟩ := b6 i (by omega)
              refine V_aload_n hx dX4_clashes_46 1 rfl ?_
              refine gf_X4_10 hx 0 RW_o rfl dX4_clashes_47 ?_
              refine gf_X4_96 hx (iy 0 0) (RW_s hk) rfl dX4_clashes_50 ?_
              refine V_bipush hx dX4_clashes_53 rfl ?_
              refine V_iload_n hx dX4_clashes_55 2 rfl ?_
              refine V_imul hx dX4_clashes_56 ?_
              refine V_iload_n hx dX4_clashes_57 0 rfl ?_
              refine V_iadd hx dX4_clashes_58 ?_
              refine V_iald hx (by omega) (by omega) (by decide) (iy 0 10) (RW_a hk 10 (by decide) (n := 48) rfl) (v := R 10 (8 * a.toNat + i)) (by show iZ _ = iZ _; rw [show Int.toNat ((8 * a) + (i : Int)) = 8 * a.toNat + i by omega] <;> rfl) dX4_clashes_59 ?_
              refine V_iconst hx dX4_clashes_60 ?_
              refine V_icmp_eq hx dX4_clashes_61 84 (by decide) (by first | assumption | exact hT _ _ | exact ⟨by omega, by omega⟩) ⟨by decide, by decide⟩ (fun h61 => ?_) (fun h61 => ?_)
              · refine V_iincN hx dX4_clashes_84 0 rfl [(3, .int (iZ (((i + 1 : Nat) : Int)))), (0, .ref (md 0)), (1, .int (iZ (a))), (2, .int (iZ (b)))] (by decide) rfl ?_
                refine V_goto hx dX4_clashes_87 35 (by decide) ?_
                exact V_sub [0, 1, 2, 3] rfl (ih (i + 1) (by omega) (by omega) (lt_s g3 (by omega)))
              · refine V_aload_n hx dX4_clashes_64 1 rfl ?_
                refine gf_X4_10 hx 0 RW_o rfl dX4_clashes_65 ?_
                refine gf_X4_93 hx (iy 0 0) (RW_s hk) rfl dX4_clashes_68 ?_
                refine V_bipush hx dX4_clashes_71 rfl ?_
                refine V_iload_n hx dX4_clashes_73 3 rfl ?_
                refine V_imul hx dX4_clashes_74 ?_
                refine V_iload_n hx dX4_clashes_75 0 rfl ?_
                refine V_iadd hx dX4_clashes_76 ?_
                refine V_iald hx (by omega) (by omega) (by decide) (iy 0 8) (RW_a hk 8 (by decide) (n := 48) rfl) (v := R 8 (8 * b.toNat + i)) (by show iZ _ = iZ _; rw [show Int.toNat ((8 * b) + (i : Int)) = 8 * b.toNat + i by omega] <;> rfl) dX4_clashes_77 ?_
                refine V_iconst hx dX4_clashes_78 ?_
                refine V_icmp_eq hx dX4_clashes_79 84 (by decide) (by first | assumption | exact hT _ _ | exact ⟨by omega, by omega⟩) ⟨by decide, by decide⟩ (fun h79 => ?_) (fun h79 => ?_)
                · refine V_iincN hx dX4_clashes_84 0 rfl [(3, .int (iZ (((i + 1 : Nat) : Int)))), (0, .ref (md 0)), (1, .int (iZ (a))), (2, .int (iZ (b)))] (by decide) rfl ?_
                  refine V_goto hx dX4_clashes_87 35 (by decide) ?_
                  exact V_sub [0, 1, 2, 3] rfl (ih (i + 1) (by omega) (by omega) (lt_s g3 (by omega)))
                · refine V_iconst hx dX4_clashes_82 ?_
                  exact hE _ _ _ _ dX4_clashes_83 rfl ⟨(bz_t ⟨by omega, by omega, by omega, i, by omega, by omega, by omega⟩).symm, rfl⟩
        refine V_ws (ws' := RW g md h Q 0 R) rfl ?_
        exact V_sub [0, 1, 2, 3] rfl (hL35 (nd T + 1) 0 (by omega) (by omega) (fun d h9 => absurd h9 (Nat.not_lt_zero d)))
      · refine V_iconst hx dX4_clashes_31 ?_
        exact hE _ _ _ _ dX4_clashes_32 rfl ⟨(bz_f (fun h9 => by obtain ⟨h1, h2, h3, -⟩ := h9; omega)).symm, rfl⟩
set_option maxHeartbeats 4000000 in
set_option maxRecDepth 100000 in
theorem z_clashesOf (l : Launch) {g : GT} {md : Nat → Nat} {h : Int} {Q : Nat → TS} (R T : TS) {zz : Nat} (hR : RLz R T zz) (hn1 : 1 ≤ T 0 0) (hn8 : T 0 0 ≤ 8) (hc0 : 0 ≤ T 0 1) (hc6 : T 0 1 ≤ 6) (hdn : ∀ c : Nat, (c : Int) < T 0 1 → T (7 + 8 * c) 2 = 0 ∨ T (7 + 8 * c) 2 = 1) {a : Int} (ha0 : 0 ≤ a) (ha1 : a < T 0 1) : MI l yX4_clashesOf cX4_clashesOf 4 .int (rmN 1) g [.ref (md 0), .int (iZ (a))] (RW g md h Q 0 R) (fun z ws9 => z = sm (nc T) (clF T a.toNat) ∧ ws9 = RW g md h Q 0 R) := by
  refine MI.of (own := RX4) (by decide) rfl (Nat.le_of_ble_eq_true rfl) (fun x hx hE => ?_)
  have hk : 0 < 2 := by decide
  obtain ⟨hT, r00, r01, r02, r12, rcc⟩ := id hR.1
  have hnc : ((nc T : Nat) : Int) = T 0 1 := Int.toNat_of_nonneg (by omega)
  refine V_lv (lv' := [(0, .ref (md 0)), (1, .int (iZ (a)))]) rfl ?_
  refine V_iconst hx dX4_clashesOf_0 ?_
  refine V_istore_n hx dX4_clashesOf_1 [(2, .int (iZ (0))), (0, .ref (md 0)), (1, .int (iZ (a)))] (by decide) rfl ?_
  refine V_iconst hx dX4_clashesOf_2 ?_
  refine V_istore_n hx dX4_clashesOf_3 [(3, .int (iZ (0))), (2, .int (iZ (0))), (0, .ref (md 0)), (1, .int (iZ (a)))] (by decide) rfl ?_
  have hL4 : ∀ (n : Nat) (i : Nat), nc T < i + n → i ≤ nc T → V x 0 0 (RW g md h Q 0 R) 4 [(3, .int (iZ ((i : Int)))), (2, .int (iZ (sm i (clF T a.toNat)))), (0, .ref (md 0)), (1, .int (iZ (a)))] [] := by
    intro n
    induction n with
    | zero =>
      intro i g1 g2 
      exact absurd g1 (by omega)
    | succ n ih =>
      intro i g1 g2 
      refine V_iload_n hx dX4_clashesOf_4 0 rfl ?_
      refine V_aload_n hx dX4_clashesOf_5 2 rfl ?_
      refine gf_X4_10 hx 0 RW_o rfl dX4_clashesOf_6 ?_
      refine gf_X4_30 hx (iy 0 0) (RW_s hk) rfl dX4_clashesOf_9 ?_
      refine V_icmp_ge hx dX4_clashesOf_12 38 (by decide) ⟨by omega, by omega⟩ (by first | assumption | exact hT _ _ | exact ⟨by omega, by omega⟩) (fun h12 => ?_) (fun h12 => ?_)
      · refine V_iload_n hx dX4_clashesOf_38 1 rfl ?_
        exact hE _ _ _ _ dX4_clashesOf_39 rfl ⟨by rw [show i = nc T by omega], rfl⟩
      · refine V_iload_n hx dX4_clashesOf_15 1 rfl ?_
        refine V_aload_n hx dX4_clashesOf_16 2 rfl ?_
        refine V_iload_n hx dX4_clashesOf_17 3 rfl ?_
        refine V_iload_n hx dX4_clashesOf_18 0 rfl ?_
        refine V_calli hx (z_clashes l R T hR (by omega) (by omega) (a := a) (b := (i : Int)) (by omega) (by omega) (by omega) (by omega) (by omega) (hdn a.toNat (by omega)) (hdn i (by omega))) cw_X4_146 (RMn (by decide) (by decide)) rfl 0 RW_o rfl rfl (Nat.le_of_ble_eq_true rfl) dX4_clashesOf_19 0 0 rfl rfl (fun z1 ws1 e1 => ?_)
        obtain ⟨rfl, rfl⟩ := e1
        refine V_top (b := bz (clP T a.toNat i)) rfl ?_
        refine V_ifb_eq hx dX4_clashesOf_22 29 (by decide) (fun h22 => ?_) (fun h22 => ?_)
        · refine V_iconst hx dX4_clashesOf_29 ?_
          refine V_iadd hx dX4_clashesOf_30 ?_
          refine V_istore_n hx dX4_clashesOf_31 [(2, .int (iZ ((sm i (clF T a.toNat)) + 0))), (3, .int (iZ ((i : Int)))), (0, .ref (md 0)), (1, .int (iZ (a)))] (by decide) rfl ?_
          refine V_iincN hx dX4_clashesOf_32 1 rfl [(3, .int (iZ (((i + 1 : Nat) : Int)))), (2, .int (iZ ((sm i (clF T a.toNat)) + 0))), (0, .ref (md 0)), (1, .int (iZ (a)))] (by decide) rfl ?_
          refine V_goto hx dX4_clashesOf_35 4 (by decide) ?_
          refine V_sub (lv' := [(3, .int (iZ (((i + 1 : Nat) : Int)))), (2, .int (iZ ((sm i (clF T a.toNat)) + 0))), (0, .ref (md 0)), (1, .int (iZ (a)))]) [0, 1, 2, 3] rfl ?_
          refine V_lv (lv' := [(3, .int (iZ ((i + 1 : Nat) : Int))), (2, .int (iZ (sm (i + 1) (clF T a.toNat)))), (0, .ref (md 0)), (1, .int (iZ a))]) (by simp only [sm, clF, bz_f h22]) ?_
          exact ih (i + 1) (by omega) (by omega)
        · refine V_iconst hx dX4_clashesOf_25 ?_
          refine V_goto hx dX4_clashesOf_26 30 (by decide) ?_
          refine V_iadd hx dX4_clashesOf_30 ?_
          refine V_istore_n hx dX4_clashesOf_31 [(2, .int (iZ ((sm i (clF T a.toNat)) + 1))), (3, .int (iZ ((i : Int)))), (0, .ref (md 0)), (1, .int (iZ (a)))] (by decide) rfl ?_
          refine V_iincN hx dX4_clashesOf_32 1 rfl [(3, .int (iZ (((i + 1 : Nat) : Int)))), (2, .int (iZ ((sm i (clF T a.toNat)) + 1))), (0, .ref (md 0)), (1, .int (iZ (a)))] (by decide) rfl ?_
          refine V_goto hx dX4_clashesOf_35 4 (by decide) ?_
          refine V_sub (lv' := [(3, .int (iZ (((i + 1 : Nat) : Int)))), (2, .int (iZ ((sm i (clF T a.toNat)) + 1))), (0, .ref (md 0)), (1, .int (iZ (a)))]) [0, 1, 2, 3] rfl ?_
          refine V_lv (lv' := [(3, .int (iZ ((i + 1 : Nat) : Int))), (2, .int (iZ (sm (i + 1) (clF T a.toNat)))), (0, .ref (md 0)), (1, .int (iZ a))]) (by simp only [sm, clF, bz_t h22]) ?_
          exact ih (i + 1) (by omega) (by omega)
  refine V_ws (ws' := RW g md h Q 0 R) rfl ?_
  exact V_sub [0, 1, 2, 3] rfl (hL4 (nc T + 1) 0 (by omega) (by omega))
set_option maxHeartbeats 4000000 in
set_option maxRecDepth 100000 in
theorem z_till (l : Launch) {g : GT} {md : Nat → Nat} {h : Int} {Q : Nat → TS} (R T : TS) (hR : REL R T) {a : Int} (ha : rg a) : MI l yX4_till cX4_till 3 .int (rmN 1) g [.ref (md 0), .int (iZ (a))] (RW g md h Q 0 R) (fun z ws9 => ((1 ≤ a ∧ a ≤ 8) ∧ z = T 0 0 ∧ ∃ R9, REL R9 (bgT T a 8) ∧ ws9 = RW g md 0 Q 0 R9) ∨ (¬ (1 ≤ a ∧ a ≤ 8) ∧ ws9 = RW g md 1 Q 0 R)) := by
  refine MI.of (own := RX4) (by decide) rfl (Nat.le_of_ble_eq_true rfl) (fun x hx hE => ?_)
  have hk : 0 < 2 := by decide
  obtain ⟨hT, r00, r01, r02, r12, rcc⟩ := id hR.1
  refine V_lv (lv' := [(0, .ref (md 0)), (1, .int (iZ (a)))]) rfl ?_
  refine V_aload_n hx dX4_till_0 0 rfl ?_
  refine V_iconst hx dX4_till_1 ?_
  refine pf_X4_19 hx 0 RW_o (Nat.le_of_ble_eq_true rfl) (RW g md 0 Q 0 R) RW_seth dX4_till_2 ?_
  refine V_iload_n hx dX4_till_5 1 rfl ?_
  refine V_iconst hx dX4_till_6 ?_
  refine V_bipush hx dX4_till_7 rfl ?_
  refine V_callSi hx (z_isIn l (h := 0) (Q := Q) R (v := a) (lo := 1) (hi := 8) (by first | assumption | exact hT _ _ | exact ⟨by omega, by omega⟩) ⟨by decide, by decide⟩ ⟨by decide, by decide⟩) cw_X4_26 (RMn (by decide) (by decide)) rfl rfl (Nat.le_of_ble_eq_true rfl) dX4_till_9 0 0 rfl rfl (fun z1 ws1 e1 => ?_)
  obtain ⟨rfl, rfl⟩ := e1
  refine V_ifb_ne hx dX4_till_12 21 (by decide) (fun h12 => ?_) (fun h12 => ?_)
  · refine V_aload_n hx dX4_till_21 0 rfl ?_
    refine gf_X4_10 hx 0 RW_o rfl dX4_till_22 ?_
    refine gf_X4_23 hx (iy 0 0) (RW_s hk) rfl dX4_till_25 ?_
    refine V_istore_n hx dX4_till_28 [(2, .int (iZ (R 0 0))), (0, .ref (md 0)), (1, .int (iZ (a)))] (by decide) rfl ?_
    refine V_aload_n hx dX4_till_29 1 rfl ?_
    refine gf_X4_10 hx 0 RW_o rfl dX4_till_30 ?_
    refine V_iload_n hx dX4_till_33 2 rfl ?_
    refine V_callv hx (y_begin l hk R (m := a)) cw_X4_37 (RMn (by decide) (by decide)) rfl (iy 0 0) (RW_s hk) rfl rfl (Nat.le_of_ble_eq_true rfl) dX4_till_34 0 0 rfl rfl (fun ws2 e2 => ?_)
    subst e2
    refine V_iload_n hx dX4_till_37 0 rfl ?_
    exact hE _ _ _ _ dX4_till_38 rfl (Or.inl ⟨h12, r00, _, rel_begin hT ha, rfl⟩)
  · refine V_aload_n hx dX4_till_15 0 rfl ?_
    refine V_iconst hx dX4_till_16 ?_
    refine V_calli hx (z_no l R (n := 1)) cw_X4_33 (RMn (by decide) (by decide)) rfl 0 RW_o rfl rfl (Nat.le_of_ble_eq_true rfl) dX4_till_17 0 0 rfl rfl (fun z3 ws3 e3 => ?_)
    obtain ⟨rfl, rfl⟩ := e3
    exact hE _ _ _ _ dX4_till_20 rfl (Or.inr ⟨h12, rfl⟩)
set_option maxHeartbeats 4000000 in
set_option maxRecDepth 100000 in
theorem z_pay (l : Launch) {g : GT} {md : Nat → Nat} {h : Int} {Q : Nat → TS} (R T : TS) (hR : REL R T) (hn1 : 1 ≤ T 0 0) (hn8 : T 0 0 ≤ 8) (hc0 : 0 ≤ T 0 1) (hc6 : T 0 1 ≤ 6) (hl0 : 0 ≤ T 0 2) (hl9 : T 0 2 < 2147483647) {d a : Int} (hd : rg d) (ha : rg a) (ham : ∀ d : Nat, d < 8 → -1 ≤ T 1 d ∧ T 1 d ≤ 9999) : MI l yX4_pay cX4_pay 4 .int (rmN 3) g [.ref (md 0), .int (iZ (d)), .int (iZ (a))] (RW g md h Q 0 R) (fun z ws9 => (((0 ≤ d ∧ d < T 0 0) ∧ (0 ≤ a ∧ a ≤ 9999)) ∧ z = T 1 d.toNat ∧ ∃ R9, REL R9 (pyT T d.toNat a) ∧ ws9 = RW g md 0 Q 0 R9) ∨ (¬ (0 ≤ d ∧ d < T 0 0) ∧ ws9 = RW g md 1 Q 0 R) ∨ (((0 ≤ d ∧ d < T 0 0) ∧ ¬ (0 ≤ a ∧ a ≤ 9999)) ∧ ws9 = RW g md 2 Q 0 R)) := by
  refine MI.of (own := RX4) (by decide) rfl (Nat.le_of_ble_eq_true rfl) (fun x hx hE => ?_)
  have hk : 0 < 2 := by decide
  obtain ⟨hT, r00, r01, r02, r12, rcc⟩ := id hR.1
  have hzz : (((T 0 2).toNat : Nat) : Int) = T 0 2 := Int.toNat_of_nonneg (by omega)
  refine V_lv (lv' := [(0, .ref (md 0)), (1, .int (iZ (d))), (2, .int (iZ (a)))]) rfl ?_
  refine V_aload_n hx dX4_pay_0 0 rfl ?_
  refine V_iconst hx dX4_pay_1 ?_
  refine pf_X4_19 hx 0 RW_o (Nat.le_of_ble_eq_true rfl) (RW g md 0 Q 0 R) RW_seth dX4_pay_2 ?_
  refine V_aload_n hx dX4_pay_5 0 rfl ?_
  refine V_iload_n hx dX4_pay_6 1 rfl ?_
  refine V_calli hx (z_isDrawer l R T hR (by omega) (by omega) (d := d) (by first | assumption | exact hT _ _ | exact ⟨by omega, by omega⟩)) cw_X4_41 (RMn (by decide) (by decide)) rfl 0 RW_o rfl rfl (Nat.le_of_ble_eq_true rfl) dX4_pay_7 0 0 rfl rfl (fun z1 ws1 e1 => ?_)
  obtain ⟨rfl, rfl⟩ := e1
  refine V_ifb_ne hx dX4_pay_10 19 (by decide) (fun h10 => ?_) (fun h10 => ?_)
  · refine V_iload_n hx dX4_pay_19 2 rfl ?_
    refine V_iconst hx dX4_pay_20 ?_
    refine V_sipush hx dX4_pay_21 rfl ?_
    refine V_callSi hx (z_isIn l (h := 0) (Q := Q) R (v := a) (lo := 0) (hi := 9999) (by first | assumption | exact hT _ _ | exact ⟨by omega, by omega⟩) ⟨by decide, by decide⟩ ⟨by decide, by decide⟩) cw_X4_26 (RMn (by decide) (by decide)) rfl rfl (Nat.le_of_ble_eq_true rfl) dX4_pay_24 0 0 rfl rfl (fun z2 ws2 e2 => ?_)
    obtain ⟨rfl, rfl⟩ := e2
    refine V_ifb_ne hx dX4_pay_27 36 (by decide) (fun h27 => ?_) (fun h27 => ?_)
    · obtain ⟨f1, f2⟩ := r12 d.toNat (by omega)
      refine V_aload_n hx dX4_pay_36 0 rfl ?_
      refine gf_X4_10 hx 0 RW_o rfl dX4_pay_37 ?_
      refine gf_X4_45 hx (iy 0 0) (RW_s hk) rfl dX4_pay_40 ?_
      refine V_iload_n hx dX4_pay_43 1 rfl ?_
      refine V_iald hx (by omega) (by omega) (by decide) (iy 0 1) (RW_a hk 1 (by decide) (n := 8) rfl) (v := R 1 d.toNat) rfl dX4_pay_44 ?_
      refine V_istore_n hx dX4_pay_45 [(3, .int (iZ (R 1 d.toNat))), (0, .ref (md 0)), (1, .int (iZ (d))), (2, .int (iZ (a)))] (by decide) rfl ?_
      refine V_aload_n hx dX4_pay_46 1 rfl ?_
      refine gf_X4_10 hx 0 RW_o rfl dX4_pay_47 ?_
      refine V_iload_n hx dX4_pay_50 2 rfl ?_
      refine V_iload_n hx dX4_pay_51 3 rfl ?_
      refine V_callv hx (y_pay l hk R T hR (by omega) (by omega) (d := d) (v := a) (by omega) (by omega) (by omega) (by omega) (by omega) (by omega) hzz ham) cw_X4_49 (RMn (by decide) (by decide)) rfl (iy 0 0) (RW_s hk) rfl rfl (Nat.le_of_ble_eq_true rfl) dX4_pay_52 0 0 rfl rfl (fun ws3 e3 => ?_)
      obtain ⟨R3, hR3, rfl⟩ := e3
      refine V_iload_n hx dX4_pay_55 0 rfl ?_
      exact hE _ _ _ _ dX4_pay_56 rfl (Or.inl ⟨⟨h10, h27⟩, f1, _, rel_of hR3 (by rw [pyT, kcT_ne (by omega), pt_ne _ _ (Or.inl (by omega)), pt_ne _ _ (Or.inl (by omega)), pt_at]; omega), rfl⟩)
    · refine V_aload_n hx dX4_pay_30 0 rfl ?_
      refine V_iconst hx dX4_pay_31 ?_
      refine V_calli hx (z_no l R (n := 2)) cw_X4_33 (RMn (by decide) (by decide)) rfl 0 RW_o rfl rfl (Nat.le_of_ble_eq_true rfl) dX4_pay_32 0 0 rfl rfl (fun z4 ws4 e4 => ?_)
      obtain ⟨rfl, rfl⟩ := e4
      exact hE _ _ _ _ dX4_pay_35 rfl (Or.inr (Or.inr ⟨⟨h10, h27⟩, rfl⟩))
  · refine V_aload_n hx dX4_pay_13 0 rfl ?_
    refine V_iconst hx dX4_pay_14 ?_
    refine V_calli hx (z_no l R (n := 1)) cw_X4_33 (RMn (by decide) (by decide)) rfl 0 RW_o rfl rfl (Nat.le_of_ble_eq_true rfl) dX4_pay_15 0 0 rfl rfl (fun z5 ws5 e5 => ?_)
    obtain ⟨rfl, rfl⟩ := e5
    exact hE _ _ _ _ dX4_pay_18 rfl (Or.inr (Or.inl ⟨h10, rfl⟩))
set_option maxHeartbeats 4000000 in
set_option maxRecDepth 100000 in
theorem z_clerk (l : Launch) {g : GT} {md : Nat → Nat} {h : Int} {Q : Nat → TS} (R T : TS) (hR : REL R T) (hn1 : 1 ≤ T 0 0) (hn8 : T 0 0 ≤ 8) (hc0 : 0 ≤ T 0 1) (hc6 : T 0 1 ≤ 6) : MI l yX4_clerk cX4_clerk 1 .int (rmN 3) g [.ref (md 0)] (RW g md h Q 0 R) (fun z ws9 => (T 0 1 < 6 ∧ z = T 0 1 ∧ ∃ R9, REL R9 (acT T) ∧ ws9 = RW g md 0 Q 0 R9) ∨ (¬ T 0 1 < 6 ∧ ws9 = RW g md 1 Q 0 R)) := by
  refine MI.of (own := RX4) (by decide) rfl (Nat.le_of_ble_eq_true rfl) (fun x hx hE => ?_)
  have hk : 0 < 2 := by decide
  obtain ⟨hT, r00, r01, r02, r12, rcc⟩ := id hR.1
  refine V_lv (lv' := [(0, .ref (md 0))]) rfl ?_
  refine V_aload_n hx dX4_clerk_0 0 rfl ?_
  refine V_iconst hx dX4_clerk_1 ?_
  refine pf_X4_19 hx 0 RW_o (Nat.le_of_ble_eq_true rfl) (RW g md 0 Q 0 R) RW_seth dX4_clerk_2 ?_
  refine V_aload_n hx dX4_clerk_5 0 rfl ?_
  refine gf_X4_10 hx 0 RW_o rfl dX4_clerk_6 ?_
  refine gf_X4_30 hx (iy 0 0) (RW_s hk) rfl dX4_clerk_9 ?_
  refine V_bipush hx dX4_clerk_12 rfl ?_
  refine V_icmp_ge hx dX4_clerk_14 27 (by decide) (by first | assumption | exact hT _ _ | exact ⟨by omega, by omega⟩) ⟨by decide, by decide⟩ (fun h14 => ?_) (fun h14 => ?_)
  · refine V_aload_n hx dX4_clerk_27 0 rfl ?_
    refine V_iconst hx dX4_clerk_28 ?_
    refine V_calli hx (z_no l R (n := 1)) cw_X4_33 (RMn (by decide) (by decide)) rfl 0 RW_o rfl rfl (Nat.le_of_ble_eq_true rfl) dX4_clerk_29 0 0 rfl rfl (fun z1 ws1 e1 => ?_)
    obtain ⟨rfl, rfl⟩ := e1
    exact hE _ _ _ _ dX4_clerk_32 rfl (Or.inr ⟨by omega, rfl⟩)
  · refine V_aload_n hx dX4_clerk_17 0 rfl ?_
    refine gf_X4_10 hx 0 RW_o rfl dX4_clerk_18 ?_
    refine V_calli hx (y_addClerk l hk R T hR (by omega) (by omega)) cw_X4_53 (RMn (by decide) (by decide)) rfl (iy 0 0) (RW_s hk) rfl rfl (Nat.le_of_ble_eq_true rfl) dX4_clerk_21 0 0 rfl rfl (fun z2 ws2 e2 => ?_)
    obtain ⟨rfl, R2, hR2, rfl⟩ := e2
    refine V_goto hx dX4_clerk_24 32 (by decide) ?_
    exact hE _ _ _ _ dX4_clerk_32 rfl (Or.inl ⟨by omega, rfl, _, hR2, rfl⟩)
set_option maxHeartbeats 4000000 in
set_option maxRecDepth 100000 in
theorem z_turn (l : Launch) {g : GT} {md : Nat → Nat} {h : Int} {Q : Nat → TS} (R T : TS) (hR : REL R T) (hn1 : 1 ≤ T 0 0) (hn8 : T 0 0 ≤ 8) (hc0 : 0 ≤ T 0 1) (hc6 : T 0 1 ≤ 6) (hl0 : 0 ≤ T 0 2) (hl9 : T 0 2 < 2147483647) {c : Int} (hc : rg c) (hk0 : 0 ≤ c → c < T 0 1 → TKok T (7 + 8 * c.toNat)) (hkm : 0 ≤ c → c < T 0 1 → MOK T (7 + 8 * c.toNat)) : MI l yX4_turn cX4_turn 2 .int (rmN 5) g [.ref (md 0), .int (iZ (c))] (RW g md h Q 0 R) (fun z ws9 => (((0 ≤ c ∧ c < T 0 1) ∧ awP T c.toNat) ∧ z = tkV T c.toNat ∧ ∃ R9, REL R9 (tkT T c.toNat) ∧ ws9 = RW g md 0 Q 0 R9) ∨ (¬ (0 ≤ c ∧ c < T 0 1) ∧ ws9 = RW g md 1 Q 0 R) ∨ (((0 ≤ c ∧ c < T 0 1) ∧ ¬ awP T c.toNat) ∧ ws9 = RW g md 2 Q 0 R)) := by
  refine MI.of (own := RX4) (by decide) rfl (Nat.le_of_ble_eq_true rfl) (fun x hx hE => ?_)
  have hk : 0 < 2 := by decide
  obtain ⟨hT, r00, r01, r02, r12, rcc⟩ := id hR.1
  have hzz : (((T 0 2).toNat : Nat) : Int) = T 0 2 := Int.toNat_of_nonneg (by omega)
  refine V_lv (lv' := [(0, .ref (md 0)), (1, .int (iZ (c)))]) rfl ?_
  refine V_aload_n hx dX4_turn_0 0 rfl ?_
  refine V_iconst hx dX4_turn_1 ?_
  refine pf_X4_19 hx 0 RW_o (Nat.le_of_ble_eq_true rfl) (RW g md 0 Q 0 R) RW_seth dX4_turn_2 ?_
  refine V_aload_n hx dX4_turn_5 0 rfl ?_
  refine V_iload_n hx dX4_turn_6 1 rfl ?_
  refine V_calli hx (z_isClerk l R T hR (by omega) (by omega) (d := c) (by first | assumption | exact hT _ _ | exact ⟨by omega, by omega⟩)) cw_X4_57 (RMn (by decide) (by decide)) rfl 0 RW_o rfl rfl (Nat.le_of_ble_eq_true rfl) dX4_turn_7 0 0 rfl rfl (fun z1 ws1 e1 => ?_)
  obtain ⟨rfl, rfl⟩ := e1
  refine V_ifb_ne hx dX4_turn_10 19 (by decide) (fun h10 => ?_) (fun h10 => ?_)
  · refine V_aload_n hx dX4_turn_19 0 rfl ?_
    refine gf_X4_10 hx 0 RW_o rfl dX4_turn_20 ?_
    refine V_iload_n hx dX4_turn_23 1 rfl ?_
    refine V_calli hx (y_goesOn l hk R T hR (c := c) (by omega) (by omega) (by omega)) cw_X4_78 (RMn (by decide) (by decide)) rfl (iy 0 0) (RW_s hk) rfl rfl (Nat.le_of_ble_eq_true rfl) dX4_turn_24 0 0 rfl rfl (fun z2 ws2 e2 => ?_)
    obtain ⟨rfl, rfl⟩ := e2
    refine V_ifb_eq hx dX4_turn_27 41 (by decide) (fun h27 => ?_) (fun h27 => ?_)
    · refine V_aload_n hx dX4_turn_41 0 rfl ?_
      refine V_iconst hx dX4_turn_42 ?_
      refine V_calli hx (z_no l R (n := 2)) cw_X4_33 (RMn (by decide) (by decide)) rfl 0 RW_o rfl rfl (Nat.le_of_ble_eq_true rfl) dX4_turn_43 0 0 rfl rfl (fun z3 ws3 e3 => ?_)
      obtain ⟨rfl, rfl⟩ := e3
      exact hE _ _ _ _ dX4_turn_46 rfl (Or.inr (Or.inr ⟨⟨h10, h27⟩, rfl⟩))
    · refine V_aload_n hx dX4_turn_30 0 rfl ?_
      refine gf_X4_10 hx 0 RW_o rfl dX4_turn_31 ?_
      refine V_iload_n hx dX4_turn_34 1 rfl ?_
      refine V_calli hx (y_turn l hk R T hR hzz (c := c) (by omega) (by omega) (by omega) (hk0 (by omega) (by omega)) (hkm (by omega) (by omega))) cw_X4_81 (RMn (by decide) (by decide)) rfl (iy 0 0) (RW_s hk) rfl rfl (Nat.le_of_ble_eq_true rfl) dX4_turn_35 0 0 rfl rfl (fun z4 ws4 e4 => ?_)
      obtain ⟨rfl, R4, hR4, rfl⟩ := e4
      refine V_goto hx dX4_turn_38 46 (by decide) ?_
      exact hE _ _ _ _ dX4_turn_46 rfl (Or.inl ⟨⟨h10, h27⟩, rfl, _, hR4, rfl⟩)
  · refine V_aload_n hx dX4_turn_13 0 rfl ?_
    refine V_iconst hx dX4_turn_14 ?_
    refine V_calli hx (z_no l R (n := 1)) cw_X4_33 (RMn (by decide) (by decide)) rfl 0 RW_o rfl rfl (Nat.le_of_ble_eq_true rfl) dX4_turn_15 0 0 rfl rfl (fun z5 ws5 e5 => ?_)
    obtain ⟨rfl, rfl⟩ := e5
    exact hE _ _ _ _ dX4_turn_18 rfl (Or.inr (Or.inl ⟨h10, rfl⟩))
set_option maxHeartbeats 4000000 in
set_option maxRecDepth 100000 in
theorem z_drop (l : Launch) {g : GT} {md : Nat → Nat} {h : Int} {Q : Nat → TS} (R T : TS) (hR : REL R T) (hn1 : 1 ≤ T 0 0) (hn8 : T 0 0 ≤ 8) (hc0 : 0 ≤ T 0 1) (hc6 : T 0 1 ≤ 6) (hl0 : 0 ≤ T 0 2) (hl9 : T 0 2 < 2147483647) {c : Int} (hc : rg c) : MI l yX4_drop cX4_drop 3 .int (rmN 2) g [.ref (md 0), .int (iZ (c))] (RW g md h Q 0 R) (fun z ws9 => ((0 ≤ c ∧ c < T 0 1) ∧ z = T (7 + 8 * c.toNat) 1 ∧ ∃ R9, REL R9 (soT T (7 + 8 * c.toNat) 8) ∧ ws9 = RW g md 0 Q 0 R9) ∨ (¬ (0 ≤ c ∧ c < T 0 1) ∧ ws9 = RW g md 1 Q 0 R)) := by
  refine MI.of (own := RX4) (by decide) rfl (Nat.le_of_ble_eq_true rfl) (fun x hx hE => ?_)
  have hk : 0 < 2 := by decide
  obtain ⟨hT, r00, r01, r02, r12, rcc⟩ := id hR.1
  have hzz : (((T 0 2).toNat : Nat) : Int) = T 0 2 := Int.toNat_of_nonneg (by omega)
  refine V_lv (lv' := [(0, .ref (md 0)), (1, .int (iZ (c)))]) rfl ?_
  refine V_aload_n hx dX4_drop_0 0 rfl ?_
  refine V_iconst hx dX4_drop_1 ?_
  refine pf_X4_19 hx 0 RW_o (Nat.le_of_ble_eq_true rfl) (RW g md 0 Q 0 R) RW_seth dX4_drop_2 ?_
  refine V_aload_n hx dX4_drop_5 0 rfl ?_
  refine V_iload_n hx dX4_drop_6 1 rfl ?_
  refine V_calli hx (z_isClerk l R T hR (by omega) (by omega) (d := c) (by first | assumption | exact hT _ _ | exact ⟨by omega, by omega⟩)) cw_X4_57 (RMn (by decide) (by decide)) rfl 0 RW_o rfl rfl (Nat.le_of_ble_eq_true rfl) dX4_drop_7 0 0 rfl rfl (fun z1 ws1 e1 => ?_)
  obtain ⟨rfl, rfl⟩ := e1
  refine V_ifb_ne hx dX4_drop_10 19 (by decide) (fun h10 => ?_) (fun h10 => ?_)
  · obtain ⟨a1, a2, a3, a4, a5, a6⟩ := rcc c.toNat (by omega)
    refine V_aload_n hx dX4_drop_19 0 rfl ?_
    refine gf_X4_10 hx 0 RW_o rfl dX4_drop_20 ?_
    refine gf_X4_63 hx (iy 0 0) (RW_s hk) rfl dX4_drop_23 ?_
    refine V_iload_n hx dX4_drop_26 1 rfl ?_
    refine V_iald hx (by omega) (by omega) (by decide) (iy 0 5) (RW_a hk 5 (by decide) (n := 6) rfl) (v := R 5 c.toNat) rfl dX4_drop_27 ?_
    refine V_istore_n hx dX4_drop_28 [(2, .int (iZ (R 5 c.toNat))), (0, .ref (md 0)), (1, .int (iZ (c)))] (by decide) rfl ?_
    refine V_aload_n hx dX4_drop_29 1 rfl ?_
    refine gf_X4_10 hx 0 RW_o rfl dX4_drop_30 ?_
    refine V_iload_n hx dX4_drop_33 2 rfl ?_
    refine V_callv hx (y_clear l hk R (c := c) (by omega) (by omega)) cw_X4_84 (RMn (by decide) (by decide)) rfl (iy 0 0) (RW_s hk) rfl rfl (Nat.le_of_ble_eq_true rfl) dX4_drop_34 0 0 rfl rfl (fun ws2 e2 => ?_)
    subst e2
    refine V_iload_n hx dX4_drop_37 0 rfl ?_
    exact hE _ _ _ _ dX4_drop_38 rfl (Or.inl ⟨h10, a2, _, rel_of (rz_clear hR) (by rw [soT_ne (by omega)]; exact hzz), rfl⟩)
  · refine V_aload_n hx dX4_drop_13 0 rfl ?_
    refine V_iconst hx dX4_drop_14 ?_
    refine V_calli hx (z_no l R (n := 1)) cw_X4_33 (RMn (by decide) (by decide)) rfl 0 RW_o rfl rfl (Nat.le_of_ble_eq_true rfl) dX4_drop_15 0 0 rfl rfl (fun z3 ws3 e3 => ?_)
    obtain ⟨rfl, rfl⟩ := e3
    exact hE _ _ _ _ dX4_drop_18 rfl (Or.inr ⟨h10, rfl⟩)
set_option maxHeartbeats 4000000 in
set_option maxRecDepth 100000 in
theorem z_pass (l : Launch) {g : GT} {md : Nat → Nat} {h : Int} {Q : Nat → TS} (R T : TS) (hR : REL R T) (hn1 : 1 ≤ T 0 0) (hn8 : T 0 0 ≤ 8) (hc0 : 0 ≤ T 0 1) (hc6 : T 0 1 ≤ 6) (hl0 : 0 ≤ T 0 2) (hl9 : T 0 2 < 2147483647) {r : Int} (hr : rg r) (hG : 1 ≤ r → r ≤ 50 → ∀ j : Nat, (j : Int) < r → GRok (grs T j).1 ∧ 0 ≤ (grs T j).1 0 2 ∧ ∀ c : Nat, (c : Int) < (grs T j).1 0 1 → MOK (gr (grs T j).1 c).1 (7 + 8 * c)) : MI l yX4_pass cX4_pass 4 .int (rmN 6) g [.ref (md 0), .int (iZ (r))] (RW g md h Q 0 R) (fun z ws9 => ((1 ≤ r ∧ r ≤ 50) ∧ z = (grs T r.toNat).2 ∧ ∃ R9, REL R9 ((grs T r.toNat).1) ∧ ws9 = RW g md 0 Q 0 R9) ∨ (¬ (1 ≤ r ∧ r ≤ 50) ∧ ws9 = RW g md 1 Q 0 R)) := by
  refine MI.of (own := RX4) (by decide) rfl (Nat.le_of_ble_eq_true rfl) (fun x hx hE => ?_)
  have hk : 0 < 2 := by decide
  obtain ⟨hT, r00, r01, r02, r12, rcc⟩ := id hR.1
  have hzz : (((T 0 2).toNat : Nat) : Int) = T 0 2 := Int.toNat_of_nonneg (by omega)
  refine V_lv (lv' := [(0, .ref (md 0)), (1, .int (iZ (r)))]) rfl ?_
  refine V_aload_n hx dX4_pass_0 0 rfl ?_
  refine V_iconst hx dX4_pass_1 ?_
  refine pf_X4_19 hx 0 RW_o (Nat.le_of_ble_eq_true rfl) (RW g md 0 Q 0 R) RW_seth dX4_pass_2 ?_
  refine V_iload_n hx dX4_pass_5 1 rfl ?_
  refine V_iconst hx dX4_pass_6 ?_
  refine V_bipush hx dX4_pass_7 rfl ?_
  refine V_callSi hx (z_isIn l (h := 0) (Q := Q) R (v := r) (lo := 1) (hi := 50) (by first | assumption | exact hT _ _ | exact ⟨by omega, by omega⟩) ⟨by decide, by decide⟩ ⟨by decide, by decide⟩) cw_X4_26 (RMn (by decide) (by decide)) rfl rfl (Nat.le_of_ble_eq_true rfl) dX4_pass_9 0 0 rfl rfl (fun z1 ws1 e1 => ?_)
  obtain ⟨rfl, rfl⟩ := e1
  refine V_ifb_ne hx dX4_pass_12 21 (by decide) (fun h12 => ?_) (fun h12 => ?_)
  · refine V_iconst hx dX4_pass_21 ?_
    refine V_istore_n hx dX4_pass_22 [(2, .int (iZ (0))), (0, .ref (md 0)), (1, .int (iZ (r)))] (by decide) rfl ?_
    refine V_iconst hx dX4_pass_23 ?_
    refine V_istore_n hx dX4_pass_24 [(3, .int (iZ (0))), (2, .int (iZ (0))), (0, .ref (md 0)), (1, .int (iZ (r)))] (by decide) rfl ?_
    have hL25 : ∀ (n : Nat) (i : Nat) (R1 : TS), r.toNat < i + n → i ≤ r.toNat → (REL R1 (grs T i).1) → V x 0 0 (RW g md 0 Q 0 R1) 25 [(3, .int (iZ ((i : Int)))), (2, .int (iZ ((grs T i).2))), (0, .ref (md 0)), (1, .int (iZ (r)))] [] := by
      intro n
      induction n with
      | zero =>
        intro i R1 g1 g2 hR1
        exact absurd g1 (by omega)
      | succ n ih =>
        intro i R1 g1 g2 hR1
        refine V_iload_n hx dX4_pass_25 0 rfl ?_
        refine V_iload_n hx dX4_pass_26 3 rfl ?_
        refine V_icmp_ge hx dX4_pass_27 46 (by decide) ⟨by omega, by omega⟩ (by first | assumption | exact hT _ _ | exact ⟨by omega, by omega⟩) (fun h27 => ?_) (fun h27 => ?_)
        · refine V_iload_n hx dX4_pass_46 1 rfl ?_
          exact hE _ _ _ _ dX4_pass_47 rfl (Or.inl ⟨h12, by rw [show i = r.toNat by omega], _, (show i = r.toNat by omega) ▸ hR1, rfl⟩)
        · obtain ⟨hGi, hli, hGmi⟩ := hG (by omega) (by omega) i (by omega)
          have hzi : ((((grs T i).1 0 2).toNat : Nat) : Int) = (grs T i).1 0 2 := Int.toNat_of_nonneg hli
          refine V_iload_n hx dX4_pass_30 1 rfl ?_
          refine V_aload_n hx dX4_pass_31 2 rfl ?_
          refine gf_X4_10 hx 0 RW_o rfl dX4_pass_32 ?_
          refine V_calli hx (y_round l hk R1 ((grs T i).1) hR1 hzi hGi hGmi) cw_X4_87 (RMn (by decide) (by decide)) rfl (iy 0 0) (RW_s hk) rfl rfl (Nat.le_of_ble_eq_true rfl) dX4_pass_35 0 0 rfl rfl (fun z2 ws2 e2 => ?_)
          obtain ⟨rfl, R2, hR2, rfl⟩ := e2
          refine V_iadd hx dX4_pass_38 ?_
          refine V_istore_n hx dX4_pass_39 [(2, .int (iZ (((grs T i).2) + ((gr ((grs T i).1) (nc ((grs T i).1))).2)))), (3, .int (iZ ((i : Int)))), (0, .ref (md 0)), (1, .int (iZ (r)))] (by decide) rfl ?_
          refine V_iincN hx dX4_pass_40 1 rfl [(3, .int (iZ (((i + 1 : Nat) : Int)))), (2, .int (iZ (((grs T i).2) + ((gr ((grs T i).1) (nc ((grs T i).1))).2)))), (0, .ref (md 0)), (1, .int (iZ (r)))] (by decide) rfl ?_
          refine V_goto hx dX4_pass_43 25 (by decide) ?_
          refine V_sub (lv' := [(3, .int (iZ (((i + 1 : Nat) : Int)))), (2, .int (iZ (((grs T i).2) + ((gr ((grs T i).1) (nc ((grs T i).1))).2)))), (0, .ref (md 0)), (1, .int (iZ (r)))]) [0, 1, 2, 3] rfl ?_
          refine V_lv (lv' := [(3, .int (iZ ((i + 1 : Nat) : Int))), (2, .int (iZ ((grs T (i + 1)).2))), (0, .ref (md 0)), (1, .int (iZ r))]) rfl ?_
          exact ih (i + 1) _ (by omega) (by omega) hR2
    refine V_ws (ws' := _) rfl ?_
    exact V_sub [0, 1, 2, 3] rfl (hL25 (r.toNat + 1) 0 _ (by omega) (by omega) hR)
  · refine V_aload_n hx dX4_pass_15 0 rfl ?_
    refine V_iconst hx dX4_pass_16 ?_
    refine V_calli hx (z_no l R (n := 1)) cw_X4_33 (RMn (by decide) (by decide)) rfl 0 RW_o rfl rfl (Nat.le_of_ble_eq_true rfl) dX4_pass_17 0 0 rfl rfl (fun z3 ws3 e3 => ?_)
    obtain ⟨rfl, rfl⟩ := e3
    exact hE _ _ _ _ dX4_pass_20 rfl (Or.inr ⟨h12, rfl⟩)
set_option maxHeartbeats 4000000 in
set_option maxRecDepth 100000 in
theorem z_drawer (l : Launch) {g : GT} {md : Nat → Nat} {h : Int} {Q : Nat → TS} (R T : TS) (hR : REL R T) (hn1 : 1 ≤ T 0 0) (hn8 : T 0 0 ≤ 8) (hc0 : 0 ≤ T 0 1) (hc6 : T 0 1 ≤ 6) (hl0 : 0 ≤ T 0 2) (hl9 : T 0 2 < 2147483647) {d : Int} (hd : rg d) {what : Int} (hwh : rg what) : MI l yX4_drawer cX4_drawer 3 .int (rmN 2) g [.ref (md 0), .int (iZ (d)), .int (iZ (what))] (RW g md h Q 0 R) (fun z ws9 => (((0 ≤ d ∧ d < T 0 0) ∧ (0 ≤ what ∧ what ≤ 3)) ∧ z = drV T d what ∧ ws9 = RW g md 0 Q 0 R) ∨ (¬ ((0 ≤ d ∧ d < T 0 0) ∧ (0 ≤ what ∧ what ≤ 3)) ∧ ws9 = RW g md 1 Q 0 R)) := by
  refine MI.of (own := RX4) (by decide) rfl (Nat.le_of_ble_eq_true rfl) (fun x hx hE => ?_)
  have hk : 0 < 2 := by decide
  obtain ⟨hT, r00, r01, r02, r12, rcc⟩ := id hR.1
  refine V_lv (lv' := [(0, .ref (md 0)), (1, .int (iZ (d))), (2, .int (iZ (what)))]) rfl ?_
  refine V_aload_n hx dX4_drawer_0 0 rfl ?_
  refine V_iconst hx dX4_drawer_1 ?_
  refine pf_X4_19 hx 0 RW_o (Nat.le_of_ble_eq_true rfl) (RW g md 0 Q 0 R) RW_seth dX4_drawer_2 ?_
  refine V_aload_n hx dX4_drawer_5 0 rfl ?_
  refine V_iload_n hx dX4_drawer_6 1 rfl ?_
  refine V_calli hx (z_isDrawer l R T hR (by omega) (by omega) (d := d) (by first | assumption | exact hT _ _ | exact ⟨by omega, by omega⟩)) cw_X4_41 (RMn (by decide) (by decide)) rfl 0 RW_o rfl rfl (Nat.le_of_ble_eq_true rfl) dX4_drawer_7 0 0 rfl rfl (fun z1 ws1 e1 => ?_)
  obtain ⟨rfl, rfl⟩ := e1
  refine V_ifb_eq hx dX4_drawer_10 31 (by decide) (fun h10 => ?_) (fun h10 => ?_)
  · refine V_aload_n hx dX4_drawer_31 0 rfl ?_
    refine V_iconst hx dX4_drawer_32 ?_
    refine V_calli hx (z_no l R (n := 1)) cw_X4_33 (RMn (by decide) (by decide)) rfl 0 RW_o rfl rfl (Nat.le_of_ble_eq_true rfl) dX4_drawer_33 0 0 rfl rfl (fun z2 ws2 e2 => ?_)
    obtain ⟨rfl, rfl⟩ := e2
    exact hE _ _ _ _ dX4_drawer_36 rfl (Or.inr ⟨by omega, rfl⟩)
  · refine V_iload_n hx dX4_drawer_13 2 rfl ?_
    refine V_iconst hx dX4_drawer_14 ?_
    refine V_iconst hx dX4_drawer_15 ?_
    refine V_callSi hx (z_isIn l (h := 0) (Q := Q) R (v := what) (lo := 0) (hi := 3) (by first | assumption | exact hT _ _ | exact ⟨by omega, by omega⟩) ⟨by decide, by decide⟩ ⟨by decide, by decide⟩) cw_X4_26 (RMn (by decide) (by decide)) rfl rfl (Nat.le_of_ble_eq_true rfl) dX4_drawer_16 0 0 rfl rfl (fun z3 ws3 e3 => ?_)
    obtain ⟨rfl, rfl⟩ := e3
    refine V_ifb_eq hx dX4_drawer_19 31 (by decide) (fun h19 => ?_) (fun h19 => ?_)
    · refine V_aload_n hx dX4_drawer_31 0 rfl ?_
      refine V_iconst hx dX4_drawer_32 ?_
      refine V_calli hx (z_no l R (n := 1)) cw_X4_33 (RMn (by decide) (by decide)) rfl 0 RW_o rfl rfl (Nat.le_of_ble_eq_true rfl) dX4_drawer_33 0 0 rfl rfl (fun z4 ws4 e4 => ?_)
      obtain ⟨rfl, rfl⟩ := e4
      exact hE _ _ _ _ dX4_drawer_36 rfl (Or.inr ⟨by omega, rfl⟩)
    · refine V_aload_n hx dX4_drawer_22 0 rfl ?_
      refine V_iload_n hx dX4_drawer_23 1 rfl ?_
      refine V_iload_n hx dX4_drawer_24 2 rfl ?_
      refine V_calli hx (z_drawerTold l R T hR (by omega) (by omega) (by omega) (by omega) (d := d) (by omega) (by omega) (what := what) (by omega) (by omega)) cw_X4_99 (RMn (by decide) (by decide)) rfl 0 RW_o rfl rfl (Nat.le_of_ble_eq_true rfl) dX4_drawer_25 0 0 rfl rfl (fun z5 ws5 e5 => ?_)
      obtain ⟨rfl, rfl⟩ := e5
      refine V_goto hx dX4_drawer_28 36 (by decide) ?_
      exact hE _ _ _ _ dX4_drawer_36 rfl (Or.inl ⟨⟨h10, h19⟩, rfl, rfl⟩)
set_option maxHeartbeats 4000000 in
set_option maxRecDepth 100000 in
theorem z_told (l : Launch) {g : GT} {md : Nat → Nat} {h : Int} {Q : Nat → TS} (R T : TS) (hR : REL R T) (hn1 : 1 ≤ T 0 0) (hn8 : T 0 0 ≤ 8) (hc0 : 0 ≤ T 0 1) (hc6 : T 0 1 ≤ 6) (hl0 : 0 ≤ T 0 2) (hl9 : T 0 2 < 2147483647) {c : Int} (hc : rg c) {what : Int} (hwh : rg what) (hw8 : ∀ c : Nat, (c : Int) < T 0 1 → W8 T c) : MI l yX4_told cX4_told 3 .int (rmN 3) g [.ref (md 0), .int (iZ (c)), .int (iZ (what))] (RW g md h Q 0 R) (fun z ws9 => (((0 ≤ c ∧ c < T 0 1) ∧ (0 ≤ what ∧ what ≤ 6)) ∧ z = ckV T c what ∧ ws9 = RW g md 0 Q 0 R) ∨ (¬ ((0 ≤ c ∧ c < T 0 1) ∧ (0 ≤ what ∧ what ≤ 6)) ∧ ws9 = RW g md 1 Q 0 R)) := by
  refine MI.of (own := RX4) (by decide) rfl (Nat.le_of_ble_eq_true rfl) (fun x hx hE => ?_)
  have hk : 0 < 2 := by decide
  obtain ⟨hT, r00, r01, r02, r12, rcc⟩ := id hR.1
  refine V_lv (lv' := [(0, .ref (md 0)), (1, .int (iZ (c))), (2, .int (iZ (what)))]) rfl ?_
  refine V_aload_n hx dX4_told_0 0 rfl ?_
  refine V_iconst hx dX4_told_1 ?_
  refine pf_X4_19 hx 0 RW_o (Nat.le_of_ble_eq_true rfl) (RW g md 0 Q 0 R) RW_seth dX4_told_2 ?_
  refine V_aload_n hx dX4_told_5 0 rfl ?_
  refine V_iload_n hx dX4_told_6 1 rfl ?_
  refine V_calli hx (z_isClerk l R T hR (by omega) (by omega) (d := c) (by first | assumption | exact hT _ _ | exact ⟨by omega, by omega⟩)) cw_X4_57 (RMn (by decide) (by decide)) rfl 0 RW_o rfl rfl (Nat.le_of_ble_eq_true rfl) dX4_told_7 0 0 rfl rfl (fun z1 ws1 e1 => ?_)
  obtain ⟨rfl, rfl⟩ := e1
  refine V_ifb_eq hx dX4_told_10 32 (by decide) (fun h10 => ?_) (fun h10 => ?_)
  · refine V_aload_n hx dX4_told_32 0 rfl ?_
    refine V_iconst hx dX4_told_33 ?_
    refine V_calli hx (z_no l R (n := 1)) cw_X4_33 (RMn (by decide) (by decide)) rfl 0 RW_o rfl rfl (Nat.le_of_ble_eq_true rfl) dX4_told_34 0 0 rfl rfl (fun z2 ws2 e2 => ?_)
    obtain ⟨rfl, rfl⟩ := e2
    exact hE _ _ _ _ dX4_told_37 rfl (Or.inr ⟨by omega, rfl⟩)
  · refine V_iload_n hx dX4_told_13 2 rfl ?_
    refine V_iconst hx dX4_told_14 ?_
    refine V_bipush hx dX4_told_15 rfl ?_
    refine V_callSi hx (z_isIn l (h := 0) (Q := Q) R (v := what) (lo := 0) (hi := 6) (by first | assumption | exact hT _ _ | exact ⟨by omega, by omega⟩) ⟨by decide, by decide⟩ ⟨by decide, by decide⟩) cw_X4_26 (RMn (by decide) (by decide)) rfl rfl (Nat.le_of_ble_eq_true rfl) dX4_told_17 0 0 rfl rfl (fun z3 ws3 e3 => ?_)
    obtain ⟨rfl, rfl⟩ := e3
    refine V_ifb_eq hx dX4_told_20 32 (by decide) (fun h20 => ?_) (fun h20 => ?_)
    · refine V_aload_n hx dX4_told_32 0 rfl ?_
      refine V_iconst hx dX4_told_33 ?_
      refine V_calli hx (z_no l R (n := 1)) cw_X4_33 (RMn (by decide) (by decide)) rfl 0 RW_o rfl rfl (Nat.le_of_ble_eq_true rfl) dX4_told_34 0 0 rfl rfl (fun z4 ws4 e4 => ?_)
      obtain ⟨rfl, rfl⟩ := e4
      exact hE _ _ _ _ dX4_told_37 rfl (Or.inr ⟨by omega, rfl⟩)
    · refine V_aload_n hx dX4_told_23 0 rfl ?_
      refine V_iload_n hx dX4_told_24 1 rfl ?_
      refine V_iload_n hx dX4_told_25 2 rfl ?_
      refine V_calli hx (z_clerkTold l R T hR (by omega) (by omega) (c := c) (by omega) (by omega) (by omega) (what := what) (by omega) (by omega) (hw8 c.toNat (by omega))) cw_X4_113 (RMn (by decide) (by decide)) rfl 0 RW_o rfl rfl (Nat.le_of_ble_eq_true rfl) dX4_told_26 0 0 rfl rfl (fun z5 ws5 e5 => ?_)
      obtain ⟨rfl, rfl⟩ := e5
      refine V_goto hx dX4_told_29 37 (by decide) ?_
      exact hE _ _ _ _ dX4_told_37 rfl (Or.inl ⟨⟨h10, h20⟩, rfl, rfl⟩)
set_option maxHeartbeats 4000000 in
set_option maxRecDepth 100000 in
theorem z_slip (l : Launch) {g : GT} {md : Nat → Nat} {h : Int} {Q : Nat → TS} (R T : TS) (hR : REL R T) (hn1 : 1 ≤ T 0 0) (hn8 : T 0 0 ≤ 8) (hc0 : 0 ≤ T 0 1) (hc6 : T 0 1 ≤ 6) (hl0 : 0 ≤ T 0 2) (hl9 : T 0 2 < 2147483647) {c d : Int} (hc : rg c) (hd : rg d) {what : Int} (hwh : rg what) : MI l yX4_slip cX4_slip 4 .int (rmN 2) g [.ref (md 0), .int (iZ (c)), .int (iZ (d)), .int (iZ (what))] (RW g md h Q 0 R) (fun z ws9 => (((0 ≤ c ∧ c < T 0 1) ∧ (0 ≤ d ∧ d < T 0 0) ∧ (0 ≤ what ∧ what ≤ 2)) ∧ z = slV T (7 + 8 * c.toNat) d what ∧ ws9 = RW g md 0 Q 0 R) ∨ (¬ ((0 ≤ c ∧ c < T 0 1) ∧ (0 ≤ d ∧ d < T 0 0) ∧ (0 ≤ what ∧ what ≤ 2)) ∧ ws9 = RW g md 1 Q 0 R)) := by
  refine MI.of (own := RX4) (by decide) rfl (Nat.le_of_ble_eq_true rfl) (fun x hx hE => ?_)
  have hk : 0 < 2 := by decide
  obtain ⟨hT, r00, r01, r02, r12, rcc⟩ := id hR.1
  refine V_lv (lv' := [(0, .ref (md 0)), (1, .int (iZ (c))), (2, .int (iZ (d))), (3, .int (iZ (what)))]) rfl ?_
  refine V_aload_n hx dX4_slip_0 0 rfl ?_
  refine V_iconst hx dX4_slip_1 ?_
  refine pf_X4_19 hx 0 RW_o (Nat.le_of_ble_eq_true rfl) (RW g md 0 Q 0 R) RW_seth dX4_slip_2 ?_
  refine V_aload_n hx dX4_slip_5 0 rfl ?_
  refine V_iload_n hx dX4_slip_6 1 rfl ?_
  refine V_calli hx (z_isClerk l R T hR (by omega) (by omega) (d := c) (by first | assumption | exact hT _ _ | exact ⟨by omega, by omega⟩)) cw_X4_57 (RMn (by decide) (by decide)) rfl 0 RW_o rfl rfl (Nat.le_of_ble_eq_true rfl) dX4_slip_7 0 0 rfl rfl (fun z1 ws1 e1 => ?_)
  obtain ⟨rfl, rfl⟩ := e1
  refine V_ifb_eq hx dX4_slip_10 40 (by decide) (fun h10 => ?_) (fun h10 => ?_)
  · refine V_aload_n hx dX4_slip_40 0 rfl ?_
    refine V_iconst hx dX4_slip_41 ?_
    refine V_calli hx (z_no l R (n := 1)) cw_X4_33 (RMn (by decide) (by decide)) rfl 0 RW_o rfl rfl (Nat.le_of_ble_eq_true rfl) dX4_slip_42 0 0 rfl rfl (fun z2 ws2 e2 => ?_)
    obtain ⟨rfl, rfl⟩ := e2
    exact hE _ _ _ _ dX4_slip_45 rfl (Or.inr ⟨by omega, rfl⟩)
  · refine V_aload_n hx dX4_slip_13 0 rfl ?_
    refine V_iload_n hx dX4_slip_14 2 rfl ?_
    refine V_calli hx (z_isDrawer l R T hR (by omega) (by omega) (d := d) (by first | assumption | exact hT _ _ | exact ⟨by omega, by omega⟩)) cw_X4_41 (RMn (by decide) (by decide)) rfl 0 RW_o rfl rfl (Nat.le_of_ble_eq_true rfl) dX4_slip_15 0 0 rfl rfl (fun z3 ws3 e3 => ?_)
    obtain ⟨rfl, rfl⟩ := e3
    refine V_ifb_eq hx dX4_slip_18 40 (by decide) (fun h18 => ?_) (fun h18 => ?_)
    · refine V_aload_n hx dX4_slip_40 0 rfl ?_
      refine V_iconst hx dX4_slip_41 ?_
      refine V_calli hx (z_no l R (n := 1)) cw_X4_33 (RMn (by decide) (by decide)) rfl 0 RW_o rfl rfl (Nat.le_of_ble_eq_true rfl) dX4_slip_42 0 0 rfl rfl (fun z4 ws4 e4 => ?_)
      obtain ⟨rfl, rfl⟩ := e4
      exact hE _ _ _ _ dX4_slip_45 rfl (Or.inr ⟨by omega, rfl⟩)
    · refine V_iload_n hx dX4_slip_21 3 rfl ?_
      refine V_iconst hx dX4_slip_22 ?_
      refine V_iconst hx dX4_slip_23 ?_
      refine V_callSi hx (z_isIn l (h := 0) (Q := Q) R (v := what) (lo := 0) (hi := 2) (by first | assumption | exact hT _ _ | exact ⟨by omega, by omega⟩) ⟨by decide, by decide⟩ ⟨by decide, by decide⟩) cw_X4_26 (RMn (by decide) (by decide)) rfl rfl (Nat.le_of_ble_eq_true rfl) dX4_slip_24 0 0 rfl rfl (fun z5 ws5 e5 => ?_)
      obtain ⟨rfl, rfl⟩ := e5
      refine V_ifb_eq hx dX4_slip_27 40 (by decide) (fun h27 => ?_) (fun h27 => ?_)
      · refine V_aload_n hx dX4_slip_40 0 rfl ?_
        refine V_iconst hx dX4_slip_41 ?_
        refine V_calli hx (z_no l R (n := 1)) cw_X4_33 (RMn (by decide) (by decide)) rfl 0 RW_o rfl rfl (Nat.le_of_ble_eq_true rfl) dX4_slip_42 0 0 rfl rfl (fun z6 ws6 e6 => ?_)
        obtain ⟨rfl, rfl⟩ := e6
        exact hE _ _ _ _ dX4_slip_45 rfl (Or.inr ⟨by omega, rfl⟩)
      · refine V_aload_n hx dX4_slip_30 0 rfl ?_
        refine V_iload_n hx dX4_slip_31 1 rfl ?_
        refine V_iload_n hx dX4_slip_32 2 rfl ?_
        refine V_iload_n hx dX4_slip_33 3 rfl ?_
        refine V_calli hx (z_slipTold l R T hR (by omega) (by omega) (c := c) (by omega) (by omega) (by omega) (d := d) (by omega) (by omega) (what := what) (by omega) (by omega)) cw_X4_119 (RMn (by decide) (by decide)) rfl 0 RW_o rfl rfl (Nat.le_of_ble_eq_true rfl) dX4_slip_34 0 0 rfl rfl (fun z7 ws7 e7 => ?_)
        obtain ⟨rfl, rfl⟩ := e7
        refine V_goto hx dX4_slip_37 45 (by decide) ?_
        exact hE _ _ _ _ dX4_slip_45 rfl (Or.inl ⟨⟨h10, h18, h27⟩, rfl, rfl⟩)
set_option maxHeartbeats 4000000 in
set_option maxRecDepth 100000 in
theorem z_closing (l : Launch) {g : GT} {md : Nat → Nat} {h : Int} {Q : Nat → TS} (R T : TS) (hR : REL R T) (hn1 : 1 ≤ T 0 0) (hn8 : T 0 0 ≤ 8) (hc0 : 0 ≤ T 0 1) (hc6 : T 0 1 ≤ 6) (hl0 : 0 ≤ T 0 2) (hl9 : T 0 2 < 2147483647) {d : Int} (hd : rg d) {what : Int} (hwh : rg what) : MI l yX4_closing cX4_closing 3 .int (rmN 2) g [.ref (md 0), .int (iZ (d)), .int (iZ (what))] (RW g md h Q 0 R) (fun z ws9 => (((0 ≤ d ∧ d < kpV T) ∧ (0 ≤ what ∧ what ≤ 2)) ∧ z = cfV T d what ∧ ws9 = RW g md 0 Q 0 R) ∨ (¬ ((0 ≤ d ∧ d < kpV T) ∧ (0 ≤ what ∧ what ≤ 2)) ∧ ws9 = RW g md 1 Q 0 R)) := by
  refine MI.of (own := RX4) (by decide) rfl (Nat.le_of_ble_eq_true rfl) (fun x hx hE => ?_)
  have hk : 0 < 2 := by decide
  obtain ⟨hT, r00, r01, r02, r12, rcc⟩ := id hR.1
  have hkp : kpV T = if 10 < T 0 2 then 10 else T 0 2 := rfl
  have hkb := kpV_b hl0
  refine V_lv (lv' := [(0, .ref (md 0)), (1, .int (iZ (d))), (2, .int (iZ (what)))]) rfl ?_
  refine V_aload_n hx dX4_closing_0 0 rfl ?_
  refine V_iconst hx dX4_closing_1 ?_
  refine pf_X4_19 hx 0 RW_o (Nat.le_of_ble_eq_true rfl) (RW g md 0 Q 0 R) RW_seth dX4_closing_2 ?_
  refine V_iload_n hx dX4_closing_5 1 rfl ?_
  refine V_iconst hx dX4_closing_6 ?_
  refine V_bipush hx dX4_closing_7 rfl ?_
  refine V_aload_n hx dX4_closing_9 0 rfl ?_
  refine gf_X4_10 hx 0 RW_o rfl dX4_closing_10 ?_
  refine gf_X4_126 hx (iy 0 0) (RW_s hk) rfl dX4_closing_13 ?_
  refine V_min hx qm811 qm175 q13 qm176 ⟨by decide, by decide⟩ (by first | assumption | exact hT _ _ | exact ⟨by omega, by omega⟩) (by decide) (Nat.le_of_ble_eq_true rfl) (Nat.zero_le _) (Nat.zero_le _) dX4_closing_16 ?_
  refine V_top (b := kpV T) (by rw [hkp]; (repeat' split) <;> omega) ?_
  refine V_iconst hx dX4_closing_19 ?_
  refine V_isub hx dX4_closing_20 ?_
  refine V_callSi hx (z_isIn l (h := 0) (Q := Q) R (v := d) (lo := 0) (hi := (kpV T) - 1) (by first | assumption | exact hT _ _ | exact ⟨by omega, by omega⟩) ⟨by decide, by decide⟩ (by first | assumption | exact hT _ _ | exact ⟨by omega, by omega⟩)) cw_X4_26 (RMn (by decide) (by decide)) rfl rfl (Nat.le_of_ble_eq_true rfl) dX4_closing_21 0 0 rfl rfl (fun z1 ws1 e1 => ?_)
  obtain ⟨rfl, rfl⟩ := e1
  refine V_ifb_eq hx dX4_closing_24 45 (by decide) (fun h24 => ?_) (fun h24 => ?_)
  · refine V_aload_n hx dX4_closing_45 0 rfl ?_
    refine V_iconst hx dX4_closing_46 ?_
    refine V_calli hx (z_no l R (n := 1)) cw_X4_33 (RMn (by decide) (by decide)) rfl 0 RW_o rfl rfl (Nat.le_of_ble_eq_true rfl) dX4_closing_47 0 0 rfl rfl (fun z2 ws2 e2 => ?_)
    obtain ⟨rfl, rfl⟩ := e2
    exact hE _ _ _ _ dX4_closing_50 rfl (Or.inr ⟨by omega, rfl⟩)
  · refine V_iload_n hx dX4_closing_27 2 rfl ?_
    refine V_iconst hx dX4_closing_28 ?_
    refine V_iconst hx dX4_closing_29 ?_
    refine V_callSi hx (z_isIn l (h := 0) (Q := Q) R (v := what) (lo := 0) (hi := 2) (by first | assumption | exact hT _ _ | exact ⟨by omega, by omega⟩) ⟨by decide, by decide⟩ ⟨by decide, by decide⟩) cw_X4_26 (RMn (by decide) (by decide)) rfl rfl (Nat.le_of_ble_eq_true rfl) dX4_closing_30 0 0 rfl rfl (fun z3 ws3 e3 => ?_)
    obtain ⟨rfl, rfl⟩ := e3
    refine V_ifb_eq hx dX4_closing_33 45 (by decide) (fun h33 => ?_) (fun h33 => ?_)
    · refine V_aload_n hx dX4_closing_45 0 rfl ?_
      refine V_iconst hx dX4_closing_46 ?_
      refine V_calli hx (z_no l R (n := 1)) cw_X4_33 (RMn (by decide) (by decide)) rfl 0 RW_o rfl rfl (Nat.le_of_ble_eq_true rfl) dX4_closing_47 0 0 rfl rfl (fun z4 ws4 e4 => ?_)
      obtain ⟨rfl, rfl⟩ := e4
      exact hE _ _ _ _ dX4_closing_50 rfl (Or.inr ⟨by omega, rfl⟩)
    · have hk2 : d < 10 ∧ d < T 0 2 := by (split at hkp <;> omega)
      refine V_aload_n hx dX4_closing_36 0 rfl ?_
      refine V_iload_n hx dX4_closing_37 1 rfl ?_
      refine V_iload_n hx dX4_closing_38 2 rfl ?_
      refine V_calli hx (z_closingTold l R T hR (b := d) (by omega) (by omega) (by omega) (by omega) (what := what) (by omega) (by omega)) cw_X4_143 (RMn (by decide) (by decide)) rfl 0 RW_o rfl rfl (Nat.le_of_ble_eq_true rfl) dX4_closing_39 0 0 rfl rfl (fun z5 ws5 e5 => ?_)
      obtain ⟨rfl, rfl⟩ := e5
      refine V_goto hx dX4_closing_42 50 (by decide) ?_
      exact hE _ _ _ _ dX4_closing_50 rfl (Or.inl ⟨⟨by omega, h33⟩, rfl, rfl⟩)
