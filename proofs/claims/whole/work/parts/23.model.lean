/-! the reference: what it tells; the world is RW g md h Q 0 R, h what was thrown -/
set_option maxHeartbeats 4000000 in
set_option maxRecDepth 100000 in
theorem z_no (l : Launch) {g : GT} {md : Nat → Nat} {h : Int} {Q : Nat → TS} (R : TS) {n : Int} : MI l yX4_no cX4_no 2 .int (rmN 0) g [.ref (md 0), .int (iZ (n))] (RW g md h Q 0 R) (fun z ws9 => z = 0 ∧ ws9 = RW g md n Q 0 R) := by
  refine MI.of (own := RX4) (by decide) rfl (Nat.le_of_ble_eq_true rfl) (fun x hx hE => ?_)
  have hk : 0 < 2 := by decide
  refine V_lv (lv' := [(0, .ref (md 0)), (1, .int (iZ (n)))]) rfl ?_
  refine V_aload_n hx dX4_no_0 0 rfl ?_
  refine V_iload_n hx dX4_no_1 1 rfl ?_
  refine pf_X4_19 hx 0 RW_o (Nat.le_of_ble_eq_true rfl) (RW g md n Q 0 R) RW_seth dX4_no_2 ?_
  refine V_iconst hx dX4_no_5 ?_
  exact hE _ _ _ _ dX4_no_6 rfl ⟨rfl, rfl⟩
set_option maxHeartbeats 4000000 in
set_option maxRecDepth 100000 in
theorem z_isIn (l : Launch) {g : GT} {md : Nat → Nat} {h : Int} {Q : Nat → TS} (R : TS) {v lo hi : Int} (hv : rg v) (hlo : rg lo) (hhi : rg hi) : MI l yX4_isIn cX4_isIn 3 .boolean (rmN 0) g [.int (iZ (v)), .int (iZ (lo)), .int (iZ (hi))] (RW g md h Q 0 R) (fun z ws9 => z = bz (lo ≤ v ∧ v ≤ hi) ∧ ws9 = RW g md h Q 0 R) := by
  refine MI.of (own := RX4) (by decide) rfl (Nat.le_of_ble_eq_true rfl) (fun x hx hE => ?_)
  have hk : 0 < 2 := by decide
  refine V_lv (lv' := [(0, .int (iZ (v))), (1, .int (iZ (lo))), (2, .int (iZ (hi)))]) rfl ?_
  refine V_iload_n hx dX4_isIn_0 0 rfl ?_
  refine V_iload_n hx dX4_isIn_1 1 rfl ?_
  refine V_icmp_lt hx dX4_isIn_2 14 (by decide) (by first | assumption | exact hT _ _ | exact ⟨by omega, by omega⟩) (by first | assumption | exact hT _ _ | exact ⟨by omega, by omega⟩) (fun h2 => ?_) (fun h2 => ?_)
  · refine V_iconst hx dX4_isIn_14 ?_
    exact hE _ _ _ _ dX4_isIn_15 rfl ⟨(bz_f (by omega)).symm, rfl⟩
  · refine V_iload_n hx dX4_isIn_5 0 rfl ?_
    refine V_iload_n hx dX4_isIn_6 2 rfl ?_
    refine V_icmp_gt hx dX4_isIn_7 14 (by decide) (by first | assumption | exact hT _ _ | exact ⟨by omega, by omega⟩) (by first | assumption | exact hT _ _ | exact ⟨by omega, by omega⟩) (fun h7 => ?_) (fun h7 => ?_)
    · refine V_iconst hx dX4_isIn_14 ?_
      exact hE _ _ _ _ dX4_isIn_15 rfl ⟨(bz_f (by omega)).symm, rfl⟩
    · refine V_iconst hx dX4_isIn_10 ?_
      refine V_goto hx dX4_isIn_11 15 (by decide) ?_
      exact hE _ _ _ _ dX4_isIn_15 rfl ⟨(bz_t ⟨by omega, by omega⟩).symm, rfl⟩
set_option maxHeartbeats 4000000 in
set_option maxRecDepth 100000 in
theorem z_isDrawer (l : Launch) {g : GT} {md : Nat → Nat} {h : Int} {Q : Nat → TS} (R T : TS) {zz : Nat} (hR : RLz R T zz) (hn1 : 1 ≤ T 0 0) (hn8 : T 0 0 ≤ 8) {d : Int} (hd : rg d) : MI l yX4_isDrawer cX4_isDrawer 2 .boolean (rmN 1) g [.ref (md 0), .int (iZ (d))] (RW g md h Q 0 R) (fun z ws9 => z = bz (0 ≤ d ∧ d < T 0 0) ∧ ws9 = RW g md h Q 0 R) := by
  refine MI.of (own := RX4) (by decide) rfl (Nat.le_of_ble_eq_true rfl) (fun x hx hE => ?_)
  have hk : 0 < 2 := by decide
  obtain ⟨hT, r00, r01, r02, r12, rcc⟩ := id hR.1
  refine V_lv (lv' := [(0, .ref (md 0)), (1, .int (iZ (d)))]) rfl ?_
  refine V_iload_n hx dX4_isDrawer_0 1 rfl ?_
  refine V_iconst hx dX4_isDrawer_1 ?_
  refine V_aload_n hx dX4_isDrawer_2 0 rfl ?_
  refine gf_X4_10 hx 0 RW_o rfl dX4_isDrawer_3 ?_
  refine gf_X4_23 hx (iy 0 0) (RW_s hk) rfl dX4_isDrawer_6 ?_
  refine V_iconst hx dX4_isDrawer_9 ?_
  refine V_isub hx dX4_isDrawer_10 ?_
  refine V_callSi hx (z_isIn l (h := h) (Q := Q) R (v := d) (lo := 0) (hi := (R 0 0) - 1) (by first | assumption | exact hT _ _ | exact ⟨by omega, by omega⟩) ⟨by decide, by decide⟩ (by first | assumption | exact hT _ _ | exact ⟨by omega, by omega⟩)) cw_X4_26 (RMn (by decide) (by decide)) rfl rfl (Nat.le_of_ble_eq_true rfl) dX4_isDrawer_11 0 0 rfl rfl (fun z1 ws1 e1 => ?_)
  obtain ⟨rfl, rfl⟩ := e1
  exact hE _ _ _ _ dX4_isDrawer_14 (bz_nz _) ⟨bz_c ⟨fun h9 => ⟨by omega, by omega⟩, fun h9 => ⟨by omega, by omega⟩⟩, rfl⟩
set_option maxHeartbeats 4000000 in
set_option maxRecDepth 100000 in
theorem z_isClerk (l : Launch) {g : GT} {md : Nat → Nat} {h : Int} {Q : Nat → TS} (R T : TS) {zz : Nat} (hR : RLz R T zz) (hc0 : 0 ≤ T 0 1) (hc6 : T 0 1 ≤ 6) {d : Int} (hd : rg d) : MI l yX4_isClerk cX4_isClerk 2 .boolean (rmN 1) g [.ref (md 0), .int (iZ (d))] (RW g md h Q 0 R) (fun z ws9 => z = bz (0 ≤ d ∧ d < T 0 1) ∧ ws9 = RW g md h Q 0 R) := by
  refine MI.of (own := RX4) (by decide) rfl (Nat.le_of_ble_eq_true rfl) (fun x hx hE => ?_)
  have hk : 0 < 2 := by decide
  obtain ⟨hT, r00, r01, r02, r12, rcc⟩ := id hR.1
  refine V_lv (lv' := [(0, .ref (md 0)), (1, .int (iZ (d)))]) rfl ?_
  refine V_iload_n hx dX4_isClerk_0 1 rfl ?_
  refine V_iconst hx dX4_isClerk_1 ?_
  refine V_aload_n hx dX4_isClerk_2 0 rfl ?_
  refine gf_X4_10 hx 0 RW_o rfl dX4_isClerk_3 ?_
  refine gf_X4_30 hx (iy 0 0) (RW_s hk) rfl dX4_isClerk_6 ?_
  refine V_iconst hx dX4_isClerk_9 ?_
  refine V_isub hx dX4_isClerk_10 ?_
  refine V_callSi hx (z_isIn l (h := h) (Q := Q) R (v := d) (lo := 0) (hi := (R 0 1) - 1) (by first | assumption | exact hT _ _ | exact ⟨by omega, by omega⟩) ⟨by decide, by decide⟩ (by first | assumption | exact hT _ _ | exact ⟨by omega, by omega⟩)) cw_X4_26 (RMn (by decide) (by decide)) rfl rfl (Nat.le_of_ble_eq_true rfl) dX4_isClerk_11 0 0 rfl rfl (fun z1 ws1 e1 => ?_)
  obtain ⟨rfl, rfl⟩ := e1
  exact hE _ _ _ _ dX4_isClerk_14 (bz_nz _) ⟨bz_c ⟨fun h9 => ⟨by omega, by omega⟩, fun h9 => ⟨by omega, by omega⟩⟩, rfl⟩
set_option maxHeartbeats 4000000 in
set_option maxRecDepth 100000 in
theorem z_many_had (l : Launch) {g : GT} {md : Nat → Nat} {h : Int} {Q : Nat → TS} (R T : TS) {zz : Nat} (hR : RLz R T zz) (hn1 : 1 ≤ T 0 0) (hn8 : T 0 0 ≤ 8) {c : Int} (hc0 : 0 ≤ c) (hc1 : c < T 0 1) (hc6 : T 0 1 ≤ 6) : MI l yX4_many cX4_many 5 .int (rmN 0) g [.ref (md 0), .ref (md (iy 0 8)), .int (iZ (c))] (RW g md h Q 0 R) (fun z ws9 => z = sm (nd T) (rmF T (7 + 8 * c.toNat)) ∧ ws9 = RW g md h Q 0 R) := by
  refine MI.of (own := RX4) (by decide) rfl (Nat.le_of_ble_eq_true rfl) (fun x hx hE => ?_)
  have hk : 0 < 2 := by decide
  obtain ⟨hT, r00, r01, r02, r12, rcc⟩ := id hR.1
  obtain ⟨a1, a2, a3, a4, a5, a6⟩ := rcc c.toNat (by omega)
  have hnd : ((nd T : Nat) : Int) = T 0 0 := Int.toNat_of_nonneg (by omega)
  refine V_lv (lv' := [(0, .ref (md 0)), (1, .ref (md (iy 0 8))), (2, .int (iZ (c)))]) rfl ?_
  refine V_iconst hx dX4_many_0 ?_
  refine V_istore_n hx dX4_many_1 [(3, .int (iZ (0))), (0, .ref (md 0)), (1, .ref (md (iy 0 8))), (2, .int (iZ (c)))] (by decide) rfl ?_
  refine V_iconst hx dX4_many_2 ?_
  refine V_istore hx dX4_many_3 [(4, .int (iZ (0))), (3, .int (iZ (0))), (0, .ref (md 0)), (1, .ref (md (iy 0 8))), (2, .int (iZ (c)))] (by decide) rfl ?_
  have hL5 : ∀ (n : Nat) (i : Nat), nd T < i + n → i ≤ nd T → V x 0 0 (RW g md h Q 0 R) 5 [(4, .int (iZ ((i : Int)))), (3, .int (iZ (sm i (rmF T (7 + 8 * c.toNat))))), (0, .ref (md 0)), (1, .ref (md (iy 0 8))), (2, .int (iZ (c)))] [] := by
    intro n
    induction n with
    | zero =>
      intro i g1 g2 
      exact absurd g1 (by omega)
    | succ n ih =>
      intro i g1 g2 
      refine V_iload hx dX4_many_5 0 rfl ?_
      refine V_aload_n hx dX4_many_7 2 rfl ?_
      refine gf_X4_10 hx 0 RW_o rfl dX4_many_8 ?_
      refine gf_X4_23 hx (iy 0 0) (RW_s hk) rfl dX4_many_11 ?_
      refine V_icmp_ge hx dX4_many_14 44 (by decide) ⟨by omega, by omega⟩ (by first | assumption | exact hT _ _ | exact ⟨by omega, by omega⟩) (fun h14 => ?_) (fun h14 => ?_)
      · refine V_iload_n hx dX4_many_44 1 rfl ?_
        exact hE _ _ _ _ dX4_many_45 rfl ⟨by rw [show i = nd T by omega], rfl⟩
      · obtain ⟨e8, e9, e10⟩ := a6 i (by omega)
        refine V_iload_n hx dX4_many_17 1 rfl ?_
        refine V_aload_n hx dX4_many_18 3 rfl ?_
        refine V_bipush hx dX4_many_19 rfl ?_
        refine V_iload_n hx dX4_many_21 4 rfl ?_
        refine V_imul hx dX4_many_22 ?_
        refine V_iload hx dX4_many_23 0 rfl ?_
        refine V_iadd hx dX4_many_25 ?_
        refine V_iald hx (by omega) (by omega) (by decide) (iy 0 8) (RW_a hk 8 (by decide) (n := 48) rfl) (v := R 8 (8 * c.toNat + i)) (by show iZ _ = iZ _; rw [show Int.toNat ((8 * c) + (i : Int)) = 8 * c.toNat + i by omega] <;> rfl) dX4_many_26 ?_
        refine V_iconst hx dX4_many_27 ?_
        refine V_icmp_eq hx dX4_many_28 35 (by decide) (by first | assumption | exact hT _ _ | exact ⟨by omega, by omega⟩) ⟨by decide, by decide⟩ (fun h28 => ?_) (fun h28 => ?_)
        · refine V_iconst hx dX4_many_35 ?_
          refine V_iadd hx dX4_many_36 ?_
          refine V_istore_n hx dX4_many_37 [(3, .int (iZ ((sm i (rmF T (7 + 8 * c.toNat))) + 0))), (4, .int (iZ ((i : Int)))), (0, .ref (md 0)), (1, .ref (md (iy 0 8))), (2, .int (iZ (c)))] (by decide) rfl ?_
          refine V_iincN hx dX4_many_38 1 rfl [(4, .int (iZ (((i + 1 : Nat) : Int)))), (3, .int (iZ ((sm i (rmF T (7 + 8 * c.toNat))) + 0))), (0, .ref (md 0)), (1, .ref (md (iy 0 8))), (2, .int (iZ (c)))] (by decide) rfl ?_
          refine V_goto hx dX4_many_41 5 (by decide) ?_
          refine V_sub (lv' := [(4, .int (iZ (((i + 1 : Nat) : Int)))), (3, .int (iZ ((sm i (rmF T (7 + 8 * c.toNat))) + 0))), (0, .ref (md 0)), (1, .ref (md (iy 0 8))), (2, .int (iZ (c)))]) [0, 1, 2, 3, 4] rfl ?_
          refine V_lv (lv' := [(4, .int (iZ ((i + 1 : Nat) : Int))), (3, .int (iZ (sm (i + 1) (rmF T (7 + 8 * c.toNat))))), (0, .ref (md 0)), (1, .ref (md (iy 0 8))), (2, .int (iZ c))]) (by simp only [sm, rmF, bz_f (show ¬ (T (7 + 8 * c.toNat + 5) i ≠ -1) by omega)]) ?_
          exact ih (i + 1) (by omega) (by omega)
        · refine V_iconst hx dX4_many_31 ?_
          refine V_goto hx dX4_many_32 36 (by decide) ?_
          refine V_iadd hx dX4_many_36 ?_
          refine V_istore_n hx dX4_many_37 [(3, .int (iZ ((sm i (rmF T (7 + 8 * c.toNat))) + 1))), (4, .int (iZ ((i : Int)))), (0, .ref (md 0)), (1, .ref (md (iy 0 8))), (2, .int (iZ (c)))] (by decide) rfl ?_
          refine V_iincN hx dX4_many_38 1 rfl [(4, .int (iZ (((i + 1 : Nat) : Int)))), (3, .int (iZ ((sm i (rmF T (7 + 8 * c.toNat))) + 1))), (0, .ref (md 0)), (1, .ref (md (iy 0 8))), (2, .int (iZ (c)))] (by decide) rfl ?_
          refine V_goto hx dX4_many_41 5 (by decide) ?_
          refine V_sub (lv' := [(4, .int (iZ (((i + 1 : Nat) : Int)))), (3, .int (iZ ((sm i (rmF T (7 + 8 * c.toNat))) + 1))), (0, .ref (md 0)), (1, .ref (md (iy 0 8))), (2, .int (iZ (c)))]) [0, 1, 2, 3, 4] rfl ?_
          refine V_lv (lv' := [(4, .int (iZ ((i + 1 : Nat) : Int))), (3, .int (iZ (sm (i + 1) (rmF T (7 + 8 * c.toNat))))), (0, .ref (md 0)), (1, .ref (md (iy 0 8))), (2, .int (iZ c))]) (by simp only [sm, rmF, bz_t (show T (7 + 8 * c.toNat + 5) i ≠ -1 by omega)]) ?_
          exact ih (i + 1) (by omega) (by omega)
  refine V_ws (ws' := RW g md h Q 0 R) rfl ?_
  exact V_sub [0, 1, 2, 3, 4] rfl (hL5 (nd T + 1) 0 (by omega) (by omega))
set_option maxHeartbeats 4000000 in
set_option maxRecDepth 100000 in
theorem z_many_own (l : Launch) {g : GT} {md : Nat → Nat} {h : Int} {Q : Nat → TS} (R T : TS) {zz : Nat} (hR : RLz R T zz) (hn1 : 1 ≤ T 0 0) (hn8 : T 0 0 ≤ 8) {c : Int} (hc0 : 0 ≤ c) (hc1 : c < T 0 1) (hc6 : T 0 1 ≤ 6) : MI l yX4_many cX4_many 5 .int (rmN 0) g [.ref (md 0), .ref (md (iy 0 10)), .int (iZ (c))] (RW g md h Q 0 R) (fun z ws9 => z = sm (nd T) (wrF T (7 + 8 * c.toNat)) ∧ ws9 = RW g md h Q 0 R) := by
  refine MI.of (own := RX4) (by decide) rfl (Nat.le_of_ble_eq_true rfl) (fun x hx hE => ?_)
  have hk : 0 < 2 := by decide
  obtain ⟨hT, r00, r01, r02, r12, rcc⟩ := id hR.1
  obtain ⟨a1, a2, a3, a4, a5, a6⟩ := rcc c.toNat (by omega)
  have hnd : ((nd T : Nat) : Int) = T 0 0 := Int.toNat_of_nonneg (by omega)
  refine V_lv (lv' := [(0, .ref (md 0)), (1, .ref (md (iy 0 10))), (2, .int (iZ (c)))]) rfl ?_
  refine V_iconst hx dX4_many_0 ?_
  refine V_istore_n hx dX4_many_1 [(3, .int (iZ (0))), (0, .ref (md 0)), (1, .ref (md (iy 0 10))), (2, .int (iZ (c)))] (by decide) rfl ?_
  refine V_iconst hx dX4_many_2 ?_
  refine V_istore hx dX4_many_3 [(4, .int (iZ (0))), (3, .int (iZ (0))), (0, .ref (md 0)), (1, .ref (md (iy 0 10))), (2, .int (iZ (c)))] (by decide) rfl ?_
  have hL5 : ∀ (n : Nat) (i : Nat), nd T < i + n → i ≤ nd T → V x 0 0 (RW g md h Q 0 R) 5 [(4, .int (iZ ((i : Int)))), (3, .int (iZ (sm i (wrF T (7 + 8 * c.toNat))))), (0, .ref (md 0)), (1, .ref (md (iy 0 10))), (2, .int (iZ (c)))] [] := by
    intro n
    induction n with
    | zero =>
      intro i g1 g2 
      exact absurd g1 (by omega)
    | succ n ih =>
      intro i g1 g2 
      refine V_iload hx dX4_many_5 0 rfl ?_
      refine V_aload_n hx dX4_many_7 2 rfl ?_
      refine gf_X4_10 hx 0 RW_o rfl dX4_many_8 ?_
      refine gf_X4_23 hx (iy 0 0) (RW_s hk) rfl dX4_many_11 ?_
      refine V_icmp_ge hx dX4_many_14 44 (by decide) ⟨by omega, by omega⟩ (by first | assumption | exact hT _ _ | exact ⟨by omega, by omega⟩) (fun h14 => ?_) (fun h14 => ?_)
      · refine V_iload_n hx dX4_many_44 1 rfl ?_
        exact hE _ _ _ _ dX4_many_45 rfl ⟨by rw [show i = nd T by omega], rfl⟩
      · obtain ⟨e8, e9, e10⟩ := a6 i (by omega)
        refine V_iload_n hx dX4_many_17 1 rfl ?_
        refine V_aload_n hx dX4_many_18 3 rfl ?_
        refine V_bipush hx dX4_many_19 rfl ?_
        refine V_iload_n hx dX4_many_21 4 rfl ?_
        refine V_imul hx dX4_many_22 ?_
        refine V_iload hx dX4_many_23 0 rfl ?_
        refine V_iadd hx dX4_many_25 ?_
        refine V_iald hx (by omega) (by omega) (by decide) (iy 0 10) (RW_a hk 10 (by decide) (n := 48) rfl) (v := R 10 (8 * c.toNat + i)) (by show iZ _ = iZ _; rw [show Int.toNat ((8 * c) + (i : Int)) = 8 * c.toNat + i by omega] <;> rfl) dX4_many_26 ?_
        refine V_iconst hx dX4_many_27 ?_
        refine V_icmp_eq hx dX4_many_28 35 (by decide) (by first | assumption | exact hT _ _ | exact ⟨by omega, by omega⟩) ⟨by decide, by decide⟩ (fun h28 => ?_) (fun h28 => ?_)
        · refine V_iconst hx dX4_many_35 ?_
          refine V_iadd hx dX4_many_36 ?_
          refine V_istore_n hx dX4_many_37 [(3, .int (iZ ((sm i (wrF T (7 + 8 * c.toNat))) + 0))), (4, .int (iZ ((i : Int)))), (0, .ref (md 0)), (1, .ref (md (iy 0 10))), (2, .int (iZ (c)))] (by decide) rfl ?_
          refine V_iincN hx dX4_many_38 1 rfl [(4, .int (iZ (((i + 1 : Nat) : Int)))), (3, .int (iZ ((sm i (wrF T (7 + 8 * c.toNat))) + 0))), (0, .ref (md 0)), (1, .ref (md (iy 0 10))), (2, .int (iZ (c)))] (by decide) rfl ?_
          refine V_goto hx dX4_many_41 5 (by decide) ?_
          refine V_sub (lv' := [(4, .int (iZ (((i + 1 : Nat) : Int)))), (3, .int (iZ ((sm i (wrF T (7 + 8 * c.toNat))) + 0))), (0, .ref (md 0)), (1, .ref (md (iy 0 10))), (2, .int (iZ (c)))]) [0, 1, 2, 3, 4] rfl ?_
          refine V_lv (lv' := [(4, .int (iZ ((i + 1 : Nat) : Int))), (3, .int (iZ (sm (i + 1) (wrF T (7 + 8 * c.toNat))))), (0, .ref (md 0)), (1, .ref (md (iy 0 10))), (2, .int (iZ c))]) (by simp only [sm, wrF, bz_f (show ¬ (T (7 + 8 * c.toNat + 7) i ≠ -1) by omega)]) ?_
          exact ih (i + 1) (by omega) (by omega)
        · refine V_iconst hx dX4_many_31 ?_
          refine V_goto hx dX4_many_32 36 (by decide) ?_
          refine V_iadd hx dX4_many_36 ?_
          refine V_istore_n hx dX4_many_37 [(3, .int (iZ ((sm i (wrF T (7 + 8 * c.toNat))) + 1))), (4, .int (iZ ((i : Int)))), (0, .ref (md 0)), (1, .ref (md (iy 0 10))), (2, .int (iZ (c)))] (by decide) rfl ?_
          refine V_iincN hx dX4_many_38 1 rfl [(4, .int (iZ (((i + 1 : Nat) : Int)))), (3, .int (iZ ((sm i (wrF T (7 + 8 * c.toNat))) + 1))), (0, .ref (md 0)), (1, .ref (md (iy 0 10))), (2, .int (iZ (c)))] (by decide) rfl ?_
          refine V_goto hx dX4_many_41 5 (by decide) ?_
          refine V_sub (lv' := [(4, .int (iZ (((i + 1 : Nat) : Int)))), (3, .int (iZ ((sm i (wrF T (7 + 8 * c.toNat))) + 1))), (0, .ref (md 0)), (1, .ref (md (iy 0 10))), (2, .int (iZ (c)))]) [0, 1, 2, 3, 4] rfl ?_
          refine V_lv (lv' := [(4, .int (iZ ((i + 1 : Nat) : Int))), (3, .int (iZ (sm (i + 1) (wrF T (7 + 8 * c.toNat))))), (0, .ref (md 0)), (1, .ref (md (iy 0 10))), (2, .int (iZ c))]) (by simp only [sm, wrF, bz_t (show T (7 + 8 * c.toNat + 7) i ≠ -1 by omega)]) ?_
          exact ih (i + 1) (by omega) (by omega)
  refine V_ws (ws' := RW g md h Q 0 R) rfl ?_
  exact V_sub [0, 1, 2, 3, 4] rfl (hL5 (nd T + 1) 0 (by omega) (by omega))
noncomputable def dtF (T : TS) (d what : Int) (c : Nat) : Int := if what = 2 then reF T d.toNat c else wtF T d.toNat c
theorem dtF_1 {T : TS} {d what : Int} {c : Nat} (h : T (7 + 8 * c) 2 = 0 ∧ ((what = 2 ∧ T (7 + 8 * c + 5) d.toNat ≠ -1) ∨ (what ≠ 2 ∧ T (7 + 8 * c + 7) d.toNat ≠ -1))) : dtF T d what c = 1 := by
  unfold dtF
  by_cases hw : what = 2
  · rw [if_pos hw]; exact bz_t ⟨h.1, by omega⟩
  · rw [if_neg hw]; exact bz_t ⟨h.1, by omega⟩
theorem dtF_0 {T : TS} {d what : Int} {c : Nat} (h : T (7 + 8 * c) 2 ≠ 0 ∨ (what = 2 ∧ T (7 + 8 * c + 5) d.toNat = -1) ∨ (what ≠ 2 ∧ T (7 + 8 * c + 7) d.toNat = -1)) : dtF T d what c = 0 := by
  unfold dtF
  by_cases hw : what = 2
  · rw [if_pos hw]; exact bz_f (by omega)
  · rw [if_neg hw]; exact bz_f (by omega)
set_option maxHeartbeats 4000000 in
set_option maxRecDepth 100000 in
theorem z_drawerTold (l : Launch) {g : GT} {md : Nat → Nat} {h : Int} {Q : Nat → TS} (R T : TS) {zz : Nat} (hR : RLz R T zz) (hn1 : 1 ≤ T 0 0) (hn8 : T 0 0 ≤ 8) (hc0 : 0 ≤ T 0 1) (hc6 : T 0 1 ≤ 6) {d : Int} (hd0 : 0 ≤ d) (hd1 : d < T 0 0) {what : Int} (hw0 : 0 ≤ what) (hw9 : what < 2147483648) : MI l yX4_drawerTold cX4_drawerTold 5 .int (rmN 0) g [.ref (md 0), .int (iZ (d)), .int (iZ (what))] (RW g md h Q 0 R) (fun z ws9 => z = drV T d what ∧ ws9 = RW g md h Q 0 R) := by
  refine MI.of (own := RX4) (by decide) rfl (Nat.le_of_ble_eq_true rfl) (fun x hx hE => ?_)
  have hk : 0 < 2 := by decide
  obtain ⟨hT, r00, r01, r02, r12, rcc⟩ := id hR.1
  have hnc : ((nc T : Nat) : Int) = T 0 1 := Int.toNat_of_nonneg (by omega)
  obtain ⟨f1, f2⟩ := r12 d.toNat (by omega)
  refine V_lv (lv' := [(0, .ref (md 0)), (1, .int (iZ (d))), (2, .int (iZ (what)))]) rfl ?_
  refine V_iload_n hx dX4_drawerTold_0 2 rfl ?_
  refine V_iconst hx dX4_drawerTold_1 ?_
  refine V_icmp_ge hx dX4_drawerTold_2 31 (by decide) (by first | assumption | exact hT _ _ | exact ⟨by omega, by omega⟩) ⟨by decide, by decide⟩ (fun h2 => ?_) (fun h2 => ?_)
  · refine V_iconst hx dX4_drawerTold_31 ?_
    refine V_istore_n hx dX4_drawerTold_32 [(3, .int (iZ (0))), (0, .ref (md 0)), (1, .int (iZ (d))), (2, .int (iZ (what)))] (by decide) rfl ?_
    refine V_iconst hx dX4_drawerTold_33 ?_
    refine V_istore hx dX4_drawerTold_34 [(4, .int (iZ (0))), (3, .int (iZ (0))), (0, .ref (md 0)), (1, .int (iZ (d))), (2, .int (iZ (what)))] (by decide) rfl ?_
    have hL36 : ∀ (n : Nat) (i : Nat), nc T < i + n → i ≤ nc T → V x 0 0 (RW g md h Q 0 R) 36 [(4, .int (iZ ((i : Int)))), (3, .int (iZ (sm i (dtF T d what)))), (0, .ref (md 0)), (1, .int (iZ (d))), (2, .int (iZ (what)))] [] := by
      intro n
      induction n with
      | zero =>
        intro i g1 g2 
        exact absurd g1 (by omega)
      | succ n ih =>
        intro i g1 g2 
        refine V_iload hx dX4_drawerTold_36 0 rfl ?_
        refine V_aload_n hx dX4_drawerTold_38 2 rfl ?_
        refine gf_X4_10 hx 0 RW_o rfl dX4_drawerTold_39 ?_
        refine gf_X4_30 hx (iy 0 0) (RW_s hk) rfl dX4_drawerTold_42 ?_
        refine V_icmp_ge hx dX4_drawerTold_45 109 (by decide) ⟨by omega, by omega⟩ (by first | assumption | exact hT _ _ | exact ⟨by omega, by omega⟩) (fun h45 => ?_) (fun h45 => ?_)
        · refine V_iload_n hx dX4_drawerTold_109 1 rfl ?_
          exact hE _ _ _ _ dX4_drawerTold_110 rfl ⟨by unfold drV; rw [if_neg (by omega), if_neg (by omega), show i = nc T by omega]; unfold dtF; split <;> rfl, rfl⟩
        · obtain ⟨a1, a2, a3, a4, a5, a6⟩ := rcc i (by omega)
          obtain ⟨e8, e9, e10⟩ := a6 d.toNat (by omega)
          refine V_iload_n hx dX4_drawerTold_48 1 rfl ?_
          refine V_aload_n hx dX4_drawerTold_49 2 rfl ?_
          refine gf_X4_10 hx 0 RW_o rfl dX4_drawerTold_50 ?_
          refine gf_X4_60 hx (iy 0 0) (RW_s hk) rfl dX4_drawerTold_53 ?_
          refine V_iload hx dX4_drawerTold_56 0 rfl ?_
          refine V_iald hx (by omega) (by omega) (by decide) (iy 0 6) (RW_a hk 6 (by decide) (n := 6) rfl) (v := R 6 i) rfl dX4_drawerTold_58 ?_
          refine V_if_ne hx dX4_drawerTold_59 100 (by decide) (by first | assumption | exact hT _ _ | exact ⟨by omega, by omega⟩) (fun h59 => ?_) (fun h59 => ?_)
          · refine V_iconst hx dX4_drawerTold_100 ?_
            refine V_iadd hx dX4_drawerTold_101 ?_
            refine V_istore_n hx dX4_drawerTold_102 [(3, .int (iZ ((sm i (dtF T d what)) + 0))), (4, .int (iZ ((i : Int)))), (0, .ref (md 0)), (1, .int (iZ (d))), (2, .int (iZ (what)))] (by decide) rfl ?_
            refine V_iincN hx dX4_drawerTold_103 1 rfl [(4, .int (iZ (((i + 1 : Nat) : Int)))), (3, .int (iZ ((sm i (dtF T d what)) + 0))), (0, .ref (md 0)), (1, .int (iZ (d))), (2, .int (iZ (what)))] (by decide) rfl ?_
            refine V_goto hx dX4_drawerTold_106 36 (by decide) ?_
            refine V_sub (lv' := [(4, .int (iZ (((i + 1 : Nat) : Int)))), (3, .int (iZ ((sm i (dtF T d what)) + 0))), (0, .ref (md 0)), (1, .int (iZ (d))), (2, .int (iZ (what)))]) [0, 1, 2, 3, 4] rfl ?_
            refine V_lv (lv' := [(4, .int (iZ ((i + 1 : Nat) : Int))), (3, .int (iZ (sm (i + 1) (dtF T d what)))), (0, .ref (md 0)), (1, .int (iZ d)), (2, .int (iZ what))]) (by simp only [sm]; rw [dtF_0 (by omega)]) ?_
            exact ih (i + 1) (by omega) (by omega)
          · refine V_iload_n hx dX4_drawerTold_62 4 rfl ?_
            refine V_iconst hx dX4_drawerTold_63 ?_
            refine V_icmp_ne hx dX4_drawerTold_64 77 (by decide) (by first | assumption | exact hT _ _ | exact ⟨by omega, by omega⟩) ⟨by decide, by decide⟩ (fun h64 => ?_) (fun h64 => ?_)
            · refine V_aload_n hx dX4_drawerTold_77 2 rfl ?_
              refine gf_X4_10 hx 0 RW_o rfl dX4_drawerTold_78 ?_
              refine gf_X4_96 hx (iy 0 0) (RW_s hk) rfl dX4_drawerTold_81 ?_
              refine V_bipush hx dX4_drawerTold_84 rfl ?_
              refine V_iload hx dX4_drawerTold_86 0 rfl ?_
              refine V_imul hx dX4_drawerTold_88 ?_
              refine V_iload_n hx dX4_drawerTold_89 3 rfl ?_
              refine V_iadd hx dX4_drawerTold_90 ?_
              refine V_iald hx (by omega) (by omega) (by decide) (iy 0 10) (RW_a hk 10 (by decide) (n := 48) rfl) (v := R 10 (8 * i + d.toNat)) (by show iZ _ = iZ _; rw [show Int.toNat ((8 * (i : Int)) + d) = 8 * i + d.toNat by omega] <;> rfl) dX4_drawerTold_91 ?_
              refine V_iconst hx dX4_drawerTold_92 ?_
              refine V_icmp_eq hx dX4_drawerTold_93 100 (by decide) (by first | assumption | exact hT _ _ | exact ⟨by omega, by omega⟩) ⟨by decide, by decide⟩ (fun h93 => ?_) (fun h93 => ?_)
              · refine V_iconst hx dX4_drawerTold_100 ?_
                refine V_iadd hx dX4_drawerTold_101 ?_
                refine V_istore_n hx dX4_drawerTold_102 [(3, .int (iZ ((sm i (dtF T d what)) + 0))), (4, .int (iZ ((i : Int)))), (0, .ref (md 0)), (1, .int (iZ (d))), (2, .int (iZ (what)))] (by decide) rfl ?_
                refine V_iincN hx dX4_drawerTold_103 1 rfl [(4, .int (iZ (((i + 1 : Nat) : Int)))), (3, .int (iZ ((sm i (dtF T d what)) + 0))), (0, .ref (md 0)), (1, .int (iZ (d))), (2, .int (iZ (what)))] (by decide) rfl ?_
                refine V_goto hx dX4_drawerTold_106 36 (by decide) ?_
                refine V_sub (lv' := [(4, .int (iZ (((i + 1 : Nat) : Int)))), (3, .int (iZ ((sm i (dtF T d what)) + 0))), (0, .ref (md 0)), (1, .int (iZ (d))), (2, .int (iZ (what)))]) [0, 1, 2, 3, 4] rfl ?_
                refine V_lv (lv' := [(4, .int (iZ ((i + 1 : Nat) : Int))), (3, .int (iZ (sm (i + 1) (dtF T d what)))), (0, .ref (md 0)), (1, .int (iZ d)), (2, .int (iZ what))]) (by simp only [sm]; rw [dtF_0 (by omega)]) ?_
                exact ih (i + 1) (by omega) (by omega)
              · refine V_iconst hx dX4_drawerTold_96 ?_
                refine V_goto hx dX4_drawerTold_97 101 (by decide) ?_
                refine V_iadd hx dX4_drawerTold_101 ?_
                refine V_istore_n hx dX4_drawerTold_102 [(3, .int (iZ ((sm i (dtF T d what)) + 1))), (4, .int (iZ ((i : Int)))), (0, .ref (md 0)), (1, .int (iZ (d))), (2, .int (iZ (what)))] (by decide) rfl ?_
                refine V_iincN hx dX4_drawerTold_103 1 rfl [(4, .int (iZ (((i + 1 : Nat) : Int)))), (3, .int (iZ ((sm i (dtF T d what)) + 1))), (0, .ref (md 0)), (1, .int (iZ (d))), (2, .int (iZ (what)))] (by decide) rfl ?_
                refine V_goto hx dX4_drawerTold_106 36 (by decide) ?_
                refine V_sub (lv' := [(4, .int (iZ (((i + 1 : Nat) : Int)))), (3, .int (iZ ((sm i (dtF T d what)) + 1))), (0, .ref (md 0)), (1, .int (iZ (d))), (2, .int (iZ (what)))]) [0, 1, 2, 3, 4] rfl ?_
                refine V_lv (lv' := [(4, .int (iZ ((i + 1 : Nat) : Int))), (3, .int (iZ (sm (i + 1) (dtF T d what)))), (0, .ref (md 0)), (1, .int (iZ d)), (2, .int (iZ what))]) (by simp only [sm]; rw [dtF_1 (by omega)]) ?_
                exact ih (i + 1) (by omega) (by omega)
            · refine V_aload_n hx dX4_drawerTold_67 2 rfl ?_
              refine gf_X4_10 hx 0 RW_o rfl dX4_drawerTold_68 ?_
              refine gf_X4_93 hx (iy 0 0) (RW_s hk) rfl dX4_drawerTold_71 ?_
              refine V_goto hx dX4_drawerTold_74 84 (by decide) ?_
              refine V_bipush hx dX4_drawerTold_84 rfl ?_
              refine V_iload hx dX4_drawerTold_86 0 rfl ?_
              refine V_imul hx dX4_drawerTold_88 ?_
              refine V_iload_n hx dX4_drawerTold_89 3 rfl ?_
              refine V_iadd hx dX4_drawerTold_90 ?_
              refine V_iald hx (by omega) (by omega) (by decide) (iy 0 8) (RW_a hk 8 (by decide) (n := 48) rfl) (v := R 8 (8 * i + d.toNat)) (by show iZ _ = iZ _; rw [show Int.toNat ((8 * (i : Int)) + d) = 8 * i + d.toNat by omega] <;> rfl) dX4_drawerTold_91 ?_
              refine V_iconst hx dX4_drawerTold_92 ?_
              refine V_icmp_eq hx dX4_drawerTold_93 100 (by decide) (by first | assumption | exact hT _ _ | exact ⟨by omega, by omega⟩) ⟨by decide, by decide⟩ (fun h93_2 => ?_) (fun h93_2 => ?_)
              · refine V_iconst hx dX4_drawerTold_100 ?_
                refine V_iadd hx dX4_drawerTold_101 ?_
                refine V_istore_n hx dX4_drawerTold_102 [(3, .int (iZ ((sm i (dtF T d what)) + 0))), (4, .int (iZ ((i : Int)))), (0, .ref (md 0)), (1, .int (iZ (d))), (2, .int (iZ (what)))] (by decide) rfl ?_
                refine V_iincN hx dX4_drawerTold_103 1 rfl [(4, .int (iZ (((i + 1 : Nat) : Int)))), (3, .int (iZ ((sm i (dtF T d what)) + 0))), (0, .ref (md 0)), (1, .int (iZ (d))), (2, .int (iZ (what)))] (by decide) rfl ?_
                refine V_goto hx dX4_drawerTold_106 36 (by decide) ?_
                refine V_sub (lv' := [(4, .int (iZ (((i + 1 : Nat) : Int)))), (3, .int (iZ ((sm i (dtF T d what)) + 0))), (0, .ref (md 0)), (1, .int (iZ (d))), (2, .int (iZ (what)))]) [0, 1, 2, 3, 4] rfl ?_
                refine V_lv (lv' := [(4, .int (iZ ((i + 1 : Nat) : Int))), (3, .int (iZ (sm (i + 1) (dtF T d what)))), (0, .ref (md 0)), (1, .int (iZ d)), (2, .int (iZ what))]) (by simp only [sm]; rw [dtF_0 (by omega)]) ?_
                exact ih (i + 1) (by omega) (by omega)
              · refine V_iconst hx dX4_drawerTold_96 ?_
                refine V_goto hx dX4_drawerTold_97 101 (by decide) ?_
                refine V_iadd hx dX4_drawerTold_101 ?_
                refine V_istore_n hx dX4_drawerTold_102 [(3, .int (iZ ((sm i (dtF T d what)) + 1))), (4, .int (iZ ((i : Int)))), (0, .ref (md 0)), (1, .int (iZ (d))), (2, .int (iZ (what)))] (by decide) rfl ?_
                refine V_iincN hx dX4_drawerTold_103 1 rfl [(4, .int (iZ (((i + 1 : Nat) : Int)))), (3, .int (iZ ((sm i (dtF T d what)) + 1))), (0, .ref (md 0)), (1, .int (iZ (d))), (2, .int (iZ (what)))] (by decide) rfl ?_
                refine V_goto hx dX4_drawerTold_106 36 (by decide) ?_
                refine V_sub (lv' := [(4, .int (iZ (((i + 1 : Nat) : Int)))), (3, .int (iZ ((sm i (dtF T d what)) + 1))), (0, .ref (md 0)), (1, .int (iZ (d))), (2, .int (iZ (what)))]) [0, 1, 2, 3, 4] rfl ?_
                refine V_lv (lv' := [(4, .int (iZ ((i + 1 : Nat) : Int))), (3, .int (iZ (sm (i + 1) (dtF T d what)))), (0, .ref (md 0)), (1, .int (iZ d)), (2, .int (iZ what))]) (by simp only [sm]; rw [dtF_1 (by omega)]) ?_
                exact ih (i + 1) (by omega) (by omega)
    refine V_ws (ws' := RW g md h Q 0 R) rfl ?_
    exact V_sub [0, 1, 2, 3, 4] rfl (hL36 (nc T + 1) 0 (by omega) (by omega))
  · refine V_iload_n hx dX4_drawerTold_5 2 rfl ?_
    refine V_if_ne hx dX4_drawerTold_6 21 (by decide) (by first | assumption | exact hT _ _ | exact ⟨by omega, by omega⟩) (fun h6 => ?_) (fun h6 => ?_)
    · refine V_aload_n hx dX4_drawerTold_21 0 rfl ?_
      refine gf_X4_10 hx 0 RW_o rfl dX4_drawerTold_22 ?_
      refine gf_X4_90 hx (iy 0 0) (RW_s hk) rfl dX4_drawerTold_25 ?_
      refine V_iload_n hx dX4_drawerTold_28 1 rfl ?_
      refine V_iald hx (by omega) (by omega) (by decide) (iy 0 2) (RW_a hk 2 (by decide) (n := 8) rfl) (v := R 2 d.toNat) rfl dX4_drawerTold_29 ?_
      exact hE _ _ _ _ dX4_drawerTold_30 rfl ⟨by unfold drV; simp [*]; try omega, rfl⟩
    · refine V_aload_n hx dX4_drawerTold_9 0 rfl ?_
      refine gf_X4_10 hx 0 RW_o rfl dX4_drawerTold_10 ?_
      refine gf_X4_45 hx (iy 0 0) (RW_s hk) rfl dX4_drawerTold_13 ?_
      refine V_iload_n hx dX4_drawerTold_16 1 rfl ?_
      refine V_iald hx (by omega) (by omega) (by decide) (iy 0 1) (RW_a hk 1 (by decide) (n := 8) rfl) (v := R 1 d.toNat) rfl dX4_drawerTold_17 ?_
      refine V_goto hx dX4_drawerTold_18 30 (by decide) ?_
      exact hE _ _ _ _ dX4_drawerTold_30 rfl ⟨by unfold drV; simp [*]; try omega, rfl⟩
set_option maxHeartbeats 4000000 in
set_option maxRecDepth 100000 in
theorem z_slipTold (l : Launch) {g : GT} {md : Nat → Nat} {h : Int} {Q : Nat → TS} (R T : TS) {zz : Nat} (hR : RLz R T zz) (hn1 : 1 ≤ T 0 0) (hn8 : T 0 0 ≤ 8) {c : Int} (hc0 : 0 ≤ c) (hc1 : c < T 0 1) (hc6 : T 0 1 ≤ 6) {d : Int} (hd0 : 0 ≤ d) (hd1 : d < T 0 0) {what : Int} (hw0 : 0 ≤ what) (hw9 : what < 2147483648) : MI l yX4_slipTold cX4_slipTold 5 .int (rmN 0) g [.ref (md 0), .int (iZ (c)), .int (iZ (d)), .int (iZ (what))] (RW g md h Q 0 R) (fun z ws9 => z = slV T (7 + 8 * c.toNat) d what ∧ ws9 = RW g md h Q 0 R) := by
  refine MI.of (own := RX4) (by decide) rfl (Nat.le_of_ble_eq_true rfl) (fun x hx hE => ?_)
  have hk : 0 < 2 := by decide
  obtain ⟨hT, r00, r01, r02, r12, rcc⟩ := id hR.1
  obtain ⟨a1, a2, a3, a4, a5, a6⟩ := rcc c.toNat (by omega)
  obtain ⟨e8, e9, e10⟩ := a6 d.toNat (by omega)
  refine V_lv (lv' := [(0, .ref (md 0)), (1, .int (iZ (c))), (2, .int (iZ (d))), (3, .int (iZ (what)))]) rfl ?_
  refine V_bipush hx dX4_slipTold_0 rfl ?_
  refine V_iload_n hx dX4_slipTold_2 1 rfl ?_
  refine V_imul hx dX4_slipTold_3 ?_
  refine V_iload_n hx dX4_slipTold_4 2 rfl ?_
  refine V_iadd hx dX4_slipTold_5 ?_
  refine V_istore hx dX4_slipTold_6 [(4, .int (iZ ((8 * c) + d))), (0, .ref (md 0)), (1, .int (iZ (c))), (2, .int (iZ (d))), (3, .int (iZ (what)))] (by decide) rfl ?_
  refine V_iload_n hx dX4_slipTold_8 4 rfl ?_
  refine V_if_ne hx dX4_slipTold_9 25 (by decide) (by first | assumption | exact hT _ _ | exact ⟨by omega, by omega⟩) (fun h9 => ?_) (fun h9 => ?_)
  · refine V_iload_n hx dX4_slipTold_25 4 rfl ?_
    refine V_iconst hx dX4_slipTold_26 ?_
    refine V_icmp_ne hx dX4_slipTold_27 43 (by decide) (by first | assumption | exact hT _ _ | exact ⟨by omega, by omega⟩) ⟨by decide, by decide⟩ (fun h27 => ?_) (fun h27 => ?_)
    · refine V_aload_n hx dX4_slipTold_43 1 rfl ?_
      refine gf_X4_10 hx 0 RW_o rfl dX4_slipTold_44 ?_
      refine gf_X4_96 hx (iy 0 0) (RW_s hk) rfl dX4_slipTold_47 ?_
      refine V_iload hx dX4_slipTold_50 0 rfl ?_
      refine V_iald hx (by omega) (by omega) (by decide) (iy 0 10) (RW_a hk 10 (by decide) (n := 48) rfl) (v := R 10 (8 * c.toNat + d.toNat)) (by show iZ _ = iZ _; rw [show Int.toNat ((8 * c) + d) = 8 * c.toNat + d.toNat by omega] <;> rfl) dX4_slipTold_52 ?_
      exact hE _ _ _ _ dX4_slipTold_53 rfl ⟨by unfold slV; simp [*], rfl⟩
    · refine V_aload_n hx dX4_slipTold_30 1 rfl ?_
      refine gf_X4_10 hx 0 RW_o rfl dX4_slipTold_31 ?_
      refine gf_X4_116 hx (iy 0 0) (RW_s hk) rfl dX4_slipTold_34 ?_
      refine V_iload hx dX4_slipTold_37 0 rfl ?_
      refine V_iald hx (by omega) (by omega) (by decide) (iy 0 9) (RW_a hk 9 (by decide) (n := 48) rfl) (v := R 9 (8 * c.toNat + d.toNat)) (by show iZ _ = iZ _; rw [show Int.toNat ((8 * c) + d) = 8 * c.toNat + d.toNat by omega] <;> rfl) dX4_slipTold_39 ?_
      refine V_goto hx dX4_slipTold_40 53 (by decide) ?_
      exact hE _ _ _ _ dX4_slipTold_53 rfl ⟨by unfold slV; simp [*], rfl⟩
  · refine V_aload_n hx dX4_slipTold_12 1 rfl ?_
    refine gf_X4_10 hx 0 RW_o rfl dX4_slipTold_13 ?_
    refine gf_X4_93 hx (iy 0 0) (RW_s hk) rfl dX4_slipTold_16 ?_
    refine V_iload hx dX4_slipTold_19 0 rfl ?_
    refine V_iald hx (by omega) (by omega) (by decide) (iy 0 8) (RW_a hk 8 (by decide) (n := 48) rfl) (v := R 8 (8 * c.toNat + d.toNat)) (by show iZ _ = iZ _; rw [show Int.toNat ((8 * c) + d) = 8 * c.toNat + d.toNat by omega] <;> rfl) dX4_slipTold_21 ?_
    refine V_goto hx dX4_slipTold_22 53 (by decide) ?_
    exact hE _ _ _ _ dX4_slipTold_53 rfl ⟨by unfold slV; simp [*], rfl⟩
def W8 (T : TS) (c : Nat) : Prop := (T (7 + 8 * c) 2 = 0 ∨ T (7 + 8 * c) 2 = 1) ∧ sm (nd T) (rmF T (7 + 8 * c)) = sm 8 (rmF T (7 + 8 * c)) ∧ sm (nd T) (wrF T (7 + 8 * c)) = sm 8 (wrF T (7 + 8 * c))
set_option maxHeartbeats 4000000 in
set_option maxRecDepth 100000 in
theorem z_clerkTold (l : Launch) {g : GT} {md : Nat → Nat} {h : Int} {Q : Nat → TS} (R T : TS) {zz : Nat} (hR : RLz R T zz) (hn1 : 1 ≤ T 0 0) (hn8 : T 0 0 ≤ 8) {c : Int} (hc0 : 0 ≤ c) (hc1 : c < T 0 1) (hc6 : T 0 1 ≤ 6) {what : Int} (hw0 : 0 ≤ what) (hw9 : what < 2147483648) (hw8 : W8 T c.toNat) : MI l yX4_clerkTold cX4_clerkTold 3 .int (rmN 2) g [.ref (md 0), .int (iZ (c)), .int (iZ (what))] (RW g md h Q 0 R) (fun z ws9 => z = ckV T c what ∧ ws9 = RW g md h Q 0 R) := by
  refine MI.of (own := RX4) (by decide) rfl (Nat.le_of_ble_eq_true rfl) (fun x hx hE => ?_)
  have hk : 0 < 2 := by decide
  obtain ⟨hT, r00, r01, r02, r12, rcc⟩ := id hR.1
  obtain ⟨a1, a2, a3, a4, a5, a6⟩ := rcc c.toNat (by omega)
  obtain ⟨w81, w82, w83⟩ := id hw8
  refine V_lv (lv' := [(0, .ref (md 0)), (1, .int (iZ (c))), (2, .int (iZ (what)))]) rfl ?_
  refine V_iload_n hx dX4_clerkTold_0 2 rfl ?_
  by_cases h1_0 : what = 0
  · refine V_tabIn hx dX4_clerkTold_1 (by first | assumption | exact hT _ _ | exact ⟨by omega, by omega⟩) (by omega) (by omega) (off := 39) (by rw [h1_0]; rfl) 40 (by decide) ?_
    refine V_aload_n hx dX4_clerkTold_40 0 rfl ?_
    refine gf_X4_10 hx 0 RW_o rfl dX4_clerkTold_41 ?_
    refine gf_X4_66 hx (iy 0 0) (RW_s hk) rfl dX4_clerkTold_44 ?_
    refine V_iload_n hx dX4_clerkTold_47 1 rfl ?_
    refine V_iald hx (by omega) (by omega) (by decide) (iy 0 4) (RW_a hk 4 (by decide) (n := 6) rfl) (v := R 4 c.toNat) rfl dX4_clerkTold_48 ?_
    exact hE _ _ _ _ dX4_clerkTold_49 rfl ⟨by unfold ckV; simp [*], rfl⟩
  by_cases h1_1 : what = 1
  · refine V_tabIn hx dX4_clerkTold_1 (by first | assumption | exact hT _ _ | exact ⟨by omega, by omega⟩) (by omega) (by omega) (off := 49) (by rw [h1_1]; rfl) 50 (by decide) ?_
    refine V_aload_n hx dX4_clerkTold_50 0 rfl ?_
    refine gf_X4_10 hx 0 RW_o rfl dX4_clerkTold_51 ?_
    refine gf_X4_63 hx (iy 0 0) (RW_s hk) rfl dX4_clerkTold_54 ?_
    refine V_iload_n hx dX4_clerkTold_57 1 rfl ?_
    refine V_iald hx (by omega) (by omega) (by decide) (iy 0 5) (RW_a hk 5 (by decide) (n := 6) rfl) (v := R 5 c.toNat) rfl dX4_clerkTold_58 ?_
    exact hE _ _ _ _ dX4_clerkTold_59 rfl ⟨by unfold ckV; simp [*], rfl⟩
  by_cases h1_2 : what = 2
  · refine V_tabIn hx dX4_clerkTold_1 (by first | assumption | exact hT _ _ | exact ⟨by omega, by omega⟩) (by omega) (by omega) (off := 59) (by rw [h1_2]; rfl) 60 (by decide) ?_
    refine V_aload_n hx dX4_clerkTold_60 0 rfl ?_
    refine gf_X4_10 hx 0 RW_o rfl dX4_clerkTold_61 ?_
    refine gf_X4_60 hx (iy 0 0) (RW_s hk) rfl dX4_clerkTold_64 ?_
    refine V_iload_n hx dX4_clerkTold_67 1 rfl ?_
    refine V_iald hx (by omega) (by omega) (by decide) (iy 0 6) (RW_a hk 6 (by decide) (n := 6) rfl) (v := R 6 c.toNat) rfl dX4_clerkTold_68 ?_
    exact hE _ _ _ _ dX4_clerkTold_69 rfl ⟨by unfold ckV; rw [if_neg (by omega), if_neg (by omega), if_pos (by omega)]; rcases w81 with h9 | h9; exact (a3.trans h9).trans (bz_f (fun h8 => h8 h9)).symm; exact (a3.trans h9).trans (bz_t (by omega)).symm, rfl⟩
  by_cases h1_3 : what = 3
  · refine V_tabIn hx dX4_clerkTold_1 (by first | assumption | exact hT _ _ | exact ⟨by omega, by omega⟩) (by omega) (by omega) (off := 69) (by rw [h1_3]; rfl) 70 (by decide) ?_
    refine V_aload_n hx dX4_clerkTold_70 0 rfl ?_
    refine gf_X4_10 hx 0 RW_o rfl dX4_clerkTold_71 ?_
    refine gf_X4_103 hx (iy 0 0) (RW_s hk) rfl dX4_clerkTold_74 ?_
    refine V_iload_n hx dX4_clerkTold_77 1 rfl ?_
    refine V_iald hx (by omega) (by omega) (by decide) (iy 0 7) (RW_a hk 7 (by decide) (n := 6) rfl) (v := R 7 c.toNat) rfl dX4_clerkTold_78 ?_
    exact hE _ _ _ _ dX4_clerkTold_79 rfl ⟨by unfold ckV; simp [*], rfl⟩
  by_cases h1_4 : what = 4
  · refine V_tabIn hx dX4_clerkTold_1 (by first | assumption | exact hT _ _ | exact ⟨by omega, by omega⟩) (by omega) (by omega) (off := 79) (by rw [h1_4]; rfl) 80 (by decide) ?_
    refine V_aload_n hx dX4_clerkTold_80 0 rfl ?_
    refine V_aload_n hx dX4_clerkTold_81 0 rfl ?_
    refine gf_X4_10 hx 0 RW_o rfl dX4_clerkTold_82 ?_
    refine gf_X4_93 hx (iy 0 0) (RW_s hk) rfl dX4_clerkTold_85 ?_
    refine V_iload_n hx dX4_clerkTold_88 1 rfl ?_
    refine V_calli hx (z_many_had l R T hR (by omega) (by omega) (c := c) (by omega) (by omega) (by omega)) cw_X4_106 (RMn (by decide) (by decide)) rfl 0 RW_o rfl rfl (Nat.le_of_ble_eq_true rfl) dX4_clerkTold_89 0 0 rfl rfl (fun z1 ws1 e1 => ?_)
    obtain ⟨rfl, rfl⟩ := e1
    exact hE _ _ _ _ dX4_clerkTold_92 rfl ⟨by unfold ckV; simp only [*]; simp, rfl⟩
  by_cases h1_5 : what = 5
  · refine V_tabIn hx dX4_clerkTold_1 (by first | assumption | exact hT _ _ | exact ⟨by omega, by omega⟩) (by omega) (by omega) (off := 92) (by rw [h1_5]; rfl) 93 (by decide) ?_
    refine V_aload_n hx dX4_clerkTold_93 0 rfl ?_
    refine V_aload_n hx dX4_clerkTold_94 0 rfl ?_
    refine gf_X4_10 hx 0 RW_o rfl dX4_clerkTold_95 ?_
    refine gf_X4_96 hx (iy 0 0) (RW_s hk) rfl dX4_clerkTold_98 ?_
    refine V_iload_n hx dX4_clerkTold_101 1 rfl ?_
    refine V_calli hx (z_many_own l R T hR (by omega) (by omega) (c := c) (by omega) (by omega) (by omega)) cw_X4_106 (RMn (by decide) (by decide)) rfl 0 RW_o rfl rfl (Nat.le_of_ble_eq_true rfl) dX4_clerkTold_102 0 0 rfl rfl (fun z2 ws2 e2 => ?_)
    obtain ⟨rfl, rfl⟩ := e2
    exact hE _ _ _ _ dX4_clerkTold_105 rfl ⟨by unfold ckV; simp only [*]; simp, rfl⟩
  refine V_tabOut hx dX4_clerkTold_1 (by first | assumption | exact hT _ _ | exact ⟨by omega, by omega⟩) (by omega) 106 (by decide) ?_
  refine V_aload_n hx dX4_clerkTold_106 0 rfl ?_
  refine gf_X4_10 hx 0 RW_o rfl dX4_clerkTold_107 ?_
  refine gf_X4_60 hx (iy 0 0) (RW_s hk) rfl dX4_clerkTold_110 ?_
  refine V_iload_n hx dX4_clerkTold_113 1 rfl ?_
  refine V_iald hx (by omega) (by omega) (by decide) (iy 0 6) (RW_a hk 6 (by decide) (n := 6) rfl) (v := R 6 c.toNat) rfl dX4_clerkTold_114 ?_
  refine V_if_ne hx dX4_clerkTold_115 133 (by decide) (by first | assumption | exact hT _ _ | exact ⟨by omega, by omega⟩) (fun h115 => ?_) (fun h115 => ?_)
  · refine V_iconst hx dX4_clerkTold_133 ?_
    exact hE _ _ _ _ dX4_clerkTold_134 rfl ⟨by unfold ckV loF; rw [if_neg (by omega), if_neg (by omega), if_neg (by omega), if_neg (by omega), if_neg (by omega), if_neg (by omega)]; first | exact (bz_t ⟨by omega, h126⟩).symm | exact (bz_f (fun h9 => h126 h9.2)).symm | exact (bz_f (fun h9 => h115 (by omega))).symm, rfl⟩
  · refine V_aload_n hx dX4_clerkTold_118 0 rfl ?_
    refine gf_X4_10 hx 0 RW_o rfl dX4_clerkTold_119 ?_
    refine V_iload_n hx dX4_clerkTold_122 1 rfl ?_
    refine V_calli hx (y_wouldLose l hk R T hR (by omega) (by omega) (c := c) (by omega) (by omega) (by omega)) cw_X4_110 (RMn (by decide) (by decide)) rfl (iy 0 0) (RW_s hk) rfl rfl (Nat.le_of_ble_eq_true rfl) dX4_clerkTold_123 0 0 rfl rfl (fun z3 ws3 e3 => ?_)
    obtain ⟨rfl, rfl⟩ := e3
    refine V_ifb_eq hx dX4_clerkTold_126 133 (by decide) (fun h126 => ?_) (fun h126 => ?_)
    · refine V_iconst hx dX4_clerkTold_133 ?_
      exact hE _ _ _ _ dX4_clerkTold_134 rfl ⟨by unfold ckV loF; rw [if_neg (by omega), if_neg (by omega), if_neg (by omega), if_neg (by omega), if_neg (by omega), if_neg (by omega)]; first | exact (bz_t ⟨by omega, h126⟩).symm | exact (bz_f (fun h9 => h126 h9.2)).symm | exact (bz_f (fun h9 => h115 (by omega))).symm, rfl⟩
    · refine V_iconst hx dX4_clerkTold_129 ?_
      refine V_goto hx dX4_clerkTold_130 134 (by decide) ?_
      exact hE _ _ _ _ dX4_clerkTold_134 rfl ⟨by unfold ckV loF; rw [if_neg (by omega), if_neg (by omega), if_neg (by omega), if_neg (by omega), if_neg (by omega), if_neg (by omega)]; first | exact (bz_t ⟨by omega, h126⟩).symm | exact (bz_f (fun h9 => h126 h9.2)).symm | exact (bz_f (fun h9 => h115 (by omega))).symm, rfl⟩
