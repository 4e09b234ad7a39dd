/-! the reference's state: turns and rounds -/
theorem clT_02 {T : TS} {q : Nat} {c : Int} (hq : isQ q) : clT T q c 0 2 = T 0 2 + 1 := by
  have hq7 := hq.1
  unfold clT
  rw [kcT_ne (by omega), pt_ne _ _ (Or.inl (by omega)), clL_ne (by omega) (by omega), pt_at]
def MOK (T : TS) (q : Nat) : Prop := TKm T q ∧ sm (nd T) (wrF T q) = sm 8 (wrF T q)
set_option maxHeartbeats 4000000 in
set_option maxRecDepth 100000 in
theorem y_turn (l : Launch) {g : GT} {md : Nat → Nat} {h : Int} {Q : Nat → TS} {k : Nat} (hk : k < 2) (R T : TS) {zz : Nat} (hR : RLz R T zz) (hzz : (zz : Int) = T 0 2) {c : Int} (hc0 : 0 ≤ c) (hc1 : c < T 0 1) (hc6 : T 0 1 ≤ 6) (hk0 : TKok T (7 + 8 * c.toNat)) (hkm : MOK T (7 + 8 * c.toNat)) : MI l yX3_turn cX3_turn 2 .int (rmN 4) g [.ref (md (iy k 0)), .int (iZ (c))] (RW g md h Q k R) (fun z ws9 => z = tkV T c.toNat ∧ ∃ R9, REL R9 (tkT T c.toNat) ∧ ws9 = RW g md h Q k R9) := by
  refine MI.of (own := RX3) (by decide) rfl (Nat.le_of_ble_eq_true rfl) (fun x hx hE => ?_)
  obtain ⟨hT, r00, r01, r02, r12, rcc⟩ := id hR.1
  obtain ⟨a1, a2, a3, a4, a5, a6⟩ := rcc c.toNat (by omega)
  obtain ⟨⟨kn0, kn8⟩, ⟨kp0, ks8⟩, kst, kv4, ⟨kl0, kl9⟩, ⟨kc0, kc9⟩⟩ := id hk0
  obtain ⟨hkt, hkw⟩ := id hkm
  refine V_lv (lv' := [(0, .ref (md (iy k 0))), (1, .int (iZ (c)))]) rfl ?_
  refine V_aload_n hx dX3_turn_0 0 rfl ?_
  refine gf_X3_28 hx (iy k 0) (RW_s hk) rfl dX3_turn_1 ?_
  refine V_iload_n hx dX3_turn_4 1 rfl ?_
  refine V_iald hx (by omega) (by omega) (by decide) (iy k 5) (RW_a hk 5 (by decide) (n := 6) rfl) (v := R 5 c.toNat) rfl dX3_turn_5 ?_
  refine V_aload_n hx dX3_turn_6 0 rfl ?_
  refine gf_X3_25 hx (iy k 0) (RW_s hk) rfl dX3_turn_7 ?_
  refine V_iload_n hx dX3_turn_10 1 rfl ?_
  refine V_iald hx (by omega) (by omega) (by decide) (iy k 4) (RW_a hk 4 (by decide) (n := 6) rfl) (v := R 4 c.toNat) rfl dX3_turn_11 ?_
  refine V_icmp_ge hx dX3_turn_12 38 (by decide) (by first | assumption | exact hT _ _ | exact ⟨by omega, by omega⟩) (by first | assumption | exact hT _ _ | exact ⟨by omega, by omega⟩) (fun h12 => ?_) (fun h12 => ?_)
  · refine V_aload_n hx dX3_turn_38 0 rfl ?_
    refine V_iload_n hx dX3_turn_39 1 rfl ?_
    refine V_calli hx (y_wouldLose l hk R T hR (by omega) (by omega) (c := c) (by omega) (by omega) (by omega)) cw_X3_106 (RMn (by decide) (by decide)) rfl (iy k 0) (RW_s hk) rfl rfl (Nat.le_of_ble_eq_true rfl) dX3_turn_40 0 0 rfl rfl (fun z1 ws1 e1 => ?_)
    obtain ⟨rfl, rfl⟩ := e1
    refine V_ifb_eq hx dX3_turn_43 63 (by decide) (fun h43 => ?_) (fun h43 => ?_)
    · refine V_aload_n hx dX3_turn_63 0 rfl ?_
      refine V_iload_n hx dX3_turn_64 1 rfl ?_
      refine V_callv hx (y_close l hk R T hR (by omega) (by omega) (c := c) (by omega) (by omega) (by omega) kv4 (by omega) (by omega) hzz hkw) cw_X3_110 (RMn (by decide) (by decide)) rfl (iy k 0) (RW_s hk) rfl rfl (Nat.le_of_ble_eq_true rfl) dX3_turn_65 0 0 rfl rfl (fun ws2 e2 => ?_)
      obtain ⟨R2, hR2, rfl⟩ := e2
      refine V_iconst hx dX3_turn_68 ?_
      exact hE _ _ _ _ dX3_turn_69 rfl ⟨by unfold tkV; rw [if_neg (by omega), if_neg (by rw [bz_f h43]; decide)], _, (show tkT T c.toNat = clT T (7 + 8 * c.toNat) c from by unfold tkT; rw [if_neg (by omega), if_neg (by rw [bz_f h43]; decide), show ((c.toNat : Nat) : Int) = c by omega]) ▸ rel_of hR2 (by rw [clT_02 (isQ_c (by omega))]; omega), rfl⟩
    · refine V_aload_n hx dX3_turn_46 0 rfl ?_
      refine gf_X3_34 hx (iy k 0) (RW_s hk) rfl dX3_turn_47 ?_
      refine V_iload_n hx dX3_turn_50 1 rfl ?_
      refine V_dup2 hx dX3_turn_51 rfl rfl ?_
      refine V_iald hx (by omega) (by omega) (by decide) (iy k 7) (RW_a hk 7 (by decide) (n := 6) rfl) (v := R 7 c.toNat) rfl dX3_turn_52 ?_
      refine V_top (b := T (7 + 8 * c.toNat) 3) (a4) ?_
      refine V_iconst hx dX3_turn_53 ?_
      refine V_iadd hx dX3_turn_54 ?_
      refine V_iast hx (by omega) (by omega) (by decide) (iy k 7) (RW_a hk 7 (by decide) (n := 6) rfl) (RW g md h Q k (pt R (7) (c.toNat) ((T (7 + 8 * c.toNat) 3) + 1))) (RW_sa (by decide) rfl) dX3_turn_55 ?_
      refine V_aload_n hx dX3_turn_56 0 rfl ?_
      refine V_iload_n hx dX3_turn_57 1 rfl ?_
      refine V_callv hx (y_clear l hk (pt R (7) (c.toNat) ((T (7 + 8 * c.toNat) 3) + 1)) (c := c) (by omega) (by omega)) cw_X3_71 (RMn (by decide) (by decide)) rfl (iy k 0) (RW_s hk) rfl rfl (Nat.le_of_ble_eq_true rfl) dX3_turn_58 0 0 rfl rfl (fun ws3 e3 => ?_)
      subst e3
      refine V_iconst hx dX3_turn_61 ?_
      exact hE _ _ _ _ dX3_turn_62 rfl ⟨by unfold tkV; rw [if_neg (by omega), if_pos (bz_t h43)], _, (show tkT T c.toNat = soT (pt T (7 + 8 * c.toNat) 3 (T (7 + 8 * c.toNat) 3 + 1)) (7 + 8 * c.toNat) 8 from by unfold tkT; rw [if_neg (by omega), if_pos (bz_t h43)]) ▸ rel_of (rz_clear (rz_lost (v := T (7 + 8 * c.toNat) 3 + 1) hR ⟨by omega, by omega⟩)) (by rw [soT_ne (by omega), pt_ne _ _ (Or.inl (by omega))]; exact hzz), rfl⟩
  · obtain ⟨⟨ke1, ke2⟩, ⟨ke3, ke4⟩, ⟨ke5, ke6⟩⟩ := kst (by omega)
    obtain ⟨km1, km2, km3⟩ := hkt (by omega)
    refine V_aload_n hx dX3_turn_15 0 rfl ?_
    refine V_iload_n hx dX3_turn_16 1 rfl ?_
    refine V_aload_n hx dX3_turn_17 0 rfl ?_
    refine gf_X3_28 hx (iy k 0) (RW_s hk) rfl dX3_turn_18 ?_
    refine V_iload_n hx dX3_turn_21 1 rfl ?_
    refine V_iald hx (by omega) (by omega) (by decide) (iy k 5) (RW_a hk 5 (by decide) (n := 6) rfl) (v := R 5 c.toNat) rfl dX3_turn_22 ?_
    refine V_top (b := T (7 + 8 * c.toNat) 1) (a2) ?_
    refine V_callv hx (y_act l hk R T hR (c := c) (by omega) (by omega) (by omega) (j := T (7 + 8 * c.toNat) 1) (by omega) (by omega) (by omega) kv4 (by omega) (by omega) (by omega) (by omega) (by omega) (by omega) km1 km2 km3) cw_X3_103 (RMn (by decide) (by decide)) rfl (iy k 0) (RW_s hk) rfl rfl (Nat.le_of_ble_eq_true rfl) dX3_turn_23 0 0 rfl rfl (fun ws4 e4 => ?_)
    obtain ⟨R4, hR4, rfl⟩ := e4
    refine V_aload_n hx dX3_turn_26 0 rfl ?_
    refine gf_X3_28 hx (iy k 0) (RW_s hk) rfl dX3_turn_27 ?_
    refine V_iload_n hx dX3_turn_30 1 rfl ?_
    refine V_dup2 hx dX3_turn_31 rfl rfl ?_
    refine V_iald hx (by omega) (by omega) (by decide) (iy k 5) (RW_a hk 5 (by decide) (n := 6) rfl) (v := R4 5 c.toNat) rfl dX3_turn_32 ?_
    refine V_top (b := T (7 + 8 * c.toNat) 1) (by have h9 := hR4.1.2.2.2.2.2 c.toNat (by rw [dsT_ne (by omega) (by omega) (by omega)]; omega); rw [h9.2.1, dsT_ne (by omega) (by omega) (by omega)]) ?_
    refine V_iconst hx dX3_turn_33 ?_
    refine V_iadd hx dX3_turn_34 ?_
    refine V_iast hx (by omega) (by omega) (by decide) (iy k 5) (RW_a hk 5 (by decide) (n := 6) rfl) (RW g md h Q k (pt R4 (5) (c.toNat) ((T (7 + 8 * c.toNat) 1) + 1))) (RW_sa (by decide) rfl) dX3_turn_35 ?_
    refine V_iconst hx dX3_turn_36 ?_
    exact hE _ _ _ _ dX3_turn_37 rfl ⟨by unfold tkV; rw [if_pos (by omega)], _, (show tkT T c.toNat = pt (dsT T (7 + 8 * c.toNat) (T (7 + 8 * c.toNat) 1).toNat) (7 + 8 * c.toNat) 1 (T (7 + 8 * c.toNat) 1 + 1) from by unfold tkT; rw [if_pos (by omega)]) ▸ rel_of (rz_place hR4 ⟨by omega, by omega⟩) (by rw [pt_ne _ _ (Or.inl (by omega)), dsT_ne (by omega) (by omega) (by omega)]; exact hzz), rfl⟩
set_option maxHeartbeats 4000000 in
set_option maxRecDepth 100000 in
theorem y_round (l : Launch) {g : GT} {md : Nat → Nat} {h : Int} {Q : Nat → TS} {k : Nat} (hk : k < 2) (R T : TS) {zz : Nat} (hR : RLz R T zz) (hzz : (zz : Int) = T 0 2) (hG : GRok T) (hGm : ∀ c : Nat, (c : Int) < T 0 1 → MOK (gr T c).1 (7 + 8 * c)) : MI l yX3_round cX3_round 3 .int (rmN 5) g [.ref (md (iy k 0))] (RW g md h Q k R) (fun z ws9 => z = (gr T (nc T)).2 ∧ ∃ R9, REL R9 (gr T (nc T)).1 ∧ ws9 = RW g md h Q k R9) := by
  refine MI.of (own := RX3) (by decide) rfl (Nat.le_of_ble_eq_true rfl) (fun x hx hE => ?_)
  obtain ⟨hT, r00, r01, r02, r12, rcc⟩ := id hR.1
  obtain ⟨-, ⟨gc0, gc6⟩, hN, hGi⟩ := id hG
  have hnc : ((nc T : Nat) : Int) = T 0 1 := Int.toNat_of_nonneg (by omega)
  refine V_lv (lv' := [(0, .ref (md (iy k 0)))]) rfl ?_
  refine V_iconst hx dX3_round_0 ?_
  refine V_istore_n hx dX3_round_1 [(1, .int (iZ (0))), (0, .ref (md (iy k 0)))] (by decide) rfl ?_
  refine V_iconst hx dX3_round_2 ?_
  refine V_istore_n hx dX3_round_3 [(2, .int (iZ (0))), (1, .int (iZ (0))), (0, .ref (md (iy k 0)))] (by decide) rfl ?_
  have hL4 : ∀ (n : Nat) (i : Nat) (R1 : TS), nc T < i + n → i ≤ nc T → (REL R1 (gr T i).1) → V x 0 0 (RW g md h Q k R1) 4 [(2, .int (iZ ((i : Int)))), (1, .int (iZ ((gr T i).2))), (0, .ref (md (iy k 0)))] [] := by
    intro n
    induction n with
    | zero =>
      intro i R1 g1 g2 hR1
      exact absurd g1 (by omega)
    | succ n ih =>
      intro i R1 g1 g2 hR1
      have hNi := hN i
      have s01 : R1 0 1 = T 0 1 := by rw [hR1.1.2.2.1, hNi]
      refine V_iload_n hx dX3_round_4 0 rfl ?_
      refine V_aload_n hx dX3_round_5 2 rfl ?_
      refine gf_X3_61 hx (iy k 0) (RW_s hk) rfl dX3_round_6 ?_
      refine V_icmp_ge hx dX3_round_9 43 (by decide) ⟨by omega, by omega⟩ ⟨by omega, by omega⟩ (fun h9 => ?_) (fun h9 => ?_)
      · refine V_iload_n hx dX3_round_43 1 rfl ?_
        exact hE _ _ _ _ dX3_round_44 rfl (by rw [show i = nc T by omega] at hR1 ⊢; exact ⟨rfl, _, hR1, rfl⟩)
      · obtain ⟨hTi, hki⟩ := hGi i (by omega)
        have hmi := hGm i (by omega)
        have hzi : ((((gr T i).1 0 2).toNat : Nat) : Int) = (gr T i).1 0 2 := Int.toNat_of_nonneg hki.2.2.2.2.2.1
        refine V_aload_n hx dX3_round_12 2 rfl ?_
        refine V_iload_n hx dX3_round_13 0 rfl ?_
        refine V_calli hx (y_goesOn l hk R1 ((gr T i).1) hR1 (c := (i : Int)) (by omega) (by omega) (by omega)) cw_X3_113 (RMn (by decide) (by decide)) rfl (iy k 0) (RW_s hk) rfl rfl (Nat.le_of_ble_eq_true rfl) dX3_round_14 0 0 rfl rfl (fun z1 ws1 e1 => ?_)
        obtain ⟨rfl, rfl⟩ := e1
        refine V_top (b := bz (awP ((gr T i).1) i)) rfl ?_
        refine V_ifb_eq hx dX3_round_17 37 (by decide) (fun h17 => ?_) (fun h17 => ?_)
        · refine V_iincN hx dX3_round_37 0 rfl [(2, .int (iZ (((i + 1 : Nat) : Int)))), (1, .int (iZ ((gr T i).2))), (0, .ref (md (iy k 0)))] (by decide) rfl ?_
          refine V_goto hx dX3_round_40 4 (by decide) ?_
          refine V_sub (lv' := [(2, .int (iZ (((i + 1 : Nat) : Int)))), (1, .int (iZ ((gr T i).2))), (0, .ref (md (iy k 0)))]) [0, 1, 2] rfl ?_
          refine V_lv (lv' := [(2, .int (iZ ((i + 1 : Nat) : Int))), (1, .int (iZ ((gr T (i + 1)).2))), (0, .ref (md (iy k 0)))]) (by rw [gr_no h17]) ?_
          exact ih (i + 1) _ (by omega) (by omega) (by rw [gr_no h17]; exact hR1)
        · refine V_iload_n hx dX3_round_20 1 rfl ?_
          refine V_aload_n hx dX3_round_21 2 rfl ?_
          refine V_iload_n hx dX3_round_22 0 rfl ?_
          refine V_calli hx (y_turn l hk R1 ((gr T i).1) hR1 hzi (c := (i : Int)) (by omega) (by omega) (by omega) hki hmi) cw_X3_116 (RMn (by decide) (by decide)) rfl (iy k 0) (RW_s hk) rfl rfl (Nat.le_of_ble_eq_true rfl) dX3_round_23 0 0 rfl rfl (fun z2 ws2 e2 => ?_)
          obtain ⟨rfl, R2, hR2, rfl⟩ := e2
          refine V_iconst hx dX3_round_26 ?_
          refine V_icmp_ne hx dX3_round_27 34 (by decide) (rg_tkV _ _) ⟨by decide, by decide⟩ (fun h27 => ?_) (fun h27 => ?_)
          · refine V_iconst hx dX3_round_34 ?_
            refine V_iadd hx dX3_round_35 ?_
            refine V_istore_n hx dX3_round_36 [(1, .int (iZ (((gr T i).2) + 0))), (2, .int (iZ ((i : Int)))), (0, .ref (md (iy k 0)))] (by decide) rfl ?_
            refine V_iincN hx dX3_round_37 1 rfl [(2, .int (iZ (((i + 1 : Nat) : Int)))), (1, .int (iZ (((gr T i).2) + 0))), (0, .ref (md (iy k 0)))] (by decide) rfl ?_
            refine V_goto hx dX3_round_40 4 (by decide) ?_
            refine V_sub (lv' := [(2, .int (iZ (((i + 1 : Nat) : Int)))), (1, .int (iZ (((gr T i).2) + 0))), (0, .ref (md (iy k 0)))]) [0, 1, 2] rfl ?_
            refine V_lv (lv' := [(2, .int (iZ ((i + 1 : Nat) : Int))), (1, .int (iZ ((gr T (i + 1)).2))), (0, .ref (md (iy k 0)))]) (by rw [gr_yes h17, bz_f (show ¬ tkV (gr T i).1 i = 1 from h27)]) ?_
            exact ih (i + 1) _ (by omega) (by omega) (by rw [gr_yes h17]; exact hR2)
          · refine V_iconst hx dX3_round_30 ?_
            refine V_goto hx dX3_round_31 35 (by decide) ?_
            refine V_iadd hx dX3_round_35 ?_
            refine V_istore_n hx dX3_round_36 [(1, .int (iZ (((gr T i).2) + 1))), (2, .int (iZ ((i : Int)))), (0, .ref (md (iy k 0)))] (by decide) rfl ?_
            refine V_iincN hx dX3_round_37 1 rfl [(2, .int (iZ (((i + 1 : Nat) : Int)))), (1, .int (iZ (((gr T i).2) + 1))), (0, .ref (md (iy k 0)))] (by decide) rfl ?_
            refine V_goto hx dX3_round_40 4 (by decide) ?_
            refine V_sub (lv' := [(2, .int (iZ (((i + 1 : Nat) : Int)))), (1, .int (iZ (((gr T i).2) + 1))), (0, .ref (md (iy k 0)))]) [0, 1, 2] rfl ?_
            refine V_lv (lv' := [(2, .int (iZ ((i + 1 : Nat) : Int))), (1, .int (iZ ((gr T (i + 1)).2))), (0, .ref (md (iy k 0)))]) (by rw [gr_yes h17, bz_t (show tkV (gr T i).1 i = 1 from h27)]) ?_
            exact ih (i + 1) _ (by omega) (by omega) (by rw [gr_yes h17]; exact hR2)
  refine V_ws (ws' := _) rfl ?_
  exact V_sub [0, 1, 2] rfl (hL4 (nc T + 1) 0 _ (by omega) (by omega) (rel_of hR hzz))
set_option maxHeartbeats 4000000 in
set_option maxRecDepth 100000 in
theorem y_areDone (l : Launch) {g : GT} {md : Nat → Nat} {h : Int} {Q : Nat → TS} {k : Nat} (hk : k < 2) (R T : TS) {zz : Nat} (hR : RLz R T zz) (hc0 : 0 ≤ T 0 1) (hc6 : T 0 1 ≤ 6) : MI l yX3_areDone cX3_areDone 2 .boolean (rmN 1) g [.ref (md (iy k 0))] (RW g md h Q k R) (fun z ws9 => z = bz (¬ anP T) ∧ ws9 = RW g md h Q k R) := by
  refine MI.of (own := RX3) (by decide) rfl (Nat.le_of_ble_eq_true rfl) (fun x hx hE => ?_)
  obtain ⟨hT, r00, r01, r02, r12, rcc⟩ := id hR.1
  have hnc : ((nc T : Nat) : Int) = T 0 1 := Int.toNat_of_nonneg (by omega)
  refine V_lv (lv' := [(0, .ref (md (iy k 0)))]) rfl ?_
  refine V_iconst hx dX3_areDone_0 ?_
  refine V_istore_n hx dX3_areDone_1 [(1, .int (iZ (0))), (0, .ref (md (iy k 0)))] (by decide) rfl ?_
  have hL2 : ∀ (n : Nat) (i : Nat), nc T < i + n → i ≤ nc T → (∀ c, c < i → ¬ awP T c) → V x 0 0 (RW g md h Q k R) 2 [(1, .int (iZ ((i : Int)))), (0, .ref (md (iy k 0)))] [] := by
    intro n
    induction n with
    | zero =>
      intro i g1 g2 g3
      exact absurd g1 (by omega)
    | succ n ih =>
      intro i g1 g2 g3
      refine V_iload_n hx dX3_areDone_2 0 rfl ?_
      refine V_aload_n hx dX3_areDone_3 1 rfl ?_
      refine gf_X3_61 hx (iy k 0) (RW_s hk) rfl dX3_areDone_4 ?_
      refine V_icmp_ge hx dX3_areDone_7 26 (by decide) ⟨by omega, by omega⟩ (by first | assumption | exact hT _ _ | exact ⟨by omega, by omega⟩) (fun h7 => ?_) (fun h7 => ?_)
      · refine V_iconst hx dX3_areDone_26 ?_
        exact hE _ _ _ _ dX3_areDone_27 rfl ⟨(bz_t (fun h9 => h9.elim (fun d h8 => g3 d (by omega) h8.2))).symm, rfl⟩
      · refine V_aload_n hx dX3_areDone_10 1 rfl ?_
        refine V_iload_n hx dX3_areDone_11 0 rfl ?_
        refine V_calli hx (y_goesOn l hk R T hR (c := (i : Int)) (by omega) (by omega) (by omega)) cw_X3_113 (RMn (by decide) (by decide)) rfl (iy k 0) (RW_s hk) rfl rfl (Nat.le_of_ble_eq_true rfl) dX3_areDone_12 0 0 rfl rfl (fun z1 ws1 e1 => ?_)
        obtain ⟨rfl, rfl⟩ := e1
        refine V_top (b := bz (awP T i)) rfl ?_
        refine V_ifb_eq hx dX3_areDone_15 20 (by decide) (fun h15 => ?_) (fun h15 => ?_)
        · refine V_iincN hx dX3_areDone_20 0 rfl [(1, .int (iZ (((i + 1 : Nat) : Int)))), (0, .ref (md (iy k 0)))] (by decide) rfl ?_
          refine V_goto hx dX3_areDone_23 2 (by decide) ?_
          exact V_sub [0, 1] rfl (ih (i + 1) (by omega) (by omega) (lt_s g3 h15))
        · refine V_iconst hx dX3_areDone_18 ?_
          exact hE _ _ _ _ dX3_areDone_19 rfl ⟨(bz_f (fun h9 => h9 ⟨i, by omega, h15⟩)).symm, rfl⟩
  refine V_ws (ws' := RW g md h Q k R) rfl ?_
  exact V_sub [0, 1] rfl (hL2 (nc T + 1) 0 (by omega) (by omega) (fun d h9 => absurd h9 (Nat.not_lt_zero d)))
set_option maxHeartbeats 4000000 in
set_option maxRecDepth 100000 in
theorem y_counted (l : Launch) {g : GT} {md : Nat → Nat} {h : Int} {Q : Nat → TS} {k : Nat} (hk : k < 2) (R T : TS) {zz : Nat} (hR : RLz R T zz) (hn0 : 0 ≤ T 0 0) (hn8 : T 0 0 ≤ 8) (hc0 : 0 ≤ T 0 1) (hc6 : T 0 1 ≤ 6) (hdn : ∀ c : Nat, (c : Int) < T 0 1 → T (7 + 8 * c) 2 = 0 ∨ T (7 + 8 * c) 2 = 1) {what : Int} (hw0 : 0 ≤ what) (hwh : rg what) : MI l yX3_counted cX3_counted 6 .int (rmN 2) g [.ref (md (iy k 0)), .int (iZ (what))] (RW g md h Q k R) (fun z ws9 => z = cnV T what ∧ ws9 = RW g md h Q k R) := by
  refine MI.of (own := RX3) (by decide) rfl (Nat.le_of_ble_eq_true rfl) (fun x hx hE => ?_)
  obtain ⟨hT, r00, r01, r02, r12, rcc⟩ := id hR.1
  have hnc : ((nc T : Nat) : Int) = T 0 1 := Int.toNat_of_nonneg (by omega)
  refine V_lv (lv' := [(0, .ref (md (iy k 0))), (1, .int (iZ (what)))]) rfl ?_
  refine V_iconst hx dX3_counted_0 ?_
  refine V_istore_n hx dX3_counted_1 [(2, .int (iZ (0))), (0, .ref (md (iy k 0))), (1, .int (iZ (what)))] (by decide) rfl ?_
  refine V_iconst hx dX3_counted_2 ?_
  refine V_istore_n hx dX3_counted_3 [(3, .int (iZ (0))), (2, .int (iZ (0))), (0, .ref (md (iy k 0))), (1, .int (iZ (what)))] (by decide) rfl ?_
  refine V_iconst hx dX3_counted_4 ?_
  refine V_istore hx dX3_counted_5 [(4, .int (iZ (0))), (3, .int (iZ (0))), (2, .int (iZ (0))), (0, .ref (md (iy k 0))), (1, .int (iZ (what)))] (by decide) rfl ?_
  refine V_iconst hx dX3_counted_7 ?_
  refine V_istore hx dX3_counted_8 [(5, .int (iZ (0))), (4, .int (iZ (0))), (3, .int (iZ (0))), (2, .int (iZ (0))), (0, .ref (md (iy k 0))), (1, .int (iZ (what)))] (by decide) rfl ?_
  have hL10 : ∀ (n : Nat) (i : Nat), nc T < i + n → i ≤ nc T → V x 0 0 (RW g md h Q k R) 10 [(5, .int (iZ ((i : Int)))), (2, .int (iZ (sm i (dnF T)))), (3, .int (iZ (sm i (ltF T)))), (4, .int (iZ (sm i (loF T)))), (0, .ref (md (iy k 0))), (1, .int (iZ (what)))] [] := by
    intro n
    induction n with
    | zero =>
      intro i g1 g2 
      exact absurd g1 (by omega)
    | succ n ih =>
      intro i g1 g2 
      refine V_iload hx dX3_counted_10 0 rfl ?_
      refine V_aload_n hx dX3_counted_12 4 rfl ?_
      refine gf_X3_61 hx (iy k 0) (RW_s hk) rfl dX3_counted_13 ?_
      refine V_icmp_ge hx dX3_counted_16 74 (by decide) ⟨by omega, by omega⟩ (by first | assumption | exact hT _ _ | exact ⟨by omega, by omega⟩) (fun h16 => ?_) (fun h16 => ?_)
      · refine V_iload_n hx dX3_counted_74 5 rfl ?_
        by_cases h75_0 : what = 0
        · refine V_tabIn hx dX3_counted_75 (by first | assumption | exact hT _ _ | exact ⟨by omega, by omega⟩) (by omega) (by omega) (off := 37) (by rw [h75_0]; rfl) 112 (by decide) ?_
          refine V_aload_n hx dX3_counted_112 4 rfl ?_
          refine gf_X3_9 hx (iy k 0) (RW_s hk) rfl dX3_counted_113 ?_
          exact hE _ _ _ _ dX3_counted_116 rfl ⟨by unfold cnV; try rw [show nc T = i by omega]; simp [*], rfl⟩
        by_cases h75_1 : what = 1
        · refine V_tabIn hx dX3_counted_75 (by first | assumption | exact hT _ _ | exact ⟨by omega, by omega⟩) (by omega) (by omega) (off := 42) (by rw [h75_1]; rfl) 117 (by decide) ?_
          refine V_aload_n hx dX3_counted_117 4 rfl ?_
          refine gf_X3_61 hx (iy k 0) (RW_s hk) rfl dX3_counted_118 ?_
          exact hE _ _ _ _ dX3_counted_121 rfl ⟨by unfold cnV; try rw [show nc T = i by omega]; simp [*], rfl⟩
        by_cases h75_2 : what = 2
        · refine V_tabIn hx dX3_counted_75 (by first | assumption | exact hT _ _ | exact ⟨by omega, by omega⟩) (by omega) (by omega) (off := 47) (by rw [h75_2]; rfl) 122 (by decide) ?_
          refine V_iload_n hx dX3_counted_122 1 rfl ?_
          exact hE _ _ _ _ dX3_counted_123 rfl ⟨by unfold cnV; try rw [show nc T = i by omega]; simp [*], rfl⟩
        by_cases h75_3 : what = 3
        · refine V_tabIn hx dX3_counted_75 (by first | assumption | exact hT _ _ | exact ⟨by omega, by omega⟩) (by omega) (by omega) (off := 49) (by rw [h75_3]; rfl) 124 (by decide) ?_
          refine V_aload_n hx dX3_counted_124 4 rfl ?_
          refine gf_X3_64 hx (iy k 0) (RW_s hk) rfl dX3_counted_125 ?_
          exact hE _ _ _ _ dX3_counted_128 rfl ⟨by unfold cnV; try rw [show nc T = i by omega]; simp [*], rfl⟩
        by_cases h75_4 : what = 4
        · refine V_tabIn hx dX3_counted_75 (by first | assumption | exact hT _ _ | exact ⟨by omega, by omega⟩) (by omega) (by omega) (off := 54) (by rw [h75_4]; rfl) 129 (by decide) ?_
          refine V_iload_n hx dX3_counted_129 2 rfl ?_
          exact hE _ _ _ _ dX3_counted_130 rfl ⟨by unfold cnV; try rw [show nc T = i by omega]; simp [*], rfl⟩
        by_cases h75_5 : what = 5
        · refine V_tabIn hx dX3_counted_75 (by first | assumption | exact hT _ _ | exact ⟨by omega, by omega⟩) (by omega) (by omega) (off := 56) (by rw [h75_5]; rfl) 131 (by decide) ?_
          refine V_aload_n hx dX3_counted_131 4 rfl ?_
          refine V_calli hx (y_sum l hk R T hR (by omega) (by omega)) cw_X3_95 (RMn (by decide) (by decide)) rfl (iy k 0) (RW_s hk) rfl rfl (Nat.le_of_ble_eq_true rfl) dX3_counted_132 0 0 rfl rfl (fun z1 ws1 e1 => ?_)
          obtain ⟨rfl, rfl⟩ := e1
          exact hE _ _ _ _ dX3_counted_135 rfl ⟨by unfold cnV; try rw [show nc T = i by omega]; simp [*], rfl⟩
        refine V_tabOut hx dX3_counted_75 (by first | assumption | exact hT _ _ | exact ⟨by omega, by omega⟩) (by omega) 136 (by decide) ?_
        refine V_iload hx dX3_counted_136 3 rfl ?_
        exact hE _ _ _ _ dX3_counted_138 rfl ⟨by unfold cnV; try rw [show nc T = i by omega]; simp [*], rfl⟩
      · obtain ⟨a1, a2, a3, a4, a5, a6⟩ := rcc i (by omega)
        have hdi := hdn i (by omega)
        refine V_iload_n hx dX3_counted_19 1 rfl ?_
        refine V_aload_n hx dX3_counted_20 4 rfl ?_
        refine gf_X3_31 hx (iy k 0) (RW_s hk) rfl dX3_counted_21 ?_
        refine V_iload hx dX3_counted_24 0 rfl ?_
        refine V_iald hx (by omega) (by omega) (by decide) (iy k 6) (RW_a hk 6 (by decide) (n := 6) rfl) (v := R 6 i) rfl dX3_counted_26 ?_
        refine V_top (b := dnF T i) (by show R 6 i = bz (T (7 + 8 * i) 2 ≠ 0); rcases hdi with h9 | h9; exact (a3.trans h9).trans (bz_f (fun h8 => h8 h9)).symm; exact (a3.trans h9).trans (bz_t (by omega)).symm) ?_
        refine V_iadd hx dX3_counted_27 ?_
        refine V_istore_n hx dX3_counted_28 [(2, .int (iZ ((sm i (dnF T)) + (dnF T i)))), (5, .int (iZ ((i : Int)))), (3, .int (iZ (sm i (ltF T)))), (4, .int (iZ (sm i (loF T)))), (0, .ref (md (iy k 0))), (1, .int (iZ (what)))] (by decide) rfl ?_
        refine V_iload_n hx dX3_counted_29 2 rfl ?_
        refine V_aload_n hx dX3_counted_30 4 rfl ?_
        refine gf_X3_34 hx (iy k 0) (RW_s hk) rfl dX3_counted_31 ?_
        refine V_iload hx dX3_counted_34 1 rfl ?_
        refine V_iald hx (by omega) (by omega) (by decide) (iy k 7) (RW_a hk 7 (by decide) (n := 6) rfl) (v := R 7 i) rfl dX3_counted_36 ?_
        refine V_top (b := T (7 + 8 * i) 3) (a4) ?_
        refine V_iadd hx dX3_counted_37 ?_
        refine V_istore_n hx dX3_counted_38 [(3, .int (iZ ((sm i (ltF T)) + (T (7 + 8 * i) 3)))), (2, .int (iZ ((sm i (dnF T)) + (dnF T i)))), (5, .int (iZ ((i : Int)))), (4, .int (iZ (sm i (loF T)))), (0, .ref (md (iy k 0))), (1, .int (iZ (what)))] (by decide) rfl ?_
        refine V_iload hx dX3_counted_39 3 rfl ?_
        refine V_aload_n hx dX3_counted_41 4 rfl ?_
        refine gf_X3_31 hx (iy k 0) (RW_s hk) rfl dX3_counted_42 ?_
        refine V_iload hx dX3_counted_45 2 rfl ?_
        refine V_iald hx (by omega) (by omega) (by decide) (iy k 6) (RW_a hk 6 (by decide) (n := 6) rfl) (v := R 6 i) rfl dX3_counted_47 ?_
        refine V_if_ne hx dX3_counted_48 64 (by decide) (by first | assumption | exact hT _ _ | exact ⟨by omega, by omega⟩) (fun h48 => ?_) (fun h48 => ?_)
        · refine V_iconst hx dX3_counted_64 ?_
          refine V_iadd hx dX3_counted_65 ?_
          refine V_istore hx dX3_counted_66 [(4, .int (iZ ((sm i (loF T)) + 0))), (3, .int (iZ ((sm i (ltF T)) + (T (7 + 8 * i) 3)))), (2, .int (iZ ((sm i (dnF T)) + (dnF T i)))), (5, .int (iZ ((i : Int)))), (0, .ref (md (iy k 0))), (1, .int (iZ (what)))] (by decide) rfl ?_
          refine V_iincN hx dX3_counted_68 3 rfl [(5, .int (iZ (((i + 1 : Nat) : Int)))), (4, .int (iZ ((sm i (loF T)) + 0))), (3, .int (iZ ((sm i (ltF T)) + (T (7 + 8 * i) 3)))), (2, .int (iZ ((sm i (dnF T)) + (dnF T i)))), (0, .ref (md (iy k 0))), (1, .int (iZ (what)))] (by decide) rfl ?_
          refine V_goto hx dX3_counted_71 10 (by decide) ?_
          refine V_sub (lv' := [(5, .int (iZ (((i + 1 : Nat) : Int)))), (2, .int (iZ ((sm i (dnF T)) + (dnF T i)))), (3, .int (iZ ((sm i (ltF T)) + (T (7 + 8 * i) 3)))), (4, .int (iZ ((sm i (loF T)) + 0))), (0, .ref (md (iy k 0))), (1, .int (iZ (what)))]) [0, 3, 2, 1, 4, 5] rfl ?_
          refine V_lv (lv' := [(5, .int (iZ ((i + 1 : Nat) : Int))), (2, .int (iZ (sm (i + 1) (dnF T)))), (3, .int (iZ (sm (i + 1) (ltF T)))), (4, .int (iZ (sm (i + 1) (loF T)))), (0, .ref (md (iy k 0))), (1, .int (iZ what))]) (by first | simp only [sm, ltF, loF, bz_f (fun h9 : T (7 + 8 * i) 2 = 0 ∧ _ => h57 h9.2)] | simp only [sm, ltF, loF, bz_f (fun h9 : T (7 + 8 * i) 2 = 0 ∧ odP T (7 + 8 * i) (nd T) => h48 (by omega))]) ?_
          exact ih (i + 1) (by omega) (by omega)
        · refine V_aload_n hx dX3_counted_51 4 rfl ?_
          refine V_iload hx dX3_counted_52 2 rfl ?_
          refine V_calli hx (y_wouldLose l hk R T hR (by omega) (by omega) (c := (i : Int)) (by omega) (by omega) (by omega)) cw_X3_106 (RMn (by decide) (by decide)) rfl (iy k 0) (RW_s hk) rfl rfl (Nat.le_of_ble_eq_true rfl) dX3_counted_54 0 0 rfl rfl (fun z2 ws2 e2 => ?_)
          obtain ⟨rfl, rfl⟩ := e2
          refine V_top (b := bz (odP T (7 + 8 * i) (nd T))) rfl ?_
          refine V_ifb_eq hx dX3_counted_57 64 (by decide) (fun h57 => ?_) (fun h57 => ?_)
          · refine V_iconst hx dX3_counted_64 ?_
            refine V_iadd hx dX3_counted_65 ?_
            refine V_istore hx dX3_counted_66 [(4, .int (iZ ((sm i (loF T)) + 0))), (3, .int (iZ ((sm i (ltF T)) + (T (7 + 8 * i) 3)))), (2, .int (iZ ((sm i (dnF T)) + (dnF T i)))), (5, .int (iZ ((i : Int)))), (0, .ref (md (iy k 0))), (1, .int (iZ (what)))] (by decide) rfl ?_
            refine V_iincN hx dX3_counted_68 3 rfl [(5, .int (iZ (((i + 1 : Nat) : Int)))), (4, .int (iZ ((sm i (loF T)) + 0))), (3, .int (iZ ((sm i (ltF T)) + (T (7 + 8 * i) 3)))), (2, .int (iZ ((sm i (dnF T)) + (dnF T i)))), (0, .ref (md (iy k 0))), (1, .int (iZ (what)))] (by decide) rfl ?_
            refine V_goto hx dX3_counted_71 10 (by decide) ?_
            refine V_sub (lv' := [(5, .int (iZ (((i + 1 : Nat) : Int)))), (2, .int (iZ ((sm i (dnF T)) + (dnF T i)))), (3, .int (iZ ((sm i (ltF T)) + (T (7 + 8 * i) 3)))), (4, .int (iZ ((sm i (loF T)) + 0))), (0, .ref (md (iy k 0))), (1, .int (iZ (what)))]) [0, 3, 2, 1, 4, 5] rfl ?_
            refine V_lv (lv' := [(5, .int (iZ ((i + 1 : Nat) : Int))), (2, .int (iZ (sm (i + 1) (dnF T)))), (3, .int (iZ (sm (i + 1) (ltF T)))), (4, .int (iZ (sm (i + 1) (loF T)))), (0, .ref (md (iy k 0))), (1, .int (iZ what))]) (by first | simp only [sm, ltF, loF, bz_f (fun h9 : T (7 + 8 * i) 2 = 0 ∧ _ => h57 h9.2)] | simp only [sm, ltF, loF, bz_f (fun h9 : T (7 + 8 * i) 2 = 0 ∧ odP T (7 + 8 * i) (nd T) => h48 (by omega))]) ?_
            exact ih (i + 1) (by omega) (by omega)
          · refine V_iconst hx dX3_counted_60 ?_
            refine V_goto hx dX3_counted_61 65 (by decide) ?_
            refine V_iadd hx dX3_counted_65 ?_
            refine V_istore hx dX3_counted_66 [(4, .int (iZ ((sm i (loF T)) + 1))), (3, .int (iZ ((sm i (ltF T)) + (T (7 + 8 * i) 3)))), (2, .int (iZ ((sm i (dnF T)) + (dnF T i)))), (5, .int (iZ ((i : Int)))), (0, .ref (md (iy k 0))), (1, .int (iZ (what)))] (by decide) rfl ?_
            refine V_iincN hx dX3_counted_68 3 rfl [(5, .int (iZ (((i + 1 : Nat) : Int)))), (4, .int (iZ ((sm i (loF T)) + 1))), (3, .int (iZ ((sm i (ltF T)) + (T (7 + 8 * i) 3)))), (2, .int (iZ ((sm i (dnF T)) + (dnF T i)))), (0, .ref (md (iy k 0))), (1, .int (iZ (what)))] (by decide) rfl ?_
            refine V_goto hx dX3_counted_71 10 (by decide) ?_
            refine V_sub (lv' := [(5, .int (iZ (((i + 1 : Nat) : Int)))), (2, .int (iZ ((sm i (dnF T)) + (dnF T i)))), (3, .int (iZ ((sm i (ltF T)) + (T (7 + 8 * i) 3)))), (4, .int (iZ ((sm i (loF T)) + 1))), (0, .ref (md (iy k 0))), (1, .int (iZ (what)))]) [0, 3, 2, 1, 4, 5] rfl ?_
            refine V_lv (lv' := [(5, .int (iZ ((i + 1 : Nat) : Int))), (2, .int (iZ (sm (i + 1) (dnF T)))), (3, .int (iZ (sm (i + 1) (ltF T)))), (4, .int (iZ (sm (i + 1) (loF T)))), (0, .ref (md (iy k 0))), (1, .int (iZ what))]) (by simp only [sm, ltF, loF, bz_t (And.intro (show T (7 + 8 * i) 2 = 0 by omega) h57)]) ?_
            exact ih (i + 1) (by omega) (by omega)
  refine V_ws (ws' := RW g md h Q k R) rfl ?_
  exact V_sub [0, 3, 2, 1, 4, 5] rfl (hL10 (nc T + 1) 0 (by omega) (by omega))
set_option maxHeartbeats 4000000 in
set_option maxRecDepth 100000 in
theorem y_addClerk (l : Launch) {g : GT} {md : Nat → Nat} {h : Int} {Q : Nat → TS} {k : Nat} (hk : k < 2) (R T : TS) (hR : REL R T) (hc0 : 0 ≤ T 0 1) (hc6 : T 0 1 < 6) : MI l yX3_addClerk cX3_addClerk 1 .int (rmN 2) g [.ref (md (iy k 0))] (RW g md h Q k R) (fun z ws9 => z = T 0 1 ∧ ∃ R9, REL R9 (acT T) ∧ ws9 = RW g md h Q k R9) := by
  refine MI.of (own := RX3) (by decide) rfl (Nat.le_of_ble_eq_true rfl) (fun x hx hE => ?_)
  obtain ⟨hT, r00, r01, r02, r12, rcc⟩ := id hR.1
  refine V_lv (lv' := [(0, .ref (md (iy k 0)))]) rfl ?_
  refine V_aload_n hx dX3_addClerk_0 0 rfl ?_
  refine gf_X3_25 hx (iy k 0) (RW_s hk) rfl dX3_addClerk_1 ?_
  refine V_aload_n hx dX3_addClerk_4 0 rfl ?_
  refine gf_X3_61 hx (iy k 0) (RW_s hk) rfl dX3_addClerk_5 ?_
  refine V_top (b := T 0 1) (r01) ?_
  refine V_iconst hx dX3_addClerk_8 ?_
  refine V_iast hx (by omega) (by omega) (by decide) (iy k 4) (RW_a hk 4 (by decide) (n := 6) rfl) (RW g md h Q k (pt R (4) ((T 0 1).toNat) (0))) (RW_sa (by decide) rfl) dX3_addClerk_9 ?_
  refine V_aload_n hx dX3_addClerk_10 0 rfl ?_
  refine gf_X3_34 hx (iy k 0) (RW_s hk) rfl dX3_addClerk_11 ?_
  refine V_aload_n hx dX3_addClerk_14 0 rfl ?_
  refine gf_X3_61 hx (iy k 0) (RW_s hk) rfl dX3_addClerk_15 ?_
  refine V_top (b := R 0 1) (by rw [pt_ne _ _ (Or.inl (by omega))]) ?_
  refine V_top (b := T 0 1) (r01) ?_
  refine V_iconst hx dX3_addClerk_18 ?_
  refine V_iast hx (by omega) (by omega) (by decide) (iy k 7) (RW_a hk 7 (by decide) (n := 6) rfl) (RW g md h Q k (pt (pt R (4) ((T 0 1).toNat) (0)) (7) ((T 0 1).toNat) (0))) (RW_sa (by decide) rfl) dX3_addClerk_19 ?_
  refine V_aload_n hx dX3_addClerk_20 0 rfl ?_
  refine V_aload_n hx dX3_addClerk_21 0 rfl ?_
  refine gf_X3_61 hx (iy k 0) (RW_s hk) rfl dX3_addClerk_22 ?_
  refine V_top (b := R 0 1) (by rw [pt_ne _ _ (Or.inl (by omega)), pt_ne _ _ (Or.inl (by omega))]) ?_
  refine V_top (b := T 0 1) (r01) ?_
  refine V_callv hx (y_clear l hk (pt (pt R (4) ((T 0 1).toNat) (0)) (7) ((T 0 1).toNat) (0)) (c := T 0 1) (by omega) (by omega)) cw_X3_71 (RMn (by decide) (by decide)) rfl (iy k 0) (RW_s hk) rfl rfl (Nat.le_of_ble_eq_true rfl) dX3_addClerk_25 0 0 rfl rfl (fun ws1 e1 => ?_)
  subst e1
  refine V_aload_n hx dX3_addClerk_28 0 rfl ?_
  refine V_dup hx dX3_addClerk_29 rfl ?_
  refine gf_X3_61 hx (iy k 0) (RW_s hk) rfl dX3_addClerk_30 ?_
  refine V_top (b := R 0 1) (by rw [xcl_ne (by omega), pt_ne _ _ (Or.inl (by omega)), pt_ne _ _ (Or.inl (by omega))]) ?_
  refine V_top (b := T 0 1) (r01) ?_
  refine V_iconst hx dX3_addClerk_33 ?_
  refine V_iadd hx dX3_addClerk_34 ?_
  refine pf_X3_61 hx (iy k 0) (RW_s hk) (Nat.le_of_ble_eq_true rfl) (RW g md h Q k (pt (xcl (pt (pt R (4) ((T 0 1).toNat) (0)) (7) ((T 0 1).toNat) (0)) ((T 0 1).toNat) 8) (0) (1) ((T 0 1) + 1))) RW_p1 dX3_addClerk_35 ?_
  refine V_aload_n hx dX3_addClerk_38 0 rfl ?_
  refine gf_X3_61 hx (iy k 0) (RW_s hk) rfl dX3_addClerk_39 ?_
  refine V_top (b := (T 0 1) + 1) (by rw [pt_at]) ?_
  refine V_iconst hx dX3_addClerk_42 ?_
  refine V_isub hx dX3_addClerk_43 ?_
  exact hE _ _ _ _ dX3_addClerk_44 rfl ⟨by omega, _, rel_add hR (n := (T 0 1).toNat) (by omega) (by omega), rfl⟩
set_option maxHeartbeats 4000000 in
set_option maxRecDepth 100000 in
theorem y_copy (l : Launch) {g : GT} {md : Nat → Nat} {h : Int} {Q : Nat → TS} {k k' : Nat} (hk : k < 2) (hk' : k' < 2) (hne : k' ≠ k) (R : TS) {j n : Nat} (hj : j ≠ 0 ∧ j < 14) (hn : rs j = n) (hn9 : n < 1000) : MV l yX3_copy cX3_copy 2 (rmN 1) g [.ref (md (iy k' j)), .ref (md (iy k j))] (RW g md h Q k R) (fun ws9 => ws9 = RW g md h Q k (cpr R (Q k') j n)) := by
  refine MV.of (own := RX3) (by decide) rfl (Nat.le_of_ble_eq_true rfl) (fun x hx hE => ?_)
  refine V_lv (lv' := [(0, .ref (md (iy k' j))), (1, .ref (md (iy k j)))]) rfl ?_
  refine V_aload_n hx dX3_copy_0 0 rfl ?_
  refine V_iconst hx dX3_copy_1 ?_
  refine V_aload_n hx dX3_copy_2 1 rfl ?_
  refine V_iconst hx dX3_copy_3 ?_
  refine V_aload_n hx dX3_copy_4 1 rfl ?_
  refine V_alen hx (iy k j) (RW_a hk j hj hn) (v := (n : Int)) rfl dX3_copy_5 ?_
  refine V_copy hx qm843 (iy k' j) (iy k j) (RW_a' hk' hne j hj hn) (RW_a hk j hj hn) (by omega) (by omega) (by omega) (by omega) (by omega) (by omega) (by omega) (by decide) (Nat.le_of_ble_eq_true rfl) (RW g md h Q k (cpr R (Q k') j n)) (RW_cp hj hn) dX3_copy_6 ?_
  exact hE _ _ _ dX3_copy_9 rfl
set_option maxHeartbeats 4000000 in
set_option maxRecDepth 100000 in
theorem y_become (l : Launch) {g : GT} {md : Nat → Nat} {h : Int} {Q : Nat → TS} {k k' : Nat} (hk : k < 2) (hk' : k' < 2) (hne : k' ≠ k) (R : TS) : MV l yX3_become cX3_become 2 (rmN 2) g [.ref (md (iy k 0)), .ref (md (iy k' 0))] (RW g md h Q k R) (fun ws9 => ws9 = RW g md h Q k (xbe R (Q k'))) := by
  refine MV.of (own := RX3) (by decide) rfl (Nat.le_of_ble_eq_true rfl) (fun x hx hE => ?_)
  refine V_lv (lv' := [(0, .ref (md (iy k 0))), (1, .ref (md (iy k' 0)))]) rfl ?_
  refine V_aload_n hx dX3_become_0 0 rfl ?_
  refine V_aload_n hx dX3_become_1 1 rfl ?_
  refine gf_X3_9 hx (iy k' 0) (RW_s' hk' hne) rfl dX3_become_2 ?_
  refine pf_X3_9 hx (iy k 0) (RW_s hk) (Nat.le_of_ble_eq_true rfl) (RW g md h Q k (pt R (0) (0) (Q k' 0 0))) RW_p0 dX3_become_5 ?_
  refine V_aload_n hx dX3_become_8 0 rfl ?_
  refine V_aload_n hx dX3_become_9 1 rfl ?_
  refine gf_X3_61 hx (iy k' 0) (RW_s' hk' hne) rfl dX3_become_10 ?_
  refine pf_X3_61 hx (iy k 0) (RW_s hk) (Nat.le_of_ble_eq_true rfl) (RW g md h Q k (pt (pt R (0) (0) (Q k' 0 0)) (0) (1) (Q k' 0 1))) RW_p1 dX3_become_13 ?_
  refine V_aload_n hx dX3_become_16 0 rfl ?_
  refine V_aload_n hx dX3_become_17 1 rfl ?_
  refine gf_X3_64 hx (iy k' 0) (RW_s' hk' hne) rfl dX3_become_18 ?_
  refine pf_X3_64 hx (iy k 0) (RW_s hk) (Nat.le_of_ble_eq_true rfl) (RW g md h Q k (pt (pt (pt R (0) (0) (Q k' 0 0)) (0) (1) (Q k' 0 1)) (0) (2) (Q k' 0 2))) RW_p2 dX3_become_21 ?_
  refine V_aload_n hx dX3_become_24 1 rfl ?_
  refine gf_X3_15 hx (iy k' 0) (RW_s' hk' hne) rfl dX3_become_25 ?_
  refine V_aload_n hx dX3_become_28 0 rfl ?_
  refine gf_X3_15 hx (iy k 0) (RW_s hk) rfl dX3_become_29 ?_
  refine V_callSv hx (y_copy l hk hk' hne (pt (pt (pt R (0) (0) (Q k' 0 0)) (0) (1) (Q k' 0 1)) (0) (2) (Q k' 0 2)) (j := 1) (n := 8) (by decide) rfl (by decide)) cw_X3_67 (RMn (by decide) (by decide)) rfl rfl (Nat.le_of_ble_eq_true rfl) dX3_become_32 0 0 rfl rfl (fun ws1 e1 => ?_)
  subst e1
  refine V_aload_n hx dX3_become_35 1 rfl ?_
  refine gf_X3_19 hx (iy k' 0) (RW_s' hk' hne) rfl dX3_become_36 ?_
  refine V_aload_n hx dX3_become_39 0 rfl ?_
  refine gf_X3_19 hx (iy k 0) (RW_s hk) rfl dX3_become_40 ?_
  refine V_callSv hx (y_copy l hk hk' hne (cpr (pt (pt (pt R (0) (0) (Q k' 0 0)) (0) (1) (Q k' 0 1)) (0) (2) (Q k' 0 2)) (Q k') 1 8) (j := 2) (n := 8) (by decide) rfl (by decide)) cw_X3_67 (RMn (by decide) (by decide)) rfl rfl (Nat.le_of_ble_eq_true rfl) dX3_become_43 0 0 rfl rfl (fun ws2 e2 => ?_)
  subst e2
  refine V_aload_n hx dX3_become_46 1 rfl ?_
  refine gf_X3_22 hx (iy k' 0) (RW_s' hk' hne) rfl dX3_become_47 ?_
  refine V_aload_n hx dX3_become_50 0 rfl ?_
  refine gf_X3_22 hx (iy k 0) (RW_s hk) rfl dX3_become_51 ?_
  refine V_callSv hx (y_copy l hk hk' hne (cpr (cpr (pt (pt (pt R (0) (0) (Q k' 0 0)) (0) (1) (Q k' 0 1)) (0) (2) (Q k' 0 2)) (Q k') 1 8) (Q k') 2 8) (j := 3) (n := 192) (by decide) rfl (by decide)) cw_X3_67 (RMn (by decide) (by decide)) rfl rfl (Nat.le_of_ble_eq_true rfl) dX3_become_54 0 0 rfl rfl (fun ws3 e3 => ?_)
  subst e3
  refine V_aload_n hx dX3_become_57 1 rfl ?_
  refine gf_X3_25 hx (iy k' 0) (RW_s' hk' hne) rfl dX3_become_58 ?_
  refine V_aload_n hx dX3_become_61 0 rfl ?_
  refine gf_X3_25 hx (iy k 0) (RW_s hk) rfl dX3_become_62 ?_
  refine V_callSv hx (y_copy l hk hk' hne (cpr (cpr (cpr (pt (pt (pt R (0) (0) (Q k' 0 0)) (0) (1) (Q k' 0 1)) (0) (2) (Q k' 0 2)) (Q k') 1 8) (Q k') 2 8) (Q k') 3 192) (j := 4) (n := 6) (by decide) rfl (by decide)) cw_X3_67 (RMn (by decide) (by decide)) rfl rfl (Nat.le_of_ble_eq_true rfl) dX3_become_65 0 0 rfl rfl (fun ws4 e4 => ?_)
  subst e4
  refine V_aload_n hx dX3_become_68 1 rfl ?_
  refine gf_X3_28 hx (iy k' 0) (RW_s' hk' hne) rfl dX3_become_69 ?_
  refine V_aload_n hx dX3_become_72 0 rfl ?_
  refine gf_X3_28 hx (iy k 0) (RW_s hk) rfl dX3_become_73 ?_
  refine V_callSv hx (y_copy l hk hk' hne (cpr (cpr (cpr (cpr (pt (pt (pt R (0) (0) (Q k' 0 0)) (0) (1) (Q k' 0 1)) (0) (2) (Q k' 0 2)) (Q k') 1 8) (Q k') 2 8) (Q k') 3 192) (Q k') 4 6) (j := 5) (n := 6) (by decide) rfl (by decide)) cw_X3_67 (RMn (by decide) (by decide)) rfl rfl (Nat.le_of_ble_eq_true rfl) dX3_become_76 0 0 rfl rfl (fun ws5 e5 => ?_)
  subst e5
  refine V_aload_n hx dX3_become_79 1 rfl ?_
  refine gf_X3_31 hx (iy k' 0) (RW_s' hk' hne) rfl dX3_become_80 ?_
  refine V_aload_n hx dX3_become_83 0 rfl ?_
  refine gf_X3_31 hx (iy k 0) (RW_s hk) rfl dX3_become_84 ?_
  refine V_callSv hx (y_copy l hk hk' hne (cpr (cpr (cpr (cpr (cpr (pt (pt (pt R (0) (0) (Q k' 0 0)) (0) (1) (Q k' 0 1)) (0) (2) (Q k' 0 2)) (Q k') 1 8) (Q k') 2 8) (Q k') 3 192) (Q k') 4 6) (Q k') 5 6) (j := 6) (n := 6) (by decide) rfl (by decide)) cw_X3_67 (RMn (by decide) (by decide)) rfl rfl (Nat.le_of_ble_eq_true rfl) dX3_become_87 0 0 rfl rfl (fun ws6 e6 => ?_)
  subst e6
  refine V_aload_n hx dX3_become_90 1 rfl ?_
  refine gf_X3_34 hx (iy k' 0) (RW_s' hk' hne) rfl dX3_become_91 ?_
  refine V_aload_n hx dX3_become_94 0 rfl ?_
  refine gf_X3_34 hx (iy k 0) (RW_s hk) rfl dX3_become_95 ?_
  refine V_callSv hx (y_copy l hk hk' hne (cpr (cpr (cpr (cpr (cpr (cpr (pt (pt (pt R (0) (0) (Q k' 0 0)) (0) (1) (Q k' 0 1)) (0) (2) (Q k' 0 2)) (Q k') 1 8) (Q k') 2 8) (Q k') 3 192) (Q k') 4 6) (Q k') 5 6) (Q k') 6 6) (j := 7) (n := 6) (by decide) rfl (by decide)) cw_X3_67 (RMn (by decide) (by decide)) rfl rfl (Nat.le_of_ble_eq_true rfl) dX3_become_98 0 0 rfl rfl (fun ws7 e7 => ?_)
  subst e7
  refine V_aload_n hx dX3_become_101 1 rfl ?_
  refine gf_X3_37 hx (iy k' 0) (RW_s' hk' hne) rfl dX3_become_102 ?_
  refine V_aload_n hx dX3_become_105 0 rfl ?_
  refine gf_X3_37 hx (iy k 0) (RW_s hk) rfl dX3_become_106 ?_
  refine V_callSv hx (y_copy l hk hk' hne (cpr (cpr (cpr (cpr (cpr (cpr (cpr (pt (pt (pt R (0) (0) (Q k' 0 0)) (0) (1) (Q k' 0 1)) (0) (2) (Q k' 0 2)) (Q k') 1 8) (Q k') 2 8) (Q k') 3 192) (Q k') 4 6) (Q k') 5 6) (Q k') 6 6) (Q k') 7 6) (j := 8) (n := 48) (by decide) rfl (by decide)) cw_X3_67 (RMn (by decide) (by decide)) rfl rfl (Nat.le_of_ble_eq_true rfl) dX3_become_109 0 0 rfl rfl (fun ws8 e8 => ?_)
  subst e8
  refine V_aload_n hx dX3_become_112 1 rfl ?_
  refine gf_X3_40 hx (iy k' 0) (RW_s' hk' hne) rfl dX3_become_113 ?_
  refine V_aload_n hx dX3_become_116 0 rfl ?_
  refine gf_X3_40 hx (iy k 0) (RW_s hk) rfl dX3_become_117 ?_
  refine V_callSv hx (y_copy l hk hk' hne (cpr (cpr (cpr (cpr (cpr (cpr (cpr (cpr (pt (pt (pt R (0) (0) (Q k' 0 0)) (0) (1) (Q k' 0 1)) (0) (2) (Q k' 0 2)) (Q k') 1 8) (Q k') 2 8) (Q k') 3 192) (Q k') 4 6) (Q k') 5 6) (Q k') 6 6) (Q k') 7 6) (Q k') 8 48) (j := 9) (n := 48) (by decide) rfl (by decide)) cw_X3_67 (RMn (by decide) (by decide)) rfl rfl (Nat.le_of_ble_eq_true rfl) dX3_become_120 0 0 rfl rfl (fun ws9 e9 => ?_)
  subst e9
  refine V_aload_n hx dX3_become_123 1 rfl ?_
  refine gf_X3_43 hx (iy k' 0) (RW_s' hk' hne) rfl dX3_become_124 ?_
  refine V_aload_n hx dX3_become_127 0 rfl ?_
  refine gf_X3_43 hx (iy k 0) (RW_s hk) rfl dX3_become_128 ?_
  refine V_callSv hx (y_copy l hk hk' hne (cpr (cpr (cpr (cpr (cpr (cpr (cpr (cpr (cpr (pt (pt (pt R (0) (0) (Q k' 0 0)) (0) (1) (Q k' 0 1)) (0) (2) (Q k' 0 2)) (Q k') 1 8) (Q k') 2 8) (Q k') 3 192) (Q k') 4 6) (Q k') 5 6) (Q k') 6 6) (Q k') 7 6) (Q k') 8 48) (Q k') 9 48) (j := 10) (n := 48) (by decide) rfl (by decide)) cw_X3_67 (RMn (by decide) (by decide)) rfl rfl (Nat.le_of_ble_eq_true rfl) dX3_become_131 0 0 rfl rfl (fun ws10 e10 => ?_)
  subst e10
  refine V_aload_n hx dX3_become_134 1 rfl ?_
  refine gf_X3_46 hx (iy k' 0) (RW_s' hk' hne) rfl dX3_become_135 ?_
  refine V_aload_n hx dX3_become_138 0 rfl ?_
  refine gf_X3_46 hx (iy k 0) (RW_s hk) rfl dX3_become_139 ?_
  refine V_callSv hx (y_copy l hk hk' hne (cpr (cpr (cpr (cpr (cpr (cpr (cpr (cpr (cpr (cpr (pt (pt (pt R (0) (0) (Q k' 0 0)) (0) (1) (Q k' 0 1)) (0) (2) (Q k' 0 2)) (Q k') 1 8) (Q k') 2 8) (Q k') 3 192) (Q k') 4 6) (Q k') 5 6) (Q k') 6 6) (Q k') 7 6) (Q k') 8 48) (Q k') 9 48) (Q k') 10 48) (j := 11) (n := 10) (by decide) rfl (by decide)) cw_X3_67 (RMn (by decide) (by decide)) rfl rfl (Nat.le_of_ble_eq_true rfl) dX3_become_142 0 0 rfl rfl (fun ws11 e11 => ?_)
  subst e11
  refine V_aload_n hx dX3_become_145 1 rfl ?_
  refine gf_X3_49 hx (iy k' 0) (RW_s' hk' hne) rfl dX3_become_146 ?_
  refine V_aload_n hx dX3_become_149 0 rfl ?_
  refine gf_X3_49 hx (iy k 0) (RW_s hk) rfl dX3_become_150 ?_
  refine V_callSv hx (y_copy l hk hk' hne (cpr (cpr (cpr (cpr (cpr (cpr (cpr (cpr (cpr (cpr (cpr (pt (pt (pt R (0) (0) (Q k' 0 0)) (0) (1) (Q k' 0 1)) (0) (2) (Q k' 0 2)) (Q k') 1 8) (Q k') 2 8) (Q k') 3 192) (Q k') 4 6) (Q k') 5 6) (Q k') 6 6) (Q k') 7 6) (Q k') 8 48) (Q k') 9 48) (Q k') 10 48) (Q k') 11 10) (j := 12) (n := 10) (by decide) rfl (by decide)) cw_X3_67 (RMn (by decide) (by decide)) rfl rfl (Nat.le_of_ble_eq_true rfl) dX3_become_153 0 0 rfl rfl (fun ws12 e12 => ?_)
  subst e12
  refine V_aload_n hx dX3_become_156 1 rfl ?_
  refine gf_X3_52 hx (iy k' 0) (RW_s' hk' hne) rfl dX3_become_157 ?_
  refine V_aload_n hx dX3_become_160 0 rfl ?_
  refine gf_X3_52 hx (iy k 0) (RW_s hk) rfl dX3_become_161 ?_
  refine V_callSv hx (y_copy l hk hk' hne (cpr (cpr (cpr (cpr (cpr (cpr (cpr (cpr (cpr (cpr (cpr (cpr (pt (pt (pt R (0) (0) (Q k' 0 0)) (0) (1) (Q k' 0 1)) (0) (2) (Q k' 0 2)) (Q k') 1 8) (Q k') 2 8) (Q k') 3 192) (Q k') 4 6) (Q k') 5 6) (Q k') 6 6) (Q k') 7 6) (Q k') 8 48) (Q k') 9 48) (Q k') 10 48) (Q k') 11 10) (Q k') 12 10) (j := 13) (n := 10) (by decide) rfl (by decide)) cw_X3_67 (RMn (by decide) (by decide)) rfl rfl (Nat.le_of_ble_eq_true rfl) dX3_become_164 0 0 rfl rfl (fun ws13 e13 => ?_)
  subst e13
  exact hE _ _ _ dX3_become_167 rfl
