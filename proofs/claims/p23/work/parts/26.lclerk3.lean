/-! the law's clerk: act, isLosing, its making -/
theorem hl_id {a : Int} (h : 0 ≤ a) (h9 : a ≤ 9999) : hl a = a := by
  unfold hl
  rw [if_neg (by omega), if_neg (by omega)]
set_option maxHeartbeats 4000000 in
set_option maxRecDepth 100000 in
theorem z_act (l : Launch) {g : GT} {ws : va_W} {M : MM} (hM : HM M ws) {sp am sl ck co c ca oa p : Nat} {cl : Nat → Nat} {T : TS} {B : Int} {vo : Nat → Int32} (h0 : SM0 g M sp am sl ck co cl T) (hC : CK g M ca c T) (hw : WF T B) (hc : (c : Int) < T 0 1) (hp : (p : Int) < T (7 + 8 * c) 0) (hoa : M oa = some (4, IA g 4 vo)) (hvo : ∀ j, j < 4 → vo j = iZ (cP T (7 + 8 * c) p j)) : MV l yX3_act cX3_act 5 (rmA 2 8 46) g [.ref (ca), .ref (sp), .ref (oa)] ws (fun ws9 => ∃ M9, HM M9 ws9 ∧ CK g M9 ca c (dsT T (7 + 8 * c) p) ∧ KP (fun r => r ≠ 10 + c ∧ r ≠ 20 + c ∧ r ≠ 900) M M9) := by
  refine MV.ofk (own := RX3) (by decide) rfl (Nat.le_of_ble_eq_true rfl) (fun x hx hE => ?_)
  refine V_lv (lv' := [(0, .ref (ca)), (1, .ref (sp)), (2, .ref (oa))]) rfl ?_
  obtain ⟨hT, ⟨hn1, hn8⟩, ⟨hc0, hc9⟩, hcl9, ham1, hck9⟩ := id hw
  obtain ⟨k1, k2, k3, k4, k5, k6⟩ := hck9 c hc
  obtain ⟨⟨p1, p1b⟩, ⟨p2, p2b⟩, ⟨p3, p3b⟩, ⟨p4, p4b⟩, p5, p6⟩ := k5 p hp
  have hc6 : c < 6 := by omega
  have e00 : T 0 0 = T 0 0 := rfl
  have hk : KP (fun r => r ≠ 10 + c ∧ r ≠ 20 + c ∧ r ≠ 900) M M := KP.rf
  have hv1 := rdV_b k6 ham1 (d := (T (7 + 8 * c + 2) p).toNat) (by omega)
  have hv2 := rdV_b (sb_rd (d := (T (7 + 8 * c + 2) p).toNat) k6 ham1 (by omega) (by omega) hn8) (am_rd (q := 7 + 8 * c) (d := (T (7 + 8 * c + 2) p).toNat) ham1 (by omega)) (d := (T (7 + 8 * c + 3) p).toNat) (by omega)
  refine V_aload_n hx dX3_act_0 2 rfl ?_
  refine V_iconst hx dX3_act_1 ?_
  obtain ⟨i9, hi9⟩ := hM.at hoa
  refine V_iald hx (by omega) (by omega) (by omega) i9 hi9 (v := T (7 + 8 * c + 1) p) (hvo 0 (by omega)) dX3_act_2 ?_
  refine V_iconst hx dX3_act_3 ?_
  refine V_icmp_ne hx dX3_act_4 17 (by decide) (by first | assumption | exact ⟨by omega, by omega⟩) ⟨by decide, by decide⟩ (fun h4 => ?_) (fun h4 => ?_)
  · refine V_aload_n hx dX3_act_17 2 rfl ?_
    refine V_iconst hx dX3_act_18 ?_
    obtain ⟨i9, hi9⟩ := hM.at hoa
    refine V_iald hx (by omega) (by omega) (by omega) i9 hi9 (v := T (7 + 8 * c + 1) p) (hvo 0 (by omega)) dX3_act_19 ?_
    refine V_iconst hx dX3_act_20 ?_
    refine V_icmp_ne hx dX3_act_21 25 (by decide) (by first | assumption | exact ⟨by omega, by omega⟩) ⟨by decide, by decide⟩ (fun h21 => ?_) (fun h21 => absurd h21 (h4))
    refine V_aload_n hx dX3_act_25 0 rfl ?_
    refine V_aload_n hx dX3_act_26 1 rfl ?_
    refine V_aload_n hx dX3_act_27 2 rfl ?_
    refine V_iconst hx dX3_act_28 ?_
    obtain ⟨i9, hi9⟩ := hM.at hoa
    refine V_iald hx (by omega) (by omega) (by omega) i9 hi9 (v := T (7 + 8 * c + 2) p) (hvo 1 (by omega)) dX3_act_29 ?_
    obtain ⟨_, _, _, _, _, _, _, _, _, _, hca9, -⟩ := id hC
    obtain ⟨i9, hi9⟩ := hM.at hca9
    refine V_calli hx (z_read l hM h0 hC hc6 (by rw [e00]; omega) (by rw [e00]; omega) ham1 (d := T (7 + 8 * c + 2) p) (by omega) (by rw [e00]; omega)) cw_X3_53 (RMa (by dsimp only [rmA, rmN]; omega) (by dsimp only [rmA, rmN]; omega) (by dsimp only [rmA, rmN]; omega) (by dsimp only [rmA, rmN]; omega)) rfl i9 hi9 rfl rfl (Nat.le_of_ble_eq_true rfl) dX3_act_30 _ _ rfl rfl (fun z1 w1 e1 => ?_)
    obtain ⟨rfl, M1, hM1, hC1, kp1⟩ := e1
    replace hoa := kp1 _ _ _ hoa (by refine ?_; show 4 ≠ 10 + c ∧ 4 ≠ 900; omega)
    replace h0 := sm0_kp h0 kp1 (by show 1 ≠ 10 + c ∧ 1 ≠ 900; omega) (by show 2 ≠ 10 + c ∧ 2 ≠ 900; omega) (by show 3 ≠ 10 + c ∧ 3 ≠ 900; omega) (by show 4 ≠ 10 + c ∧ 4 ≠ 900; omega)
    replace hk := hk.tr (kp1.of (fun r (h : r ≠ 10 + c ∧ r ≠ 20 + c ∧ r ≠ 900) => by show r ≠ 10 + c ∧ r ≠ 900; omega))
    replace h0 := sm0_T h0 (T' := rdT T (7 + 8 * c) (T (7 + 8 * c + 2) p).toNat) (fun a b ha => rdT_ne (by omega) (by omega))
    have hC := hC1
    replace ham1 := am_rd (q := 7 + 8 * c) (d := (T (7 + 8 * c + 2) p).toNat) ham1 (by omega)
    replace e00 : rdT T (7 + 8 * c) (T (7 + 8 * c + 2) p).toNat 0 0 = T 0 0 := (rdT_ne (by omega) (by omega)).trans e00
    refine V_istore_n hx dX3_act_33 [(3, .int (iZ (rdV T (7 + 8 * c) (T (7 + 8 * c + 2) p).toNat))), (0, .ref (ca)), (1, .ref (sp)), (2, .ref (oa))] (by decide) rfl ?_
    refine V_aload_n hx dX3_act_34 3 rfl ?_
    refine V_iconst hx dX3_act_35 ?_
    obtain ⟨i9, hi9⟩ := hM1.at hoa
    refine V_iald hx (by omega) (by omega) (by omega) i9 hi9 (v := T (7 + 8 * c + 1) p) (hvo 0 (by omega)) dX3_act_36 ?_
    refine V_iconst hx dX3_act_37 ?_
    refine V_icmp_ne hx dX3_act_38 53 (by decide) (by first | assumption | exact ⟨by omega, by omega⟩) ⟨by decide, by decide⟩ (fun h38 => ?_) (fun h38 => ?_)
    · refine V_aload_n hx dX3_act_53 3 rfl ?_
      refine V_iconst hx dX3_act_54 ?_
      obtain ⟨i9, hi9⟩ := hM1.at hoa
      refine V_iald hx (by omega) (by omega) (by omega) i9 hi9 (v := T (7 + 8 * c + 1) p) (hvo 0 (by omega)) dX3_act_55 ?_
      refine V_iconst hx dX3_act_56 ?_
      refine V_icmp_ne hx dX3_act_57 67 (by decide) (by first | assumption | exact ⟨by omega, by omega⟩) ⟨by decide, by decide⟩ (fun h57 => ?_) (fun h57 => ?_)
      · exact hE _ _ _ _ _ dX3_act_67 (by dsimp only [rmA]; omega) (by dsimp only [rmA]; omega) ⟨M1, hM1, (by rw [show dsT T (7 + 8 * c) p = rdT T (7 + 8 * c) (T (7 + 8 * c + 2) p).toNat from (by unfold dsT; rw [if_pos (by omega)])]; exact hC), hk⟩
      · refine V_iload_n hx dX3_act_60 0 rfl ?_
        refine V_aload_n hx dX3_act_61 3 rfl ?_
        refine V_iconst hx dX3_act_62 ?_
        obtain ⟨i9, hi9⟩ := hM1.at hoa
        refine V_iald hx (by omega) (by omega) (by omega) i9 hi9 (v := T (7 + 8 * c + 4) p) (hvo 3 (by omega)) dX3_act_63 ?_
        refine V_icmp_ge hx dX3_act_64 68 (by decide) (by first | assumption | exact ⟨by omega, by omega⟩) (by first | assumption | exact ⟨by omega, by omega⟩) (fun h64 => ?_) (fun h64 => ?_)
        · refine V_aload_n hx dX3_act_68 1 rfl ?_
          refine V_aload_n hx dX3_act_69 2 rfl ?_
          refine V_aload_n hx dX3_act_70 3 rfl ?_
          refine V_iconst hx dX3_act_71 ?_
          obtain ⟨i9, hi9⟩ := hM1.at hoa
          refine V_iald hx (by omega) (by omega) (by omega) i9 hi9 (v := T (7 + 8 * c + 3) p) (hvo 2 (by omega)) dX3_act_72 ?_
          obtain ⟨_, _, _, _, _, _, _, _, _, _, hca9, -⟩ := id hC
          obtain ⟨i9, hi9⟩ := hM1.at hca9
          refine V_calli hx (z_read l hM1 h0 hC hc6 (by rw [e00]; omega) (by rw [e00]; omega) ham1 (d := T (7 + 8 * c + 3) p) (by omega) (by rw [e00]; omega)) cw_X3_53 (RMa (by dsimp only [rmA, rmN]; omega) (by dsimp only [rmA, rmN]; omega) (by dsimp only [rmA, rmN]; omega) (by dsimp only [rmA, rmN]; omega)) rfl i9 hi9 rfl rfl (Nat.le_of_ble_eq_true rfl) dX3_act_73 _ _ rfl rfl (fun z2 w2 e2 => ?_)
          obtain ⟨rfl, M2, hM2, hC2, kp2⟩ := e2
          replace hoa := kp2 _ _ _ hoa (by refine ?_; show 4 ≠ 10 + c ∧ 4 ≠ 900; omega)
          replace h0 := sm0_kp h0 kp2 (by show 1 ≠ 10 + c ∧ 1 ≠ 900; omega) (by show 2 ≠ 10 + c ∧ 2 ≠ 900; omega) (by show 3 ≠ 10 + c ∧ 3 ≠ 900; omega) (by show 4 ≠ 10 + c ∧ 4 ≠ 900; omega)
          replace hk := hk.tr (kp2.of (fun r (h : r ≠ 10 + c ∧ r ≠ 20 + c ∧ r ≠ 900) => by show r ≠ 10 + c ∧ r ≠ 900; omega))
          replace h0 := sm0_T h0 (T' := rdT (rdT T (7 + 8 * c) (T (7 + 8 * c + 2) p).toNat) (7 + 8 * c) (T (7 + 8 * c + 3) p).toNat) (fun a b ha => rdT_ne (by omega) (by omega))
          have hC := hC2
          replace ham1 := am_rd (q := 7 + 8 * c) (d := (T (7 + 8 * c + 3) p).toNat) ham1 (by omega)
          replace e00 : rdT (rdT T (7 + 8 * c) (T (7 + 8 * c + 2) p).toNat) (7 + 8 * c) (T (7 + 8 * c + 3) p).toNat 0 0 = T 0 0 := (rdT_ne (by omega) (by omega)).trans e00
          refine V_istore hx dX3_act_76 [(4, .int (iZ (rdV (rdT T (7 + 8 * c) (T (7 + 8 * c + 2) p).toNat) (7 + 8 * c) (T (7 + 8 * c + 3) p).toNat))), (3, .int (iZ (rdV T (7 + 8 * c) (T (7 + 8 * c + 2) p).toNat))), (0, .ref (ca)), (1, .ref (sp)), (2, .ref (oa))] (by decide) rfl ?_
          refine V_aload_n hx dX3_act_78 2 rfl ?_
          refine V_aload_n hx dX3_act_79 4 rfl ?_
          refine V_iconst hx dX3_act_80 ?_
          obtain ⟨i9, hi9⟩ := hM2.at hoa
          refine V_iald hx (by omega) (by omega) (by omega) i9 hi9 (v := T (7 + 8 * c + 2) p) (hvo 1 (by omega)) dX3_act_81 ?_
          refine V_iload_n hx dX3_act_82 1 rfl ?_
          refine V_aload_n hx dX3_act_83 4 rfl ?_
          refine V_iconst hx dX3_act_84 ?_
          obtain ⟨i9, hi9⟩ := hM2.at hoa
          refine V_iald hx (by omega) (by omega) (by omega) i9 hi9 (v := T (7 + 8 * c + 4) p) (hvo 3 (by omega)) dX3_act_85 ?_
          refine V_isub hx dX3_act_86 ?_
          obtain ⟨_, _, _, _, _, _, _, _, _, _, hca9, -⟩ := id hC
          obtain ⟨i9, hi9⟩ := hM2.at hca9
          refine V_callv hx (z_write l hM2 hC hc6 (d := T (7 + 8 * c + 2) p) (to := (rdV T (7 + 8 * c) (T (7 + 8 * c + 2) p).toNat) - (T (7 + 8 * c + 4) p)) (by omega) (by omega) ⟨by omega, by omega⟩) cw_X3_49 (RMa (by dsimp only [rmA, rmN]; omega) (by dsimp only [rmA, rmN]; omega) (by dsimp only [rmA, rmN]; omega) (by dsimp only [rmA, rmN]; omega)) rfl i9 hi9 rfl rfl (Nat.le_of_ble_eq_true rfl) dX3_act_87 _ _ rfl rfl (fun w3 e3 => ?_)
          obtain ⟨M3, hM3, hC3, kp3⟩ := e3
          replace hoa := kp3 _ _ _ hoa (by refine ?_; show 4 ≠ 10 + c ∧ 4 ≠ 20 + c ∧ 4 ≠ 900; omega)
          replace h0 := sm0_kp h0 kp3 (by show 1 ≠ 10 + c ∧ 1 ≠ 20 + c ∧ 1 ≠ 900; omega) (by show 2 ≠ 10 + c ∧ 2 ≠ 20 + c ∧ 2 ≠ 900; omega) (by show 3 ≠ 10 + c ∧ 3 ≠ 20 + c ∧ 3 ≠ 900; omega) (by show 4 ≠ 10 + c ∧ 4 ≠ 20 + c ∧ 4 ≠ 900; omega)
          replace hk := hk.tr (kp3.of (fun r (h : r ≠ 10 + c ∧ r ≠ 20 + c ∧ r ≠ 900) => by show r ≠ 10 + c ∧ r ≠ 20 + c ∧ r ≠ 900; omega))
          have hC := hC3
          refine V_aload_n hx dX3_act_90 2 rfl ?_
          refine V_aload_n hx dX3_act_91 4 rfl ?_
          refine V_iconst hx dX3_act_92 ?_
          obtain ⟨i9, hi9⟩ := hM3.at hoa
          refine V_iald hx (by omega) (by omega) (by omega) i9 hi9 (v := T (7 + 8 * c + 3) p) (hvo 2 (by omega)) dX3_act_93 ?_
          refine V_iload hx dX3_act_94 0 rfl ?_
          refine V_aload_n hx dX3_act_96 4 rfl ?_
          refine V_iconst hx dX3_act_97 ?_
          obtain ⟨i9, hi9⟩ := hM3.at hoa
          refine V_iald hx (by omega) (by omega) (by omega) i9 hi9 (v := T (7 + 8 * c + 4) p) (hvo 3 (by omega)) dX3_act_98 ?_
          refine V_iadd hx dX3_act_99 ?_
          obtain ⟨_, _, _, _, _, _, _, _, _, _, hca9, -⟩ := id hC
          obtain ⟨i9, hi9⟩ := hM3.at hca9
          refine V_callv hx (z_write l hM3 hC hc6 (d := T (7 + 8 * c + 3) p) (to := (rdV (rdT T (7 + 8 * c) (T (7 + 8 * c + 2) p).toNat) (7 + 8 * c) (T (7 + 8 * c + 3) p).toNat) + (T (7 + 8 * c + 4) p)) (by omega) (by omega) ⟨by omega, by omega⟩) cw_X3_49 (RMa (by dsimp only [rmA, rmN]; omega) (by dsimp only [rmA, rmN]; omega) (by dsimp only [rmA, rmN]; omega) (by dsimp only [rmA, rmN]; omega)) rfl i9 hi9 rfl rfl (Nat.le_of_ble_eq_true rfl) dX3_act_100 _ _ rfl rfl (fun w4 e4 => ?_)
          obtain ⟨M4, hM4, hC4, kp4⟩ := e4
          replace hoa := kp4 _ _ _ hoa (by refine ?_; show 4 ≠ 10 + c ∧ 4 ≠ 20 + c ∧ 4 ≠ 900; omega)
          replace h0 := sm0_kp h0 kp4 (by show 1 ≠ 10 + c ∧ 1 ≠ 20 + c ∧ 1 ≠ 900; omega) (by show 2 ≠ 10 + c ∧ 2 ≠ 20 + c ∧ 2 ≠ 900; omega) (by show 3 ≠ 10 + c ∧ 3 ≠ 20 + c ∧ 3 ≠ 900; omega) (by show 4 ≠ 10 + c ∧ 4 ≠ 20 + c ∧ 4 ≠ 900; omega)
          replace hk := hk.tr (kp4.of (fun r (h : r ≠ 10 + c ∧ r ≠ 20 + c ∧ r ≠ 900) => by show r ≠ 10 + c ∧ r ≠ 20 + c ∧ r ≠ 900; omega))
          have hC := hC4
          exact hE _ _ _ _ _ dX3_act_103 (by dsimp only [rmA]; omega) (by dsimp only [rmA]; omega) ⟨M4, hM4, (by rw [show dsT T (7 + 8 * c) p = pt (pt (rdT (rdT T (7 + 8 * c) (T (7 + 8 * c + 2) p).toNat) (7 + 8 * c) (T (7 + 8 * c + 3) p).toNat) (7 + 8 * c + 7) (T (7 + 8 * c + 2) p).toNat (hl ((rdV T (7 + 8 * c) (T (7 + 8 * c + 2) p).toNat) - (T (7 + 8 * c + 4) p)))) (7 + 8 * c + 7) (T (7 + 8 * c + 3) p).toNat (hl ((rdV (rdT T (7 + 8 * c) (T (7 + 8 * c + 2) p).toNat) (7 + 8 * c) (T (7 + 8 * c + 3) p).toNat) + (T (7 + 8 * c + 4) p))) from (by unfold dsT cyT; rw [if_neg (by omega), if_neg (by omega), if_neg (by omega), if_neg (by omega), hl_id (a := rdV T (7 + 8 * c) (T (7 + 8 * c + 2) p).toNat - T (7 + 8 * c + 4) p) (by omega) (by have := p6 (by omega); omega)])]; exact hC), hk⟩
        · exact hE _ _ _ _ _ dX3_act_67 (by dsimp only [rmA]; omega) (by dsimp only [rmA]; omega) ⟨M1, hM1, (by rw [show dsT T (7 + 8 * c) p = rdT T (7 + 8 * c) (T (7 + 8 * c + 2) p).toNat from (by unfold dsT cyT; rw [if_neg (by omega), if_neg (by omega), if_neg (by omega), if_pos (by omega)])]; exact hC), hk⟩
    · refine V_aload_n hx dX3_act_41 1 rfl ?_
      refine V_aload_n hx dX3_act_42 3 rfl ?_
      refine V_iconst hx dX3_act_43 ?_
      obtain ⟨i9, hi9⟩ := hM1.at hoa
      refine V_iald hx (by omega) (by omega) (by omega) i9 hi9 (v := T (7 + 8 * c + 2) p) (hvo 1 (by omega)) dX3_act_44 ?_
      refine V_iload_n hx dX3_act_45 0 rfl ?_
      refine V_aload_n hx dX3_act_46 3 rfl ?_
      refine V_iconst hx dX3_act_47 ?_
      obtain ⟨i9, hi9⟩ := hM1.at hoa
      refine V_iald hx (by omega) (by omega) (by omega) i9 hi9 (v := T (7 + 8 * c + 4) p) (hvo 3 (by omega)) dX3_act_48 ?_
      refine V_iadd hx dX3_act_49 ?_
      obtain ⟨_, _, _, _, _, _, _, _, _, _, hca9, -⟩ := id hC
      obtain ⟨i9, hi9⟩ := hM1.at hca9
      refine V_callv hx (z_write l hM1 hC hc6 (d := T (7 + 8 * c + 2) p) (to := (rdV T (7 + 8 * c) (T (7 + 8 * c + 2) p).toNat) + (T (7 + 8 * c + 4) p)) (by omega) (by omega) ⟨by omega, by omega⟩) cw_X3_49 (RMa (by dsimp only [rmA, rmN]; omega) (by dsimp only [rmA, rmN]; omega) (by dsimp only [rmA, rmN]; omega) (by dsimp only [rmA, rmN]; omega)) rfl i9 hi9 rfl rfl (Nat.le_of_ble_eq_true rfl) dX3_act_50 _ _ rfl rfl (fun w5 e5 => ?_)
      obtain ⟨M5, hM5, hC5, kp5⟩ := e5
      replace hoa := kp5 _ _ _ hoa (by refine ?_; show 4 ≠ 10 + c ∧ 4 ≠ 20 + c ∧ 4 ≠ 900; omega)
      replace h0 := sm0_kp h0 kp5 (by show 1 ≠ 10 + c ∧ 1 ≠ 20 + c ∧ 1 ≠ 900; omega) (by show 2 ≠ 10 + c ∧ 2 ≠ 20 + c ∧ 2 ≠ 900; omega) (by show 3 ≠ 10 + c ∧ 3 ≠ 20 + c ∧ 3 ≠ 900; omega) (by show 4 ≠ 10 + c ∧ 4 ≠ 20 + c ∧ 4 ≠ 900; omega)
      replace hk := hk.tr (kp5.of (fun r (h : r ≠ 10 + c ∧ r ≠ 20 + c ∧ r ≠ 900) => by show r ≠ 10 + c ∧ r ≠ 20 + c ∧ r ≠ 900; omega))
      have hC := hC5
      refine V_aload_n hx dX3_act_53 3 rfl ?_
      refine V_iconst hx dX3_act_54 ?_
      obtain ⟨i9, hi9⟩ := hM5.at hoa
      refine V_iald hx (by omega) (by omega) (by omega) i9 hi9 (v := T (7 + 8 * c + 1) p) (hvo 0 (by omega)) dX3_act_55 ?_
      refine V_iconst hx dX3_act_56 ?_
      refine V_icmp_ne hx dX3_act_57 67 (by decide) (by first | assumption | exact ⟨by omega, by omega⟩) ⟨by decide, by decide⟩ (fun h57_2 => ?_) (fun h57_2 => absurd h57_2 (by omega))
      exact hE _ _ _ _ _ dX3_act_67 (by dsimp only [rmA]; omega) (by dsimp only [rmA]; omega) ⟨M5, hM5, (by rw [show dsT T (7 + 8 * c) p = pt (rdT T (7 + 8 * c) (T (7 + 8 * c + 2) p).toNat) (7 + 8 * c + 7) (T (7 + 8 * c + 2) p).toNat (hl ((rdV T (7 + 8 * c) (T (7 + 8 * c + 2) p).toNat) + (T (7 + 8 * c + 4) p))) from (by unfold dsT; rw [if_neg (by omega), if_neg (by omega), if_pos h38])]; exact hC), hk⟩
  · refine V_aload_n hx dX3_act_7 0 rfl ?_
    refine V_aload_n hx dX3_act_8 2 rfl ?_
    refine V_iconst hx dX3_act_9 ?_
    obtain ⟨i9, hi9⟩ := hM.at hoa
    refine V_iald hx (by omega) (by omega) (by omega) i9 hi9 (v := T (7 + 8 * c + 2) p) (hvo 1 (by omega)) dX3_act_10 ?_
    refine V_aload_n hx dX3_act_11 2 rfl ?_
    refine V_iconst hx dX3_act_12 ?_
    obtain ⟨i9, hi9⟩ := hM.at hoa
    refine V_iald hx (by omega) (by omega) (by omega) i9 hi9 (v := T (7 + 8 * c + 4) p) (hvo 3 (by omega)) dX3_act_13 ?_
    obtain ⟨_, _, _, _, _, _, _, _, _, _, hca9, -⟩ := id hC
    obtain ⟨i9, hi9⟩ := hM.at hca9
    refine V_callv hx (z_write l hM hC hc6 (d := T (7 + 8 * c + 2) p) (to := T (7 + 8 * c + 4) p) (by omega) (by omega) ⟨by omega, by omega⟩) cw_X3_49 (RMa (by dsimp only [rmA, rmN]; omega) (by dsimp only [rmA, rmN]; omega) (by dsimp only [rmA, rmN]; omega) (by dsimp only [rmA, rmN]; omega)) rfl i9 hi9 rfl rfl (Nat.le_of_ble_eq_true rfl) dX3_act_14 _ _ rfl rfl (fun w6 e6 => ?_)
    obtain ⟨M6, hM6, hC6, kp6⟩ := e6
    replace hoa := kp6 _ _ _ hoa (by refine ?_; show 4 ≠ 10 + c ∧ 4 ≠ 20 + c ∧ 4 ≠ 900; omega)
    replace h0 := sm0_kp h0 kp6 (by show 1 ≠ 10 + c ∧ 1 ≠ 20 + c ∧ 1 ≠ 900; omega) (by show 2 ≠ 10 + c ∧ 2 ≠ 20 + c ∧ 2 ≠ 900; omega) (by show 3 ≠ 10 + c ∧ 3 ≠ 20 + c ∧ 3 ≠ 900; omega) (by show 4 ≠ 10 + c ∧ 4 ≠ 20 + c ∧ 4 ≠ 900; omega)
    replace hk := hk.tr (kp6.of (fun r (h : r ≠ 10 + c ∧ r ≠ 20 + c ∧ r ≠ 900) => by show r ≠ 10 + c ∧ r ≠ 20 + c ∧ r ≠ 900; omega))
    have hC := hC6
    refine V_aload_n hx dX3_act_17 2 rfl ?_
    refine V_iconst hx dX3_act_18 ?_
    obtain ⟨i9, hi9⟩ := hM6.at hoa
    refine V_iald hx (by omega) (by omega) (by omega) i9 hi9 (v := T (7 + 8 * c + 1) p) (hvo 0 (by omega)) dX3_act_19 ?_
    refine V_iconst hx dX3_act_20 ?_
    refine V_icmp_ne hx dX3_act_21 25 (by decide) (by first | assumption | exact ⟨by omega, by omega⟩) ⟨by decide, by decide⟩ (fun h21_2 => absurd h21_2 (fun h9 => h9 h4)) (fun h21_2 => ?_)
    exact hE _ _ _ _ _ dX3_act_24 (by dsimp only [rmA]; omega) (by dsimp only [rmA]; omega) ⟨M6, hM6, (by rw [show dsT T (7 + 8 * c) p = pt T (7 + 8 * c + 7) (T (7 + 8 * c + 2) p).toNat (hl (T (7 + 8 * c + 4) p)) from (by unfold dsT; rw [if_neg (by omega), if_pos h4, hl_id (by have := p5 h4; omega) (by omega)])]; exact hC), hk⟩
set_option maxHeartbeats 4000000 in
set_option maxRecDepth 100000 in
theorem z_losing (l : Launch) {g : GT} {ws : va_W} {M : MM} (hM : HM M ws) {sp am sl ck co c ca : Nat} {cl : Nat → Nat} {T : TS} (h0 : SM0 g M sp am sl ck co cl T) (hC : CK g M ca c T) (hc : c < 6) (hn1 : 1 ≤ T 0 0) (hn8 : T 0 0 ≤ 8) (hT : RG T) (hsb : SB T (7 + 8 * c)) : MI l yX3_isLosing cX3_isLosing 6 .boolean (rmA 0 0 0) g [.ref (ca), .ref (sp)] ws (fun z ws9 => z = bz (odP T (7 + 8 * c) (nd T)) ∧ ws9 = ws) := by
  refine MI.ofk (own := RX3) (by decide) rfl (Nat.le_of_ble_eq_true rfl) (fun x hx hE => ?_)
  refine V_lv (lv' := [(0, .ref (ca)), (1, .ref (sp))]) rfl ?_
  obtain ⟨hsp, ⟨va, ham, hva⟩, ⟨vs, hsv, hvs⟩, hck, hcl⟩ := h0
  obtain ⟨pr, se, ow, fp, fs, fo, ms, mo, ds, dw, hca, hpr, ⟨hse, hsl⟩, ⟨how, hwl⟩⟩ := hC
  have hnd : ((nd T : Nat) : Int) = T 0 0 := Int.toNat_of_nonneg (by omega)
  have hms := slp_8 hsl
  obtain ⟨f0, hse1, hse2⟩ := hse.1
  refine V_aload_n hx dX3_isLosing_0 0 rfl ?_
  obtain ⟨i9, hi9⟩ := hM.at hca
  refine gf_X3_15 hx i9 hi9 rfl dX3_isLosing_1 ?_
  refine V_astore_n hx dX3_isLosing_4 [(2, .ref (se)), (0, .ref (ca)), (1, .ref (sp))] (by decide) rfl ?_
  refine V_aload_n hx dX3_isLosing_5 0 rfl ?_
  obtain ⟨i9, hi9⟩ := hM.at hse1
  refine V_alenK hx (t0 := 2) i9 hi9 rfl (v := (ms : Int)) rfl dX3_isLosing_6 ?_
  refine V_istore_n hx dX3_isLosing_7 [(3, .int (iZ ((ms : Int)))), (2, .ref (se)), (0, .ref (ca)), (1, .ref (sp))] (by decide) rfl ?_
  refine V_iconst hx dX3_isLosing_8 ?_
  refine V_istore hx dX3_isLosing_9 [(4, .int (iZ (0))), (3, .int (iZ ((ms : Int)))), (2, .ref (se)), (0, .ref (ca)), (1, .ref (sp))] (by decide) rfl ?_
  have hL : ∀ (n i : Nat), ms < i + n → i ≤ ms → (∀ j, j < i → T (7 + 8 * c + 6) (ds j) = T 2 (ds j)) → V x 0 0 ws 11 [(4, .int (iZ ((i : Int)))), (3, .int (iZ ((ms : Int)))), (2, .ref (se)), (0, .ref (ca)), (1, .ref (sp))] [] := by
    intro n; induction n with
    | zero => intro i g1 g2; exact absurd g1 (by omega)
    | succ n ih =>
      intro i g1 g2 hno
      refine V_iload hx dX3_isLosing_11 0 rfl ?_
      refine V_iload_n hx dX3_isLosing_13 1 rfl ?_
      refine V_icmp_ge hx dX3_isLosing_14 47 (by decide) ⟨by omega, by omega⟩ ⟨by omega, by omega⟩ (fun h14 => ?_) (fun h14 => ?_)
      · refine V_iconst hx dX3_isLosing_47 ?_
        exact hE _ _ _ _ _ _ dX3_isLosing_48 rfl (by dsimp only [rmA]; omega) (by dsimp only [rmA]; omega) ⟨(bz_f (fun ⟨d, hd, h1, h2⟩ => by obtain ⟨j, hj, rfl⟩ := hsl.2.2.1 d (by omega) h1; exact h2 (hno j (by omega)))).symm, rfl⟩
      · refine V_aload_n hx dX3_isLosing_17 2 rfl ?_
        refine V_iload hx dX3_isLosing_18 0 rfl ?_
        obtain ⟨v, hv, hvv⟩ := hse.2 i (by omega)
        have hdi := hsl.1 i (by omega)
        have hdn : (ds i : Int) < T 0 0 := Classical.byContradiction (fun h9 => hdi.2 ((hsb (ds i) hdi.1).2.2 (by omega)).1)
        obtain ⟨i9, hi9⟩ := hM.at hse1
        refine V_aaldA hx (by omega) (by omega) (by omega) i9 hi9 (r := (fs i)) (hse2 i (by omega)) dX3_isLosing_20 ?_
        refine V_astore hx dX3_isLosing_21 [(5, .ref ((fs i))), (4, .int (iZ ((i : Int)))), (3, .int (iZ ((ms : Int)))), (2, .ref (se)), (0, .ref (ca)), (1, .ref (sp))] (by decide) rfl ?_
        refine V_aload_n hx dX3_isLosing_23 5 rfl ?_
        obtain ⟨i9, hi9⟩ := hM.at hsp
        refine gf_X3_46 hx i9 hi9 rfl dX3_isLosing_24 ?_
        refine V_aload hx dX3_isLosing_27 0 rfl ?_
        refine V_iconst hx dX3_isLosing_29 ?_
        obtain ⟨i9, hi9⟩ := hM.at hv
        refine V_iald hx (by omega) (by omega) (by omega) i9 hi9 (v := ((ds i : Nat) : Int)) (hvv 0 (by omega)) dX3_isLosing_30 ?_
        obtain ⟨i9, hi9⟩ := hM.at hsv
        refine V_iald hx (by omega) (by omega) (by omega) i9 hi9 (v := T 2 (ds i)) (hvs (ds i) (by omega)) dX3_isLosing_31 ?_
        refine V_aload hx dX3_isLosing_32 0 rfl ?_
        refine V_iconst hx dX3_isLosing_34 ?_
        obtain ⟨i9, hi9⟩ := hM.at hv
        refine V_iald hx (by omega) (by omega) (by omega) i9 hi9 (v := T (7 + 8 * c + 6) (ds i)) (hvv 2 (by omega)) dX3_isLosing_35 ?_
        refine V_icmp_eq hx dX3_isLosing_36 41 (by decide) (hT _ _) (hT _ _) (fun h36 => ?_) (fun h36 => ?_)
        · refine V_iincN hx dX3_isLosing_41 1 rfl [(4, .int (iZ (((i + 1 : Nat) : Int)))), (5, .ref ((fs i))), (3, .int (iZ ((ms : Int)))), (2, .ref (se)), (0, .ref (ca)), (1, .ref (sp))] (by decide) rfl ?_
          refine V_goto hx dX3_isLosing_44 11 (by decide) ?_
          refine V_sub [0, 2, 3, 4, 5] rfl (ih (i + 1) (by omega) (by omega) (fun j hj => ?_))
          by_cases hx9 : j = i
          · subst hx9; exact h36.symm
          · exact hno j (by omega)
        · refine V_iconst hx dX3_isLosing_39 ?_
          exact hE _ _ _ _ _ _ dX3_isLosing_40 rfl (by dsimp only [rmA]; omega) (by dsimp only [rmA]; omega) ⟨(bz_t ⟨ds i, by omega, hdi.2, fun h9 => h36 h9.symm⟩).symm, rfl⟩
  exact V_sub [0, 1, 2, 3, 4] rfl (hL (ms + 1) 0 (by omega) (by omega) (fun j hj => absurd hj (by omega)))
set_option maxHeartbeats 4000000 in
set_option maxRecDepth 100000 in
theorem z_init (l : Launch) {g : GT} {ws : va_W} {M : MM} (hM : HM M ws) {p t : Nat} (ht : t ≠ 4) (hp : M p = some (t, .inr (3, [.null, .int (iZ 0), .int (iZ 0), .int (iZ 0), .null, .null]))) : MV l yX3_init cX3_init 1 (rmA 1 3 0) g [.ref (p)] ws (fun ws9 => ∃ q1 q2 q3 f1 f2 f3 M9, HM M9 ws9 ∧ M9 p = some (t, .inr (3, [.ref q1, .int (iZ 0), .int (iZ 0), .int (iZ 0), .ref q2, .ref q3])) ∧ M9 q1 = some (4, RA g 0 f1) ∧ M9 q2 = some (4, RA g 0 f2) ∧ M9 q3 = some (4, RA g 0 f3) ∧ KP (fun r => r ≠ t) M M9) := by
  refine MV.ofCk (own := RX3) (by decide) rfl rfl (Nat.le_of_ble_eq_true rfl) (fun x hx hI hE => ?_)
  refine V_lv (lv' := [(0, .ref (p))]) rfl ?_
  have hk : KP (fun r => r ≠ t) M M := KP.rf
  refine V_aload_n hx dX3_init_0 0 rfl ?_
  refine V_objInit hx qo_X3 (by show 1 ≤ _; dsimp only [rmA]; omega) (by show 12 ≤ _; dsimp only [rmA]; omega) dX3_init_1 ?_
  refine V_aload_n hx dX3_init_4 0 rfl ?_
  refine V_iconst hx dX3_init_5 ?_
  refine M_newA hx hM 4 (0) rfl (by omega) q459 (by dsimp only [rmA]; omega) (by dsimp only [rmA]; omega) dX3_init_6 (fun q1 ws1 M1 hM1 f1 fr1 hn1 kp1 => ?_)
  replace hp := kp1 _ _ _ hp trivial
  replace hk := hk.tr (kp1.of (fun r h => by first | trivial | exact h))
  have hq1 := f1
  refine M_put (e' := .inr (3, [.ref (q1), .int (iZ (0)), .int (iZ (0)), .int (iZ (0)), .null, .null])) hM1 hp (fun i9 hi9 ws2 M2 e9 hM2 f2 hn2 kp2 => ?_)
  refine pf_X3_9 hx i9 hi9 (Nat.le_of_ble_eq_true rfl) ws2 e9 dX3_init_9 ?_
  replace hq1 := kp2 _ _ _ hq1 (by show _ ≠ _; omega)
  replace hk := hk.tr (kp2.of (fun r h => by first | trivial | exact h))
  replace hp := f2
  refine V_aload_n hx dX3_init_12 0 rfl ?_
  refine V_iconst hx dX3_init_13 ?_
  refine M_newA hx hM2 4 (0) rfl (by omega) q459 (by dsimp only [rmA]; omega) (by dsimp only [rmA]; omega) dX3_init_14 (fun q3 ws3 M3 hM3 f3 fr3 hn3 kp3 => ?_)
  replace hp := kp3 _ _ _ hp trivial
  replace hq1 := kp3 _ _ _ hq1 trivial
  replace hk := hk.tr (kp3.of (fun r h => by first | trivial | exact h))
  have hq3 := f3
  refine M_put (e' := .inr (3, [.ref (q1), .int (iZ (0)), .int (iZ (0)), .int (iZ (0)), .ref (q3), .null])) hM3 hp (fun i9 hi9 ws4 M4 e9 hM4 f4 hn4 kp4 => ?_)
  refine pf_X3_15 hx i9 hi9 (Nat.le_of_ble_eq_true rfl) ws4 e9 dX3_init_17 ?_
  replace hq1 := kp4 _ _ _ hq1 (by show _ ≠ _; omega)
  replace hq3 := kp4 _ _ _ hq3 (by show _ ≠ _; omega)
  replace hk := hk.tr (kp4.of (fun r h => by first | trivial | exact h))
  replace hp := f4
  refine V_aload_n hx dX3_init_20 0 rfl ?_
  refine V_iconst hx dX3_init_21 ?_
  refine M_newA hx hM4 4 (0) rfl (by omega) q459 (by dsimp only [rmA]; omega) (by dsimp only [rmA]; omega) dX3_init_22 (fun q5 ws5 M5 hM5 f5 fr5 hn5 kp5 => ?_)
  replace hp := kp5 _ _ _ hp trivial
  replace hq1 := kp5 _ _ _ hq1 trivial
  replace hq3 := kp5 _ _ _ hq3 trivial
  replace hk := hk.tr (kp5.of (fun r h => by first | trivial | exact h))
  have hq5 := f5
  refine M_put (e' := .inr (3, [.ref (q1), .int (iZ (0)), .int (iZ (0)), .int (iZ (0)), .ref (q3), .ref (q5)])) hM5 hp (fun i9 hi9 ws6 M6 e9 hM6 f6 hn6 kp6 => ?_)
  refine pf_X3_18 hx i9 hi9 (Nat.le_of_ble_eq_true rfl) ws6 e9 dX3_init_25 ?_
  replace hq1 := kp6 _ _ _ hq1 (by show _ ≠ _; omega)
  replace hq3 := kp6 _ _ _ hq3 (by show _ ≠ _; omega)
  replace hq5 := kp6 _ _ _ hq5 (by show _ ≠ _; omega)
  replace hk := hk.tr (kp6.of (fun r h => by first | trivial | exact h))
  replace hp := f6
  exact hE _ _ _ _ _ dX3_init_28 (by dsimp only [rmA]; omega) (by dsimp only [rmA]; omega) ⟨q1, q3, q5, _, _, _, M6, hM6, hp, hq1, hq3, hq5, hk⟩
