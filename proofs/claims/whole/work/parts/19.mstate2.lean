/-! the reference's state, on -/
set_option maxHeartbeats 4000000 in
set_option maxRecDepth 100000 in
theorem y_act (l : Launch) {g : GT} {md : Nat → Nat} {h : Int} {Q : Nat → TS} {k : Nat} (hk : k < 2) (R T : TS) {zz : Nat} (hR : RLz R T zz) {c : Int} (hc0 : 0 ≤ c) (hc1 : c < T 0 1) (hc6 : T 0 1 ≤ 6) {j : Int} (hj0 : 0 ≤ j) (hj8 : j < 8) (hj9 : j < T (7 + 8 * c.toNat) 0) (hv : VB T (7 + 8 * c.toNat)) (hd0 : 0 ≤ T (7 + 8 * c.toNat + 2) j.toNat) (hd8 : T (7 + 8 * c.toNat + 2) j.toNat < 8) (he0 : 0 ≤ T (7 + 8 * c.toNat + 3) j.toNat) (he8 : T (7 + 8 * c.toNat + 3) j.toNat < 8) (hb0 : -999 ≤ T (7 + 8 * c.toNat + 4) j.toNat) (hb9 : T (7 + 8 * c.toNat + 4) j.toNat ≤ 999) (hb1 : T (7 + 8 * c.toNat + 1) j.toNat = 1 → 0 ≤ T (7 + 8 * c.toNat + 4) j.toNat) (hb3 : T (7 + 8 * c.toNat + 1) j.toNat ≠ 0 → T (7 + 8 * c.toNat + 1) j.toNat ≠ 1 → T (7 + 8 * c.toNat + 1) j.toNat ≠ 2 → 1 ≤ T (7 + 8 * c.toNat + 4) j.toNat) (hk9 : rg (T (7 + 8 * c.toNat + 1) j.toNat)) : MV l yX3_act cX3_act 8 (rmN 2) g [.ref (md (iy k 0)), .int (iZ (c)), .int (iZ (j))] (RW g md h Q k R) (fun ws9 => ∃ R9, RLz R9 (dsT T (7 + 8 * c.toNat) j.toNat) zz ∧ ws9 = RW g md h Q k R9) := by
  refine MV.of (own := RX3) (by decide) rfl (Nat.le_of_ble_eq_true rfl) (fun x hx hE => ?_)
  obtain ⟨hT, r00, r01, r02, r12, rcc⟩ := id hR.1
  obtain ⟨a1, a2, a3, a4, a5, a6⟩ := rcc c.toNat (by omega)
  obtain ⟨g1, g2, g3, g4⟩ := a5 j.toNat (by omega)
  have hq := isQ_c (c := c.toNat) (by omega)
  have b1 := vb_rdV hv (d := (T (7 + 8 * c.toNat + 2) j.toNat).toNat) (by omega)
  have b2 := vb_rdV (vb_rdT hq hv (d := (T (7 + 8 * c.toNat + 2) j.toNat).toNat) (by omega)) (d := (T (7 + 8 * c.toNat + 3) j.toNat).toNat) (by omega)
  refine V_lv (lv' := [(0, .ref (md (iy k 0))), (1, .int (iZ (c))), (2, .int (iZ (j)))]) rfl ?_
  refine V_aload_n hx dX3_act_0 0 rfl ?_
  refine V_iload_n hx dX3_act_1 1 rfl ?_
  refine V_iload_n hx dX3_act_2 2 rfl ?_
  refine V_iconst hx dX3_act_3 ?_
  refine V_calli hx (y_step l hk R (c := c) (j := j) (w := 1) (by omega) (by omega) (by omega) (by omega) (by omega) (by omega)) cw_X3_84 (RMn (by decide) (by decide)) rfl (iy k 0) (RW_s hk) rfl rfl (Nat.le_of_ble_eq_true rfl) dX3_act_4 0 0 rfl rfl (fun z1 ws1 e1 => ?_)
  obtain ⟨rfl, rfl⟩ := e1
  refine V_top (b := T (7 + 8 * c.toNat + 2) j.toNat) (g2) ?_
  refine V_istore_n hx dX3_act_7 [(3, .int (iZ (T (7 + 8 * c.toNat + 2) j.toNat))), (0, .ref (md (iy k 0))), (1, .int (iZ (c))), (2, .int (iZ (j)))] (by decide) rfl ?_
  refine V_aload_n hx dX3_act_8 1 rfl ?_
  refine V_iload_n hx dX3_act_9 2 rfl ?_
  refine V_iload_n hx dX3_act_10 3 rfl ?_
  refine V_iconst hx dX3_act_11 ?_
  refine V_calli hx (y_step l hk R (c := c) (j := j) (w := 2) (by omega) (by omega) (by omega) (by omega) (by omega) (by omega)) cw_X3_84 (RMn (by decide) (by decide)) rfl (iy k 0) (RW_s hk) rfl rfl (Nat.le_of_ble_eq_true rfl) dX3_act_12 0 0 rfl rfl (fun z2 ws2 e2 => ?_)
  obtain ⟨rfl, rfl⟩ := e2
  refine V_top (b := T (7 + 8 * c.toNat + 3) j.toNat) (g3) ?_
  refine V_istore hx dX3_act_15 [(4, .int (iZ (T (7 + 8 * c.toNat + 3) j.toNat))), (3, .int (iZ (T (7 + 8 * c.toNat + 2) j.toNat))), (0, .ref (md (iy k 0))), (1, .int (iZ (c))), (2, .int (iZ (j)))] (by decide) rfl ?_
  refine V_aload_n hx dX3_act_17 2 rfl ?_
  refine V_iload_n hx dX3_act_18 3 rfl ?_
  refine V_iload_n hx dX3_act_19 4 rfl ?_
  refine V_iconst hx dX3_act_20 ?_
  refine V_calli hx (y_step l hk R (c := c) (j := j) (w := 3) (by omega) (by omega) (by omega) (by omega) (by omega) (by omega)) cw_X3_84 (RMn (by decide) (by decide)) rfl (iy k 0) (RW_s hk) rfl rfl (Nat.le_of_ble_eq_true rfl) dX3_act_21 0 0 rfl rfl (fun z3 ws3 e3 => ?_)
  obtain ⟨rfl, rfl⟩ := e3
  refine V_top (b := T (7 + 8 * c.toNat + 4) j.toNat) (g4) ?_
  refine V_istore hx dX3_act_24 [(5, .int (iZ (T (7 + 8 * c.toNat + 4) j.toNat))), (4, .int (iZ (T (7 + 8 * c.toNat + 3) j.toNat))), (3, .int (iZ (T (7 + 8 * c.toNat + 2) j.toNat))), (0, .ref (md (iy k 0))), (1, .int (iZ (c))), (2, .int (iZ (j)))] (by decide) rfl ?_
  refine V_aload_n hx dX3_act_26 3 rfl ?_
  refine V_iload_n hx dX3_act_27 4 rfl ?_
  refine V_iload_n hx dX3_act_28 5 rfl ?_
  refine V_iconst hx dX3_act_29 ?_
  refine V_calli hx (y_step l hk R (c := c) (j := j) (w := 0) (by omega) (by omega) (by omega) (by omega) (by omega) (by omega)) cw_X3_84 (RMn (by decide) (by decide)) rfl (iy k 0) (RW_s hk) rfl rfl (Nat.le_of_ble_eq_true rfl) dX3_act_30 0 0 rfl rfl (fun z4 ws4 e4 => ?_)
  obtain ⟨rfl, rfl⟩ := e4
  refine V_top (b := T (7 + 8 * c.toNat + 1) j.toNat) (g1) ?_
  by_cases h33_0 : T (7 + 8 * c.toNat + 1) j.toNat = 0
  · refine V_tabIn hx dX3_act_33 (by first | assumption | exact hT _ _ | exact ⟨by omega, by omega⟩) (by omega) (by omega) (off := 27) (by rw [h33_0]; rfl) 60 (by decide) ?_
    refine V_aload_n hx dX3_act_60 3 rfl ?_
    refine V_iload_n hx dX3_act_61 4 rfl ?_
    refine V_iload_n hx dX3_act_62 2 rfl ?_
    refine V_calli hx (y_read l hk R T hR (c := c) (by omega) (by omega) (by omega) (d := T (7 + 8 * c.toNat + 2) j.toNat) (by omega) (by omega)) cw_X3_88 (RMn (by decide) (by decide)) rfl (iy k 0) (RW_s hk) rfl rfl (Nat.le_of_ble_eq_true rfl) dX3_act_63 0 0 rfl rfl (fun z5 ws5 e5 => ?_)
    obtain ⟨rfl, R5, hR5, rfl⟩ := e5
    refine V_pop hx dX3_act_66 rfl ?_
    refine V_goto hx dX3_act_67 147 (by decide) ?_
    exact hE _ _ _ dX3_act_147 ⟨_, (show dsT T (7 + 8 * c.toNat) j.toNat = rdT T (7 + 8 * c.toNat) ((T (7 + 8 * c.toNat + 2) j.toNat).toNat) from by unfold dsT; (first | rw [if_pos h33_0] | (rw [if_neg h33_0, if_pos h33_1, hl_id (by omega) (by omega)]) | rw [if_neg h33_0, if_neg h33_1, if_pos h33_2] | rw [if_neg h33_0, if_neg h33_1, if_neg h33_2, cyT, if_pos (by omega)] | (rw [if_neg h33_0, if_neg h33_1, if_neg h33_2, cyT, if_neg (by omega), hl_id (a := _ - _) (by omega) (by omega)]))) ▸ hR5, rfl⟩
  by_cases h33_1 : T (7 + 8 * c.toNat + 1) j.toNat = 1
  · refine V_tabIn hx dX3_act_33 (by first | assumption | exact hT _ _ | exact ⟨by omega, by omega⟩) (by omega) (by omega) (off := 37) (by rw [h33_1]; rfl) 70 (by decide) ?_
    refine V_aload_n hx dX3_act_70 3 rfl ?_
    refine V_iload_n hx dX3_act_71 4 rfl ?_
    refine V_iload_n hx dX3_act_72 2 rfl ?_
    refine V_iload hx dX3_act_73 0 rfl ?_
    refine V_callv hx (y_write l hk R T hR (c := c) (by omega) (by omega) (by omega) (d := T (7 + 8 * c.toNat + 2) j.toNat) (by omega) (by omega) (v := T (7 + 8 * c.toNat + 4) j.toNat) (by first | assumption | exact hT _ _ | exact ⟨by omega, by omega⟩)) cw_X3_91 (RMn (by decide) (by decide)) rfl (iy k 0) (RW_s hk) rfl rfl (Nat.le_of_ble_eq_true rfl) dX3_act_75 0 0 rfl rfl (fun ws6 e6 => ?_)
    obtain ⟨R6, hR6, rfl⟩ := e6
    refine V_goto hx dX3_act_78 147 (by decide) ?_
    exact hE _ _ _ dX3_act_147 ⟨_, (show dsT T (7 + 8 * c.toNat) j.toNat = (pt T (7 + 8 * c.toNat + 7) ((T (7 + 8 * c.toNat + 2) j.toNat).toNat) (hl (T (7 + 8 * c.toNat + 4) j.toNat))) from by unfold dsT; (first | rw [if_pos h33_0] | (rw [if_neg h33_0, if_pos h33_1, hl_id (by omega) (by omega)]) | rw [if_neg h33_0, if_neg h33_1, if_pos h33_2] | rw [if_neg h33_0, if_neg h33_1, if_neg h33_2, cyT, if_pos (by omega)] | (rw [if_neg h33_0, if_neg h33_1, if_neg h33_2, cyT, if_neg (by omega), hl_id (a := _ - _) (by omega) (by omega)]))) ▸ hR6, rfl⟩
  by_cases h33_2 : T (7 + 8 * c.toNat + 1) j.toNat = 2
  · refine V_tabIn hx dX3_act_33 (by first | assumption | exact hT _ _ | exact ⟨by omega, by omega⟩) (by omega) (by omega) (off := 48) (by rw [h33_2]; rfl) 81 (by decide) ?_
    refine V_aload_n hx dX3_act_81 3 rfl ?_
    refine V_iload_n hx dX3_act_82 4 rfl ?_
    refine V_iload_n hx dX3_act_83 2 rfl ?_
    refine V_aload_n hx dX3_act_84 3 rfl ?_
    refine V_iload_n hx dX3_act_85 4 rfl ?_
    refine V_iload_n hx dX3_act_86 2 rfl ?_
    refine V_calli hx (y_read l hk R T hR (c := c) (by omega) (by omega) (by omega) (d := T (7 + 8 * c.toNat + 2) j.toNat) (by omega) (by omega)) cw_X3_88 (RMn (by decide) (by decide)) rfl (iy k 0) (RW_s hk) rfl rfl (Nat.le_of_ble_eq_true rfl) dX3_act_87 0 0 rfl rfl (fun z7 ws7 e7 => ?_)
    obtain ⟨rfl, R7, hR7, rfl⟩ := e7
    refine V_iload hx dX3_act_90 0 rfl ?_
    refine V_iadd hx dX3_act_92 ?_
    refine V_callv hx (y_write l hk R7 (rdT T (7 + 8 * c.toNat) ((T (7 + 8 * c.toNat + 2) j.toNat).toNat)) hR7 (c := c) (by omega) (by rw [rdT_ne (by omega) (by omega)]; omega) (by rw [rdT_ne (by omega) (by omega)]; omega) (d := T (7 + 8 * c.toNat + 2) j.toNat) (by omega) (by omega) (v := (rdV T (7 + 8 * c.toNat) ((T (7 + 8 * c.toNat + 2) j.toNat).toNat)) + (T (7 + 8 * c.toNat + 4) j.toNat)) (by first | assumption | exact hT _ _ | exact ⟨by omega, by omega⟩)) cw_X3_91 (RMn (by decide) (by decide)) rfl (iy k 0) (RW_s hk) rfl rfl (Nat.le_of_ble_eq_true rfl) dX3_act_93 0 0 rfl rfl (fun ws8 e8 => ?_)
    obtain ⟨R8, hR8, rfl⟩ := e8
    refine V_goto hx dX3_act_96 147 (by decide) ?_
    exact hE _ _ _ dX3_act_147 ⟨_, (show dsT T (7 + 8 * c.toNat) j.toNat = (pt (rdT T (7 + 8 * c.toNat) ((T (7 + 8 * c.toNat + 2) j.toNat).toNat)) (7 + 8 * c.toNat + 7) ((T (7 + 8 * c.toNat + 2) j.toNat).toNat) (hl ((rdV T (7 + 8 * c.toNat) ((T (7 + 8 * c.toNat + 2) j.toNat).toNat)) + (T (7 + 8 * c.toNat + 4) j.toNat)))) from by unfold dsT; (first | rw [if_pos h33_0] | (rw [if_neg h33_0, if_pos h33_1, hl_id (by omega) (by omega)]) | rw [if_neg h33_0, if_neg h33_1, if_pos h33_2] | rw [if_neg h33_0, if_neg h33_1, if_neg h33_2, cyT, if_pos (by omega)] | (rw [if_neg h33_0, if_neg h33_1, if_neg h33_2, cyT, if_neg (by omega), hl_id (a := _ - _) (by omega) (by omega)]))) ▸ hR8, rfl⟩
  refine V_tabOut hx dX3_act_33 (by first | assumption | exact hT _ _ | exact ⟨by omega, by omega⟩) (by omega) 99 (by decide) ?_
  refine V_aload_n hx dX3_act_99 3 rfl ?_
  refine V_iload_n hx dX3_act_100 4 rfl ?_
  refine V_iload_n hx dX3_act_101 2 rfl ?_
  refine V_calli hx (y_read l hk R T hR (c := c) (by omega) (by omega) (by omega) (d := T (7 + 8 * c.toNat + 2) j.toNat) (by omega) (by omega)) cw_X3_88 (RMn (by decide) (by decide)) rfl (iy k 0) (RW_s hk) rfl rfl (Nat.le_of_ble_eq_true rfl) dX3_act_102 0 0 rfl rfl (fun z9 ws9 e9 => ?_)
  obtain ⟨rfl, R9, hR9, rfl⟩ := e9
  refine V_istore hx dX3_act_105 [(6, .int (iZ (rdV T (7 + 8 * c.toNat) ((T (7 + 8 * c.toNat + 2) j.toNat).toNat)))), (5, .int (iZ (T (7 + 8 * c.toNat + 4) j.toNat))), (4, .int (iZ (T (7 + 8 * c.toNat + 3) j.toNat))), (3, .int (iZ (T (7 + 8 * c.toNat + 2) j.toNat))), (0, .ref (md (iy k 0))), (1, .int (iZ (c))), (2, .int (iZ (j)))] (by decide) rfl ?_
  refine V_iload hx dX3_act_107 0 rfl ?_
  refine V_iload hx dX3_act_109 1 rfl ?_
  refine V_icmp_ge hx dX3_act_111 115 (by decide) (by first | assumption | exact hT _ _ | exact ⟨by omega, by omega⟩) (by first | assumption | exact hT _ _ | exact ⟨by omega, by omega⟩) (fun h111 => ?_) (fun h111 => ?_)
  · refine V_aload_n hx dX3_act_115 4 rfl ?_
    refine V_iload_n hx dX3_act_116 5 rfl ?_
    refine V_iload hx dX3_act_117 2 rfl ?_
    refine V_calli hx (y_read l hk R9 (rdT T (7 + 8 * c.toNat) ((T (7 + 8 * c.toNat + 2) j.toNat).toNat)) hR9 (c := c) (by omega) (by rw [rdT_ne (by omega) (by omega)]; omega) (by rw [rdT_ne (by omega) (by omega)]; omega) (d := T (7 + 8 * c.toNat + 3) j.toNat) (by omega) (by omega)) cw_X3_88 (RMn (by decide) (by decide)) rfl (iy k 0) (RW_s hk) rfl rfl (Nat.le_of_ble_eq_true rfl) dX3_act_119 0 0 rfl rfl (fun z10 ws10 e10 => ?_)
    obtain ⟨rfl, R10, hR10, rfl⟩ := e10
    refine V_istore hx dX3_act_122 [(7, .int (iZ (rdV (rdT T (7 + 8 * c.toNat) ((T (7 + 8 * c.toNat + 2) j.toNat).toNat)) (7 + 8 * c.toNat) ((T (7 + 8 * c.toNat + 3) j.toNat).toNat)))), (6, .int (iZ (rdV T (7 + 8 * c.toNat) ((T (7 + 8 * c.toNat + 2) j.toNat).toNat)))), (5, .int (iZ (T (7 + 8 * c.toNat + 4) j.toNat))), (4, .int (iZ (T (7 + 8 * c.toNat + 3) j.toNat))), (3, .int (iZ (T (7 + 8 * c.toNat + 2) j.toNat))), (0, .ref (md (iy k 0))), (1, .int (iZ (c))), (2, .int (iZ (j)))] (by decide) rfl ?_
    refine V_aload_n hx dX3_act_124 5 rfl ?_
    refine V_iload_n hx dX3_act_125 6 rfl ?_
    refine V_iload_n hx dX3_act_126 4 rfl ?_
    refine V_iload hx dX3_act_127 1 rfl ?_
    refine V_iload hx dX3_act_129 2 rfl ?_
    refine V_isub hx dX3_act_131 ?_
    refine V_callv hx (y_write l hk R10 (rdT (rdT T (7 + 8 * c.toNat) ((T (7 + 8 * c.toNat + 2) j.toNat).toNat)) (7 + 8 * c.toNat) ((T (7 + 8 * c.toNat + 3) j.toNat).toNat)) hR10 (c := c) (by omega) (by rw [rdT_ne (by omega) (by omega), rdT_ne (by omega) (by omega)]; omega) (by rw [rdT_ne (by omega) (by omega), rdT_ne (by omega) (by omega)]; omega) (d := T (7 + 8 * c.toNat + 2) j.toNat) (by omega) (by omega) (v := (rdV T (7 + 8 * c.toNat) ((T (7 + 8 * c.toNat + 2) j.toNat).toNat)) - (T (7 + 8 * c.toNat + 4) j.toNat)) (by first | assumption | exact hT _ _ | exact ⟨by omega, by omega⟩)) cw_X3_91 (RMn (by decide) (by decide)) rfl (iy k 0) (RW_s hk) rfl rfl (Nat.le_of_ble_eq_true rfl) dX3_act_132 0 0 rfl rfl (fun ws11 e11 => ?_)
    obtain ⟨R11, hR11, rfl⟩ := e11
    refine V_aload_n hx dX3_act_135 5 rfl ?_
    refine V_iload_n hx dX3_act_136 6 rfl ?_
    refine V_iload hx dX3_act_137 3 rfl ?_
    refine V_iload hx dX3_act_139 0 rfl ?_
    refine V_iload hx dX3_act_141 2 rfl ?_
    refine V_iadd hx dX3_act_143 ?_
    refine V_callv hx (y_write l hk R11 (pt (rdT (rdT T (7 + 8 * c.toNat) ((T (7 + 8 * c.toNat + 2) j.toNat).toNat)) (7 + 8 * c.toNat) ((T (7 + 8 * c.toNat + 3) j.toNat).toNat)) (7 + 8 * c.toNat + 7) ((T (7 + 8 * c.toNat + 2) j.toNat).toNat) (hl ((rdV T (7 + 8 * c.toNat) ((T (7 + 8 * c.toNat + 2) j.toNat).toNat)) - (T (7 + 8 * c.toNat + 4) j.toNat)))) hR11 (c := c) (by omega) (by rw [pt_ne _ _ (Or.inl (by omega)), rdT_ne (by omega) (by omega), rdT_ne (by omega) (by omega)]; omega) (by rw [pt_ne _ _ (Or.inl (by omega)), rdT_ne (by omega) (by omega), rdT_ne (by omega) (by omega)]; omega) (d := T (7 + 8 * c.toNat + 3) j.toNat) (by omega) (by omega) (v := (rdV (rdT T (7 + 8 * c.toNat) ((T (7 + 8 * c.toNat + 2) j.toNat).toNat)) (7 + 8 * c.toNat) ((T (7 + 8 * c.toNat + 3) j.toNat).toNat)) + (T (7 + 8 * c.toNat + 4) j.toNat)) (by first | assumption | exact hT _ _ | exact ⟨by omega, by omega⟩)) cw_X3_91 (RMn (by decide) (by decide)) rfl (iy k 0) (RW_s hk) rfl rfl (Nat.le_of_ble_eq_true rfl) dX3_act_144 0 0 rfl rfl (fun ws12 e12 => ?_)
    obtain ⟨R12, hR12, rfl⟩ := e12
    exact hE _ _ _ dX3_act_147 ⟨_, (show dsT T (7 + 8 * c.toNat) j.toNat = (pt (pt (rdT (rdT T (7 + 8 * c.toNat) ((T (7 + 8 * c.toNat + 2) j.toNat).toNat)) (7 + 8 * c.toNat) ((T (7 + 8 * c.toNat + 3) j.toNat).toNat)) (7 + 8 * c.toNat + 7) ((T (7 + 8 * c.toNat + 2) j.toNat).toNat) (hl ((rdV T (7 + 8 * c.toNat) ((T (7 + 8 * c.toNat + 2) j.toNat).toNat)) - (T (7 + 8 * c.toNat + 4) j.toNat)))) (7 + 8 * c.toNat + 7) ((T (7 + 8 * c.toNat + 3) j.toNat).toNat) (hl ((rdV (rdT T (7 + 8 * c.toNat) ((T (7 + 8 * c.toNat + 2) j.toNat).toNat)) (7 + 8 * c.toNat) ((T (7 + 8 * c.toNat + 3) j.toNat).toNat)) + (T (7 + 8 * c.toNat + 4) j.toNat)))) from by unfold dsT; (first | rw [if_pos h33_0] | (rw [if_neg h33_0, if_pos h33_1, hl_id (by omega) (by omega)]) | rw [if_neg h33_0, if_neg h33_1, if_pos h33_2] | rw [if_neg h33_0, if_neg h33_1, if_neg h33_2, cyT, if_pos (by omega)] | (rw [if_neg h33_0, if_neg h33_1, if_neg h33_2, cyT, if_neg (by omega), hl_id (a := _ - _) (by omega) (by omega)]))) ▸ hR12, rfl⟩
  · exact hE _ _ _ dX3_act_114 ⟨_, (show dsT T (7 + 8 * c.toNat) j.toNat = rdT T (7 + 8 * c.toNat) ((T (7 + 8 * c.toNat + 2) j.toNat).toNat) from by unfold dsT; (first | rw [if_pos h33_0] | (rw [if_neg h33_0, if_pos h33_1, hl_id (by omega) (by omega)]) | rw [if_neg h33_0, if_neg h33_1, if_pos h33_2] | rw [if_neg h33_0, if_neg h33_1, if_neg h33_2, cyT, if_pos (by omega)] | (rw [if_neg h33_0, if_neg h33_1, if_neg h33_2, cyT, if_neg (by omega), hl_id (a := _ - _) (by omega) (by omega)]))) ▸ hR9, rfl⟩
set_option maxHeartbeats 4000000 in
set_option maxRecDepth 100000 in
theorem y_wouldLose (l : Launch) {g : GT} {md : Nat → Nat} {h : Int} {Q : Nat → TS} {k : Nat} (hk : k < 2) (R T : TS) {zz : Nat} (hR : RLz R T zz) (hn0 : 0 ≤ T 0 0) (hn8 : T 0 0 ≤ 8) {c : Int} (hc0 : 0 ≤ c) (hc1 : c < T 0 1) (hc6 : T 0 1 ≤ 6) : MI l yX3_wouldLose cX3_wouldLose 3 .boolean (rmN 0) g [.ref (md (iy k 0)), .int (iZ (c))] (RW g md h Q k R) (fun z ws9 => z = bz (odP T (7 + 8 * c.toNat) (nd T)) ∧ ws9 = RW g md h Q k R) := by
  refine MI.of (own := RX3) (by decide) rfl (Nat.le_of_ble_eq_true rfl) (fun x hx hE => ?_)
  obtain ⟨hT, r00, r01, r02, r12, rcc⟩ := id hR.1
  obtain ⟨a1, a2, a3, a4, a5, a6⟩ := rcc c.toNat (by omega)
  have hnd : ((nd T : Nat) : Int) = T 0 0 := Int.toNat_of_nonneg (by omega)
  refine V_lv (lv' := [(0, .ref (md (iy k 0))), (1, .int (iZ (c)))]) rfl ?_
  refine V_iconst hx dX3_wouldLose_0 ?_
  refine V_istore_n hx dX3_wouldLose_1 [(2, .int (iZ (0))), (0, .ref (md (iy k 0))), (1, .int (iZ (c)))] (by decide) rfl ?_
  have hL2 : ∀ (n : Nat) (i : Nat), nd T < i + n → i ≤ nd T → (∀ d, d < i → ¬ (T (7 + 8 * c.toNat + 5) d ≠ -1 ∧ T (7 + 8 * c.toNat + 6) d ≠ T 2 d)) → V x 0 0 (RW g md h Q k R) 2 [(2, .int (iZ ((i : Int)))), (0, .ref (md (iy k 0))), (1, .int (iZ (c)))] [] := by
    intro n
    induction n with
    | zero =>
      intro i g1 g2 g3
      exact absurd g1 (by omega)
    | succ n ih =>
      intro i g1 g2 g3
      refine V_iload_n hx dX3_wouldLose_2 0 rfl ?_
      refine V_aload_n hx dX3_wouldLose_3 1 rfl ?_
      refine gf_X3_9 hx (iy k 0) (RW_s hk) rfl dX3_wouldLose_4 ?_
      refine V_icmp_ge hx dX3_wouldLose_7 53 (by decide) ⟨by omega, by omega⟩ (by first | assumption | exact hT _ _ | exact ⟨by omega, by omega⟩) (fun h7 => ?_) (fun h7 => ?_)
      · refine V_iconst hx dX3_wouldLose_53 ?_
        exact hE _ _ _ _ dX3_wouldLose_54 rfl ⟨(bz_f (fun h9 => h9.elim (fun d h8 => g3 d (by omega) h8.2))).symm, rfl⟩
      · obtain ⟨e8, e9, e10⟩ := a6 i (by omega)
        obtain ⟨f1, f2⟩ := r12 i (by omega)
        refine V_aload_n hx dX3_wouldLose_10 1 rfl ?_
        refine gf_X3_37 hx (iy k 0) (RW_s hk) rfl dX3_wouldLose_11 ?_
        refine V_bipush hx dX3_wouldLose_14 rfl ?_
        refine V_iload_n hx dX3_wouldLose_16 2 rfl ?_
        refine V_imul hx dX3_wouldLose_17 ?_
        refine V_iload_n hx dX3_wouldLose_18 0 rfl ?_
        refine V_iadd hx dX3_wouldLose_19 ?_
        refine V_iald hx (by omega) (by omega) (by decide) (iy k 8) (RW_a hk 8 (by decide) (n := 48) rfl) (v := R 8 (8 * c.toNat + i)) (by show iZ _ = iZ _; rw [show Int.toNat ((8 * c) + (i : Int)) = 8 * c.toNat + i by omega] <;> rfl) dX3_wouldLose_20 ?_
        refine V_iconst hx dX3_wouldLose_21 ?_
        refine V_icmp_eq hx dX3_wouldLose_22 47 (by decide) (by first | assumption | exact hT _ _ | exact ⟨by omega, by omega⟩) ⟨by decide, by decide⟩ (fun h22 => ?_) (fun h22 => ?_)
        · refine V_iincN hx dX3_wouldLose_47 0 rfl [(2, .int (iZ (((i + 1 : Nat) : Int)))), (0, .ref (md (iy k 0))), (1, .int (iZ (c)))] (by decide) rfl ?_
          refine V_goto hx dX3_wouldLose_50 2 (by decide) ?_
          exact V_sub [0, 1, 2] rfl (ih (i + 1) (by omega) (by omega) (lt_s g3 (by omega)))
        · refine V_aload_n hx dX3_wouldLose_25 1 rfl ?_
          refine gf_X3_40 hx (iy k 0) (RW_s hk) rfl dX3_wouldLose_26 ?_
          refine V_bipush hx dX3_wouldLose_29 rfl ?_
          refine V_iload_n hx dX3_wouldLose_31 2 rfl ?_
          refine V_imul hx dX3_wouldLose_32 ?_
          refine V_iload_n hx dX3_wouldLose_33 0 rfl ?_
          refine V_iadd hx dX3_wouldLose_34 ?_
          refine V_iald hx (by omega) (by omega) (by decide) (iy k 9) (RW_a hk 9 (by decide) (n := 48) rfl) (v := R 9 (8 * c.toNat + i)) (by show iZ _ = iZ _; rw [show Int.toNat ((8 * c) + (i : Int)) = 8 * c.toNat + i by omega] <;> rfl) dX3_wouldLose_35 ?_
          refine V_aload_n hx dX3_wouldLose_36 1 rfl ?_
          refine gf_X3_19 hx (iy k 0) (RW_s hk) rfl dX3_wouldLose_37 ?_
          refine V_iload_n hx dX3_wouldLose_40 0 rfl ?_
          refine V_iald hx (by omega) (by omega) (by decide) (iy k 2) (RW_a hk 2 (by decide) (n := 8) rfl) (v := R 2 i) rfl dX3_wouldLose_41 ?_
          refine V_icmp_eq hx dX3_wouldLose_42 47 (by decide) (by first | assumption | exact hT _ _ | exact ⟨by omega, by omega⟩) (by first | assumption | exact hT _ _ | exact ⟨by omega, by omega⟩) (fun h42 => ?_) (fun h42 => ?_)
          · refine V_iincN hx dX3_wouldLose_47 0 rfl [(2, .int (iZ (((i + 1 : Nat) : Int)))), (0, .ref (md (iy k 0))), (1, .int (iZ (c)))] (by decide) rfl ?_
            refine V_goto hx dX3_wouldLose_50 2 (by decide) ?_
            exact V_sub [0, 1, 2] rfl (ih (i + 1) (by omega) (by omega) (lt_s g3 (by omega)))
          · refine V_iconst hx dX3_wouldLose_45 ?_
            exact hE _ _ _ _ dX3_wouldLose_46 rfl ⟨(bz_t ⟨i, by omega, by omega, by omega⟩).symm, rfl⟩
  refine V_ws (ws' := RW g md h Q k R) rfl ?_
  exact V_sub [0, 1, 2] rfl (hL2 (nd T + 1) 0 (by omega) (by omega) (fun d h9 => absurd h9 (Nat.not_lt_zero d)))
theorem rl_ring {R T : TS} {j i : Nat} {v : Int} (h : RL0 R T) (hv : rg v) (hj : 10 < j) : RL0 (pt R j i v) T := by
  obtain ⟨h1, h2, h3, h4, h5, h6⟩ := h
  refine ⟨rg_pt h1 hv, ?_, ?_, ?_, fun d9 hd9 => ?_, fun c9 hc9 => ?_⟩
  · rw [pt_ne _ _ (Or.inl (by omega))]; exact h2
  · rw [pt_ne _ _ (Or.inl (by omega))]; exact h3
  · rw [pt_ne _ _ (Or.inl (by omega))]; exact h4
  · rw [pt_ne _ _ (Or.inl (by omega)), pt_ne _ _ (Or.inl (by omega))]; exact h5 d9 hd9
  · obtain ⟨a1, a2, a3, a4, a5, a6⟩ := h6 c9 hc9
    refine ⟨?_, ?_, ?_, ?_, fun s9 hs9 => ?_, fun d9 hd9 => ?_⟩
    · rw [pt_ne _ _ (Or.inl (by omega))]; exact a1
    · rw [pt_ne _ _ (Or.inl (by omega))]; exact a2
    · rw [pt_ne _ _ (Or.inl (by omega))]; exact a3
    · rw [pt_ne _ _ (Or.inl (by omega))]; exact a4
    · rw [pt_ne _ _ (Or.inl (by omega)), pt_ne _ _ (Or.inl (by omega)), pt_ne _ _ (Or.inl (by omega)), pt_ne _ _ (Or.inl (by omega))]; exact a5 s9 hs9
    · rw [pt_ne _ _ (Or.inl (by omega)), pt_ne _ _ (Or.inl (by omega)), pt_ne _ _ (Or.inl (by omega))]; exact a6 d9 hd9
theorem kcT_ne {T : TS} {c w : Int} {a b : Nat} (h : a < 4 ∨ 6 < a) : kcT T c w a b = T a b := by
  unfold kcT
  rw [pt_ne _ _ (Or.inl (by omega)), pt_ne _ _ (Or.inl (by omega)), pt_ne _ _ (Or.inl (by omega))]
  unfold shT
  rw [if_neg (by omega)]
theorem rl_same {R T T' : TS} (h : RL0 R T) (hT : ∀ a b, a < 4 ∨ 6 < a → T' a b = T a b) : RL0 R T' := by
  obtain ⟨h1, h2, h3, h4, h5, h6⟩ := h
  refine ⟨h1, by rw [hT _ _ (by omega)]; exact h2, by rw [hT _ _ (by omega)]; exact h3, by rw [hT _ _ (by omega)]; exact h4, fun d hd => by rw [hT _ _ (by omega), hT _ _ (by omega)]; exact h5 d hd, fun c hc => ?_⟩
  rw [hT _ _ (by omega)] at hc
  obtain ⟨a1, a2, a3, a4, a5, a6⟩ := h6 c hc
  refine ⟨by rw [hT _ _ (by omega)]; exact a1, by rw [hT _ _ (by omega)]; exact a2, by rw [hT _ _ (by omega)]; exact a3, by rw [hT _ _ (by omega)]; exact a4, fun s hs => ?_, fun d hd => ?_⟩
  · rw [hT _ _ (by omega)] at hs
    rw [hT _ _ (by omega), hT _ _ (by omega), hT _ _ (by omega), hT _ _ (by omega)]
    exact a5 s hs
  · rw [hT _ _ (by omega), hT _ _ (by omega), hT _ _ (by omega)]
    exact a6 d hd
set_option maxHeartbeats 2000000 in
theorem rec_rel {R T : TS} {c w s : Int} {z p : Nat} (h : RL0 R T) (hn : RNG R T z) (hp : p = (z + 1) % 10) (hc : rg c) (hw : rg w) (hs : rg s) (e : s = sm (nd T) (T 1)) : RLz (pt (pt (pt R 11 p c) 12 p w) 13 p s) (kcT T c w) (z + 1) := by
  refine ⟨rl_same (rl_ring (rl_ring (rl_ring h hc (by decide)) hw (by decide)) hs (by decide)) (fun a b hab => kcT_ne hab), ?_⟩
  intro b hb hz
  subst e hp
  by_cases h0 : b = 0
  · subst h0
    have e0 : (z + 1 - 0) % 10 = (z + 1) % 10 := rfl
    rw [e0]
    unfold kcT
    refine ⟨?_, ?_, ?_⟩
    · rw [pt_ne _ _ (Or.inl (by decide)), pt_ne _ _ (Or.inl (by decide)), pt_at, pt_ne _ _ (Or.inl (by decide)), pt_ne _ _ (Or.inl (by decide)), pt_at]
    · rw [pt_ne _ _ (Or.inl (by decide)), pt_at, pt_ne _ _ (Or.inl (by decide)), pt_at]
    · rw [pt_at, pt_at]
  · obtain ⟨g1, g2, g3⟩ := hn (b - 1) (by omega) (by omega)
    have e1 : z - (b - 1) = z + 1 - b := by omega
    rw [e1] at g1 g2 g3
    have hne : (z + 1 - b) % 10 ≠ (z + 1) % 10 := by omega
    have k4 : kcT T c w 4 b = T 4 (b - 1) := by
      unfold kcT
      rw [pt_ne _ _ (Or.inl (by decide)), pt_ne _ _ (Or.inl (by decide)), pt_ne _ _ (Or.inr h0)]
      unfold shT
      rw [if_pos (by omega)]
    have k5 : kcT T c w 5 b = T 5 (b - 1) := by
      unfold kcT
      rw [pt_ne _ _ (Or.inl (by decide)), pt_ne _ _ (Or.inr h0), pt_ne _ _ (Or.inl (by decide))]
      unfold shT
      rw [if_pos (by omega)]
    have k6 : kcT T c w 6 b = T 6 (b - 1) := by
      unfold kcT
      rw [pt_ne _ _ (Or.inr h0), pt_ne _ _ (Or.inl (by decide)), pt_ne _ _ (Or.inl (by decide))]
      unfold shT
      rw [if_pos (by omega)]
    rw [k4, k5, k6]
    refine ⟨?_, ?_, ?_⟩
    · rw [pt_ne _ _ (Or.inl (by decide)), pt_ne _ _ (Or.inl (by decide)), pt_ne _ _ (Or.inr hne)]; exact g1
    · rw [pt_ne _ _ (Or.inl (by decide)), pt_ne _ _ (Or.inr hne), pt_ne _ _ (Or.inl (by decide))]; exact g2
    · rw [pt_ne _ _ (Or.inr hne), pt_ne _ _ (Or.inl (by decide)), pt_ne _ _ (Or.inl (by decide))]; exact g3
