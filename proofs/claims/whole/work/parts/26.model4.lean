/-! the reference: foresee, alone, advise, digest, thrown -/
set_option maxHeartbeats 4000000 in
set_option maxRecDepth 100000 in
theorem z_thrown (l : Launch) {g : GT} {md : Nat → Nat} {h : Int} {Q : Nat → TS} (R : TS) : MI l yX4_thrown cX4_thrown 1 .int (rmN 0) g [.ref (md 0)] (RW g md h Q 0 R) (fun z ws9 => z = h ∧ ws9 = RW g md h Q 0 R) := by
  refine MI.of (own := RX4) (by decide) rfl (Nat.le_of_ble_eq_true rfl) (fun x hx hE => ?_)
  have hk : 0 < 2 := by decide
  refine V_lv (lv' := [(0, .ref (md 0))]) rfl ?_
  refine V_aload_n hx dX4_thrown_0 0 rfl ?_
  refine gf_X4_19 hx 0 RW_o rfl dX4_thrown_1 ?_
  exact hE _ _ _ _ dX4_thrown_4 rfl ⟨rfl, rfl⟩
set_option maxHeartbeats 4000000 in
set_option maxRecDepth 100000 in
theorem z_foresee (l : Launch) {g : GT} {md : Nat → Nat} {h : Int} {Q : Nat → TS} (R T : TS) (hR : REL R T) (hn1 : 1 ≤ T 0 0) (hn8 : T 0 0 ≤ 8) (hc0 : 0 ≤ T 0 1) (hc6 : T 0 1 ≤ 6) (hl0 : 0 ≤ T 0 2) (hl9 : T 0 2 < 2147483647) (hQ1 : RG (Q 1)) (hs8 : ∀ c : Nat, (c : Int) < T 0 1 → T (7 + 8 * c) 0 ≤ 8) {r what : Int} (hr : rg r) (hwh : rg what) (hG : ∀ j : Nat, j ≤ 50 → GRok (grs T j).1 ∧ 0 ≤ (grs T j).1 0 2 ∧ ∀ c : Nat, (c : Int) < (grs T j).1 0 1 → MOK (gr (grs T j).1 c).1 (7 + 8 * c)) (hGd : ∀ j : Nat, j ≤ 50 → (0 ≤ (grs T j).1 0 0 ∧ (grs T j).1 0 0 ≤ 8) ∧ ∀ c : Nat, (c : Int) < (grs T j).1 0 1 → (grs T j).1 (7 + 8 * c) 2 = 0 ∨ (grs T j).1 (7 + 8 * c) 2 = 1) : MI l yX4_foresee cX4_foresee 4 .int (rmN 6) g [.ref (md 0), .int (iZ (r)), .int (iZ (what))] (RW g md h Q 0 R) (fun z ws9 => (((1 ≤ r ∧ r ≤ 50) ∧ (2 ≤ what ∧ what ≤ 6)) ∧ z = cnV (grs T r.toNat).1 what ∧ (∃ Q9, RG (Q9 1) ∧ ws9 = RW g md 0 Q9 0 R)) ∨ (¬ (1 ≤ r ∧ r ≤ 50) ∧ ws9 = RW g md 1 Q 0 R) ∨ (((1 ≤ r ∧ r ≤ 50) ∧ ¬ (2 ≤ what ∧ what ≤ 6)) ∧ ws9 = RW g md 2 Q 0 R)) := by
  refine MI.of (own := RX4) (by decide) rfl (Nat.le_of_ble_eq_true rfl) (fun x hx hE => ?_)
  have hk : 0 < 2 := by decide
  obtain ⟨hT, r00, r01, r02, r12, rcc⟩ := id hR.1
  refine V_lv (lv' := [(0, .ref (md 0)), (1, .int (iZ (r))), (2, .int (iZ (what)))]) rfl ?_
  refine V_aload_n hx dX4_foresee_0 0 rfl ?_
  refine V_iconst hx dX4_foresee_1 ?_
  refine pf_X4_19 hx 0 RW_o (Nat.le_of_ble_eq_true rfl) (RW g md 0 Q 0 R) RW_seth dX4_foresee_2 ?_
  refine V_iload_n hx dX4_foresee_5 1 rfl ?_
  refine V_iconst hx dX4_foresee_6 ?_
  refine V_bipush hx dX4_foresee_7 rfl ?_
  refine V_callSi hx (z_isIn l (h := 0) (Q := Q) R (v := r) (lo := 1) (hi := 50) (by first | assumption | exact hT _ _ | exact ⟨by omega, by omega⟩) ⟨by decide, by decide⟩ ⟨by decide, by decide⟩) cw_X4_26 (RMn (by decide) (by decide)) rfl rfl (Nat.le_of_ble_eq_true rfl) dX4_foresee_9 0 0 rfl rfl (fun z1 ws1 e1 => ?_)
  obtain ⟨rfl, rfl⟩ := e1
  refine V_ifb_ne hx dX4_foresee_12 21 (by decide) (fun h12 => ?_) (fun h12 => ?_)
  · refine V_iload_n hx dX4_foresee_21 2 rfl ?_
    refine V_iconst hx dX4_foresee_22 ?_
    refine V_bipush hx dX4_foresee_23 rfl ?_
    refine V_callSi hx (z_isIn l (h := 0) (Q := Q) R (v := what) (lo := 2) (hi := 6) (by first | assumption | exact hT _ _ | exact ⟨by omega, by omega⟩) ⟨by decide, by decide⟩ ⟨by decide, by decide⟩) cw_X4_26 (RMn (by decide) (by decide)) rfl rfl (Nat.le_of_ble_eq_true rfl) dX4_foresee_25 0 0 rfl rfl (fun z2 ws2 e2 => ?_)
    obtain ⟨rfl, rfl⟩ := e2
    refine V_ifb_ne hx dX4_foresee_28 37 (by decide) (fun h28 => ?_) (fun h28 => ?_)
    · obtain ⟨Q2, hQ2⟩ : ∃ Q2, Q2 = ups Q 0 R := ⟨_, rfl⟩
      have hQ20 : Q2 0 = R := by rw [hQ2, ups_at]
      have hQ21 : RG (Q2 1) := by rw [hQ2, ups_ne _ (by decide)]; exact hQ1
      have hk : 1 < 2 := by decide
      have hk' : 0 < 2 := by decide
      have hne : (0 : Nat) ≠ 1 := by decide
      have hB : REL (xbe (Q2 1) (Q2 0)) T := rz_be hQ21 (by rw [hQ20]; exact hR) (by omega) hs8
      refine V_ws (ws' := RW g md 0 Q2 1 (Q2 1)) (by rw [hQ2, ups_ne _ (by decide)]; exact RW_01) ?_
      refine V_aload_n hx dX4_foresee_37 0 rfl ?_
      refine gf_X4_16 hx 0 RW_o rfl dX4_foresee_38 ?_
      refine V_aload_n hx dX4_foresee_41 0 rfl ?_
      refine gf_X4_10 hx 0 RW_o rfl dX4_foresee_42 ?_
      refine V_callv hx (y_become l hk hk' hne (Q := Q2) (Q2 1)) cw_X4_153 (RMn (by decide) (by decide)) rfl (iy 1 0) (RW_s hk) rfl rfl (Nat.le_of_ble_eq_true rfl) dX4_foresee_45 0 0 rfl rfl (fun ws3 e3 => ?_)
      subst e3
      refine V_iconst hx dX4_foresee_48 ?_
      refine V_istore_n hx dX4_foresee_49 [(3, .int (iZ (0))), (0, .ref (md 0)), (1, .int (iZ (r))), (2, .int (iZ (what)))] (by decide) rfl ?_
      have hL50 : ∀ (n : Nat) (i : Nat) (R1 : TS), r.toNat < i + n → i ≤ r.toNat → (REL R1 (grs T i).1) → V x 0 0 (RW g md 0 Q2 1 R1) 50 [(3, .int (iZ ((i : Int)))), (0, .ref (md 0)), (1, .int (iZ (r))), (2, .int (iZ (what)))] [] := by
        intro n
        induction n with
        | zero =>
          intro i R1 g1 g2 hR1
          exact absurd g1 (by omega)
        | succ n ih =>
          intro i R1 g1 g2 hR1
          refine V_iload_n hx dX4_foresee_50 0 rfl ?_
          refine V_iload_n hx dX4_foresee_51 2 rfl ?_
          refine V_icmp_ge hx dX4_foresee_52 69 (by decide) ⟨by omega, by omega⟩ (by first | assumption | exact hT _ _ | exact ⟨by omega, by omega⟩) (fun h52 => ?_) (fun h52 => ?_)
          · have er : i = r.toNat := by omega
            subst er
            obtain ⟨⟨hGr, -, -⟩, ⟨⟨hnr0, hnr8⟩, hdr⟩⟩ := And.intro (hG r.toNat (by omega)) (hGd r.toNat (by omega))
            obtain ⟨hTr, ⟨hcr0, hcr6⟩, -, -⟩ := id hGr
            refine V_aload_n hx dX4_foresee_69 1 rfl ?_
            refine gf_X4_16 hx 0 RW_o rfl dX4_foresee_70 ?_
            refine V_iload_n hx dX4_foresee_73 3 rfl ?_
            refine V_calli hx (y_counted l hk R1 ((grs T r.toNat).1) hR1 (by omega) (by omega) (by omega) (by omega) hdr (what := what) (by omega) (by first | assumption | exact hT _ _ | exact ⟨by omega, by omega⟩)) cw_X4_150 (RMn (by decide) (by decide)) rfl (iy 1 0) (RW_s hk) rfl rfl (Nat.le_of_ble_eq_true rfl) dX4_foresee_74 0 0 rfl rfl (fun z4 ws4 e4 => ?_)
            obtain ⟨rfl, rfl⟩ := e4
            exact hE _ _ _ _ dX4_foresee_77 rfl (Or.inl ⟨⟨h12, h28⟩, rfl, ups Q2 1 R1, by rw [ups_at]; exact hR1.1.1, RW_1z hQ20⟩)
          · obtain ⟨hGi, hli, hGmi⟩ := hG i (by omega)
            have hzi : ((((grs T i).1 0 2).toNat : Nat) : Int) = (grs T i).1 0 2 := Int.toNat_of_nonneg hli
            refine V_aload_n hx dX4_foresee_55 1 rfl ?_
            refine gf_X4_16 hx 0 RW_o rfl dX4_foresee_56 ?_
            refine V_calli hx (y_round l hk R1 ((grs T i).1) hR1 hzi hGi hGmi) cw_X4_87 (RMn (by decide) (by decide)) rfl (iy 1 0) (RW_s hk) rfl rfl (Nat.le_of_ble_eq_true rfl) dX4_foresee_59 0 0 rfl rfl (fun z5 ws5 e5 => ?_)
            obtain ⟨rfl, R5, hR5, rfl⟩ := e5
            refine V_pop hx dX4_foresee_62 rfl ?_
            refine V_iincN hx dX4_foresee_63 0 rfl [(3, .int (iZ (((i + 1 : Nat) : Int)))), (0, .ref (md 0)), (1, .int (iZ (r))), (2, .int (iZ (what)))] (by decide) rfl ?_
            refine V_goto hx dX4_foresee_66 50 (by decide) ?_
            exact V_sub [0, 1, 2, 3] rfl (ih (i + 1) _ (by omega) (by omega) hR5)
      refine V_ws (ws' := _) rfl ?_
      exact V_sub [0, 1, 2, 3] rfl (hL50 (r.toNat + 1) 0 _ (by omega) (by omega) hB)
    · refine V_aload_n hx dX4_foresee_31 0 rfl ?_
      refine V_iconst hx dX4_foresee_32 ?_
      refine V_calli hx (z_no l R (n := 2)) cw_X4_33 (RMn (by decide) (by decide)) rfl 0 RW_o rfl rfl (Nat.le_of_ble_eq_true rfl) dX4_foresee_33 0 0 rfl rfl (fun z6 ws6 e6 => ?_)
      obtain ⟨rfl, rfl⟩ := e6
      exact hE _ _ _ _ dX4_foresee_36 rfl (Or.inr (Or.inr ⟨⟨h12, h28⟩, rfl⟩))
  · refine V_aload_n hx dX4_foresee_15 0 rfl ?_
    refine V_iconst hx dX4_foresee_16 ?_
    refine V_calli hx (z_no l R (n := 1)) cw_X4_33 (RMn (by decide) (by decide)) rfl 0 RW_o rfl rfl (Nat.le_of_ble_eq_true rfl) dX4_foresee_17 0 0 rfl rfl (fun z7 ws7 e7 => ?_)
    obtain ⟨rfl, rfl⟩ := e7
    exact hE _ _ _ _ dX4_foresee_20 rfl (Or.inr (Or.inl ⟨h12, rfl⟩))
set_option maxHeartbeats 4000000 in
set_option maxRecDepth 100000 in
theorem z_alone (l : Launch) {g : GT} {md : Nat → Nat} {h : Int} {Q : Nat → TS} (R T : TS) (hR : REL R T) (hn1 : 1 ≤ T 0 0) (hn8 : T 0 0 ≤ 8) (hc0 : 0 ≤ T 0 1) (hc6 : T 0 1 ≤ 6) (hl0 : 0 ≤ T 0 2) (hl9 : T 0 2 < 2147483647) (hQ1 : RG (Q 1)) (hs8 : ∀ c : Nat, (c : Int) < T 0 1 → T (7 + 8 * c) 0 ≤ 8) {c d : Int} (hc : rg c) (hd : rg d) (hs0 : 0 ≤ c → c < T 0 1 → 0 ≤ T (7 + 8 * c.toNat) 0) (hA : 0 ≤ c → c < T 0 1 → ∀ t : Nat, (t : Int) ≤ T (7 + 8 * c.toNat) 0 → TKok (wal T c.toNat t) (7 + 8 * c.toNat) ∧ MOK (wal T c.toNat t) (7 + 8 * c.toNat) ∧ 0 ≤ wal T c.toNat t 0 2 ∧ wal T c.toNat t 0 1 = T 0 1 ∧ wal T c.toNat t (7 + 8 * c.toNat) 0 = T (7 + 8 * c.toNat) 0) : MI l yX4_alone cX4_alone 4 .int (rmN 6) g [.ref (md 0), .int (iZ (c)), .int (iZ (d))] (RW g md h Q 0 R) (fun z ws9 => (((0 ≤ c ∧ c < T 0 1) ∧ (0 ≤ d ∧ d < T 0 0)) ∧ z = wal T c.toNat ((T (7 + 8 * c.toNat) 0).toNat + 1) 1 d.toNat ∧ (∃ Q9, RG (Q9 1) ∧ ws9 = RW g md 0 Q9 0 R)) ∨ (¬ ((0 ≤ c ∧ c < T 0 1) ∧ (0 ≤ d ∧ d < T 0 0)) ∧ ws9 = RW g md 1 Q 0 R)) := by
  refine MI.of (own := RX4) (by decide) rfl (Nat.le_of_ble_eq_true rfl) (fun x hx hE => ?_)
  have hk : 0 < 2 := by decide
  obtain ⟨hT, r00, r01, r02, r12, rcc⟩ := id hR.1
  refine V_lv (lv' := [(0, .ref (md 0)), (1, .int (iZ (c))), (2, .int (iZ (d)))]) rfl ?_
  refine V_aload_n hx dX4_alone_0 0 rfl ?_
  refine V_iconst hx dX4_alone_1 ?_
  refine pf_X4_19 hx 0 RW_o (Nat.le_of_ble_eq_true rfl) (RW g md 0 Q 0 R) RW_seth dX4_alone_2 ?_
  refine V_aload_n hx dX4_alone_5 0 rfl ?_
  refine V_iload_n hx dX4_alone_6 1 rfl ?_
  refine V_calli hx (z_isClerk l R T hR (by omega) (by omega) (d := c) (by first | assumption | exact hT _ _ | exact ⟨by omega, by omega⟩)) cw_X4_57 (RMn (by decide) (by decide)) rfl 0 RW_o rfl rfl (Nat.le_of_ble_eq_true rfl) dX4_alone_7 0 0 rfl rfl (fun z1 ws1 e1 => ?_)
  obtain ⟨rfl, rfl⟩ := e1
  refine V_ifb_eq hx dX4_alone_10 21 (by decide) (fun h10 => ?_) (fun h10 => ?_)
  · refine V_aload_n hx dX4_alone_21 0 rfl ?_
    refine V_iconst hx dX4_alone_22 ?_
    refine V_calli hx (z_no l R (n := 1)) cw_X4_33 (RMn (by decide) (by decide)) rfl 0 RW_o rfl rfl (Nat.le_of_ble_eq_true rfl) dX4_alone_23 0 0 rfl rfl (fun z2 ws2 e2 => ?_)
    obtain ⟨rfl, rfl⟩ := e2
    exact hE _ _ _ _ dX4_alone_26 rfl (Or.inr ⟨by omega, rfl⟩)
  · refine V_aload_n hx dX4_alone_13 0 rfl ?_
    refine V_iload_n hx dX4_alone_14 2 rfl ?_
    refine V_calli hx (z_isDrawer l R T hR (by omega) (by omega) (d := d) (by first | assumption | exact hT _ _ | exact ⟨by omega, by omega⟩)) cw_X4_41 (RMn (by decide) (by decide)) rfl 0 RW_o rfl rfl (Nat.le_of_ble_eq_true rfl) dX4_alone_15 0 0 rfl rfl (fun z3 ws3 e3 => ?_)
    obtain ⟨rfl, rfl⟩ := e3
    refine V_ifb_ne hx dX4_alone_18 27 (by decide) (fun h18 => ?_) (fun h18 => ?_)
    · obtain ⟨Q2, hQ2⟩ : ∃ Q2, Q2 = ups Q 0 R := ⟨_, rfl⟩
      have hQ20 : Q2 0 = R := by rw [hQ2, ups_at]
      have hQ21 : RG (Q2 1) := by rw [hQ2, ups_ne _ (by decide)]; exact hQ1
      have hk : 1 < 2 := by decide
      have hk' : 0 < 2 := by decide
      have hne : (0 : Nat) ≠ 1 := by decide
      have hB : REL (xbe (Q2 1) (Q2 0)) T := rz_be hQ21 (by rw [hQ20]; exact hR) (by omega) hs8
      refine V_ws (ws' := RW g md 0 Q2 1 (Q2 1)) (by rw [hQ2, ups_ne _ (by decide)]; exact RW_01) ?_
      have hs0 := hs0 (by omega) (by omega)
      refine V_aload_n hx dX4_alone_27 0 rfl ?_
      refine gf_X4_16 hx 0 RW_o rfl dX4_alone_28 ?_
      refine V_aload_n hx dX4_alone_31 0 rfl ?_
      refine gf_X4_10 hx 0 RW_o rfl dX4_alone_32 ?_
      refine V_callv hx (y_become l hk hk' hne (Q := Q2) (Q2 1)) cw_X4_153 (RMn (by decide) (by decide)) rfl (iy 1 0) (RW_s hk) rfl rfl (Nat.le_of_ble_eq_true rfl) dX4_alone_35 0 0 rfl rfl (fun ws4 e4 => ?_)
      subst e4
      refine V_aload_n hx dX4_alone_38 0 rfl ?_
      refine gf_X4_16 hx 0 RW_o rfl dX4_alone_39 ?_
      refine V_iload_n hx dX4_alone_42 1 rfl ?_
      refine V_callv hx (y_clear l hk (xbe (Q2 1) (Q2 0)) (c := c) (by omega) (by omega)) cw_X4_84 (RMn (by decide) (by decide)) rfl (iy 1 0) (RW_s hk) rfl rfl (Nat.le_of_ble_eq_true rfl) dX4_alone_43 0 0 rfl rfl (fun ws5 e5 => ?_)
      subst e5
      obtain ⟨hli0, hci0, hsi0⟩ := (hA (by omega) (by omega) 0 (by omega)).2.2
      have hB1 : REL (xcl (xbe (Q2 1) (Q2 0)) c.toNat 8) (wal T c.toNat 0) := rel_of (rz_clear hB) (by show (((T 0 2).toNat : Nat) : Int) = soT T (7 + 8 * c.toNat) 8 0 2; rw [soT_ne (by omega)]; exact Int.toNat_of_nonneg hl0)
      refine V_iconst hx dX4_alone_46 ?_
      refine V_istore_n hx dX4_alone_47 [(3, .int (iZ (0))), (0, .ref (md 0)), (1, .int (iZ (c))), (2, .int (iZ (d)))] (by decide) rfl ?_
      have hL48 : ∀ (n : Nat) (i : Nat) (R1 : TS), (T (7 + 8 * c.toNat) 0).toNat < i + n → i ≤ (T (7 + 8 * c.toNat) 0).toNat → (REL R1 (wal T c.toNat i)) → V x 0 0 (RW g md 0 Q2 1 R1) 48 [(3, .int (iZ ((i : Int)))), (0, .ref (md 0)), (1, .int (iZ (c))), (2, .int (iZ (d)))] [] := by
        intro n
        induction n with
        | zero =>
          intro i R1 g1 g2 hR1
          exact absurd g1 (by omega)
        | succ n ih =>
          intro i R1 g1 g2 hR1
          obtain ⟨hki, hmi, hli, hci, hsi⟩ := hA (by omega) (by omega) i (by omega)
          obtain ⟨-, ⟨-, hs8i⟩, -⟩ := id hki
          have hzi : (((wal T c.toNat i 0 2).toNat : Nat) : Int) = wal T c.toNat i 0 2 := Int.toNat_of_nonneg hli
          obtain ⟨hT1, t00, t01, t02, t12, tcc⟩ := id hR1.1
          obtain ⟨a1, a2, a3, a4, a5, a6⟩ := tcc c.toNat (by omega)
          refine V_iload_n hx dX4_alone_48 0 rfl ?_
          refine V_aload_n hx dX4_alone_49 1 rfl ?_
          refine gf_X4_16 hx 0 RW_o rfl dX4_alone_50 ?_
          refine gf_X4_66 hx (iy 1 0) (RW_s hk) rfl dX4_alone_53 ?_
          refine V_iload_n hx dX4_alone_56 2 rfl ?_
          refine V_iald hx (by omega) (by omega) (by decide) (iy 1 4) (RW_a hk 4 (by decide) (n := 6) rfl) (v := R1 4 c.toNat) rfl dX4_alone_57 ?_
          refine V_icmp_ge hx dX4_alone_58 76 (by decide) ⟨by omega, by omega⟩ (by first | assumption | exact hT _ _ | exact ⟨by omega, by omega⟩) (fun h58 => ?_) (fun h58 => ?_)
          · have ei : (T (7 + 8 * c.toNat) 0).toNat = i := by omega
            refine V_aload_n hx dX4_alone_76 1 rfl ?_
            refine gf_X4_16 hx 0 RW_o rfl dX4_alone_77 ?_
            refine V_iload_n hx dX4_alone_80 2 rfl ?_
            refine V_calli hx (y_turn l hk R1 (wal T c.toNat i) hR1 hzi (c := c) (by omega) (by omega) (by omega) hki hmi) cw_X4_81 (RMn (by decide) (by decide)) rfl (iy 1 0) (RW_s hk) rfl rfl (Nat.le_of_ble_eq_true rfl) dX4_alone_81 0 0 rfl rfl (fun z6 ws6 e6 => ?_)
            obtain ⟨rfl, R6, hR6, rfl⟩ := e6
            refine V_pop hx dX4_alone_84 rfl ?_
            refine V_aload_n hx dX4_alone_85 1 rfl ?_
            refine gf_X4_16 hx 0 RW_o rfl dX4_alone_86 ?_
            refine gf_X4_45 hx (iy 1 0) (RW_s hk) rfl dX4_alone_89 ?_
            refine V_iload_n hx dX4_alone_92 3 rfl ?_
            refine V_iald hx (by omega) (by omega) (by decide) (iy 1 1) (RW_a hk 1 (by decide) (n := 8) rfl) (v := R6 1 d.toNat) rfl dX4_alone_93 ?_
            exact hE _ _ _ _ dX4_alone_94 rfl (Or.inl ⟨⟨h10, h18⟩, by rw [ei]; exact (hR6.1.2.2.2.2.1 d.toNat (by omega)).1, _, by rw [ups_at]; exact hR6.1.1, RW_1z hQ20⟩)
          · have hlt : (i : Int) < T (7 + 8 * c.toNat) 0 := by omega
            refine V_aload_n hx dX4_alone_61 1 rfl ?_
            refine gf_X4_16 hx 0 RW_o rfl dX4_alone_62 ?_
            refine V_iload_n hx dX4_alone_65 2 rfl ?_
            refine V_calli hx (y_turn l hk R1 (wal T c.toNat i) hR1 hzi (c := c) (by omega) (by omega) (by omega) hki hmi) cw_X4_81 (RMn (by decide) (by decide)) rfl (iy 1 0) (RW_s hk) rfl rfl (Nat.le_of_ble_eq_true rfl) dX4_alone_66 0 0 rfl rfl (fun z7 ws7 e7 => ?_)
            obtain ⟨rfl, R7, hR7, rfl⟩ := e7
            refine V_pop hx dX4_alone_69 rfl ?_
            refine V_iincN hx dX4_alone_70 0 rfl [(3, .int (iZ (((i + 1 : Nat) : Int)))), (0, .ref (md 0)), (1, .int (iZ (c))), (2, .int (iZ (d)))] (by decide) rfl ?_
            refine V_goto hx dX4_alone_73 48 (by decide) ?_
            exact V_sub [0, 1, 2, 3] rfl (ih (i + 1) _ (by omega) (by omega) hR7)
      refine V_ws (ws' := _) rfl ?_
      exact V_sub [0, 1, 2, 3] rfl (hL48 ((T (7 + 8 * c.toNat) 0).toNat + 1) 0 _ (by omega) (by omega) hB1)
    · refine V_aload_n hx dX4_alone_21 0 rfl ?_
      refine V_iconst hx dX4_alone_22 ?_
      refine V_calli hx (z_no l R (n := 1)) cw_X4_33 (RMn (by decide) (by decide)) rfl 0 RW_o rfl rfl (Nat.le_of_ble_eq_true rfl) dX4_alone_23 0 0 rfl rfl (fun z8 ws8 e8 => ?_)
      obtain ⟨rfl, rfl⟩ := e8
      exact hE _ _ _ _ dX4_alone_26 rfl (Or.inr ⟨by omega, rfl⟩)
theorem adF_w (T : TS) : ∀ i : Nat, (adF T i).1 ≠ -1 → 0 ≤ (adF T i).1 ∧ (adF T i).1 < i ∧ (adF T i).2.1 = sm (nc T) (clF T (adF T i).1.toNat) ∧ (adF T i).2.2 = T (7 + 8 * (adF T i).1.toNat) 1
  | 0, h => absurd rfl h
  | i + 1, h => by
    rw [adF] at h ⊢
    split
    · rename_i h1
      rw [if_pos h1] at h
      split
      · refine ⟨Int.natCast_nonneg i, ?_, ?_, ?_⟩
        · show (i : Int) < ((i + 1 : Nat) : Int); omega
        · show sm (nc T) (clF T i) = sm (nc T) (clF T ((i : Int).toNat)); rw [Int.toNat_natCast]
        · show T (7 + 8 * i) 1 = T (7 + 8 * ((i : Int).toNat)) 1; rw [Int.toNat_natCast]
      · rename_i h2
        rw [if_neg h2] at h
        obtain ⟨a, b, c, d⟩ := adF_w T i h
        exact ⟨a, by omega, c, d⟩
    · rename_i h1
      rw [if_neg h1] at h
      obtain ⟨a, b, c, d⟩ := adF_w T i h
      exact ⟨a, by omega, c, d⟩
theorem adF_z (T : TS) (i : Nat) (h6 : i ≤ 6) : -1 ≤ (adF T i).1 ∧ (adF T i).1 ≤ 6 := by
  by_cases h : (adF T i).1 = -1
  · omega
  · have := adF_w T i h; omega
set_option maxHeartbeats 4000000 in
set_option maxRecDepth 100000 in
theorem z_advise (l : Launch) {g : GT} {md : Nat → Nat} {h : Int} {Q : Nat → TS} (R T : TS) (hR : REL R T) (hn1 : 1 ≤ T 0 0) (hn8 : T 0 0 ≤ 8) (hc0 : 0 ≤ T 0 1) (hc6 : T 0 1 ≤ 6) (hdn : ∀ c : Nat, (c : Int) < T 0 1 → T (7 + 8 * c) 2 = 0 ∨ T (7 + 8 * c) 2 = 1) : MI l yX4_advise cX4_advise 4 .int (rmN 6) g [.ref (md 0)] (RW g md h Q 0 R) (fun z ws9 => z = (adF T (nc T)).1 ∧ ws9 = RW g md 0 Q 0 R) := by
  refine MI.of (own := RX4) (by decide) rfl (Nat.le_of_ble_eq_true rfl) (fun x hx hE => ?_)
  have hk : 0 < 2 := by decide
  obtain ⟨hT, r00, r01, r02, r12, rcc⟩ := id hR.1
  have hnc : ((nc T : Nat) : Int) = T 0 1 := Int.toNat_of_nonneg (by omega)
  refine V_lv (lv' := [(0, .ref (md 0))]) rfl ?_
  refine V_aload_n hx dX4_advise_0 0 rfl ?_
  refine V_iconst hx dX4_advise_1 ?_
  refine pf_X4_19 hx 0 RW_o (Nat.le_of_ble_eq_true rfl) (RW g md 0 Q 0 R) RW_seth dX4_advise_2 ?_
  refine V_iconst hx dX4_advise_5 ?_
  refine V_istore_n hx dX4_advise_6 [(1, .int (iZ ((-1)))), (0, .ref (md 0))] (by decide) rfl ?_
  refine V_iconst hx dX4_advise_7 ?_
  refine V_istore_n hx dX4_advise_8 [(2, .int (iZ (0))), (1, .int (iZ ((-1)))), (0, .ref (md 0))] (by decide) rfl ?_
  have hL9 : ∀ (n : Nat) (i : Nat), nc T < i + n → i ≤ nc T → V x 0 0 (RW g md 0 Q 0 R) 9 [(2, .int (iZ ((i : Int)))), (1, .int (iZ ((adF T i).1))), (0, .ref (md 0))] [] := by
    intro n
    induction n with
    | zero =>
      intro i g1 g2 
      exact absurd g1 (by omega)
    | succ n ih =>
      intro i g1 g2 
      obtain ⟨hb1, hb2⟩ := adF_z T i (by omega)
      have hcb := clF_b T i
      refine V_iload_n hx dX4_advise_9 0 rfl ?_
      refine V_aload_n hx dX4_advise_10 2 rfl ?_
      refine gf_X4_10 hx 0 RW_o rfl dX4_advise_11 ?_
      refine gf_X4_30 hx (iy 0 0) (RW_s hk) rfl dX4_advise_14 ?_
      refine V_icmp_ge hx dX4_advise_17 92 (by decide) ⟨by omega, by omega⟩ (by first | assumption | exact hT _ _ | exact ⟨by omega, by omega⟩) (fun h17 => ?_) (fun h17 => ?_)
      · refine V_iload_n hx dX4_advise_92 1 rfl ?_
        exact hE _ _ _ _ dX4_advise_93 rfl ⟨by rw [show i = nc T by omega], rfl⟩
      · obtain ⟨-, q5, -⟩ := rcc i (by omega)
        refine V_aload_n hx dX4_advise_20 2 rfl ?_
        refine gf_X4_10 hx 0 RW_o rfl dX4_advise_21 ?_
        refine V_iload_n hx dX4_advise_24 0 rfl ?_
        refine V_calli hx (y_goesOn l hk R T hR (c := (i : Int)) (by omega) (by omega) (by omega)) cw_X4_78 (RMn (by decide) (by decide)) rfl (iy 0 0) (RW_s hk) rfl rfl (Nat.le_of_ble_eq_true rfl) dX4_advise_25 0 0 rfl rfl (fun z1 ws1 e1 => ?_)
        obtain ⟨rfl, rfl⟩ := e1
        refine V_top (b := bz (awP T i)) rfl ?_
        refine V_ifb_ne hx dX4_advise_28 34 (by decide) (fun h28 => ?_) (fun h28 => ?_)
        · refine V_iload_n hx dX4_advise_34 1 rfl ?_
          refine V_iconst hx dX4_advise_35 ?_
          refine V_icmp_ne hx dX4_advise_36 43 (by decide) (by first | assumption | exact hT _ _ | exact ⟨by omega, by omega⟩) ⟨by decide, by decide⟩ (fun h36 => ?_) (fun h36 => ?_)
          · obtain ⟨b0, b1, b2, b3⟩ := adF_w T i (by omega)
            obtain ⟨-, p5, -⟩ := rcc (adF T i).1.toNat (by omega)
            have hcb2 := clF_b T (adF T i).1.toNat
            refine V_aload_n hx dX4_advise_43 2 rfl ?_
            refine V_iload_n hx dX4_advise_44 1 rfl ?_
            refine V_calli hx (z_clashesOf l R T hR (by omega) (by omega) (by omega) (by omega) hdn (a := (adF T i).1) (by omega) (by omega)) cw_X4_161 (RMn (by decide) (by decide)) rfl 0 RW_o rfl rfl (Nat.le_of_ble_eq_true rfl) dX4_advise_45 0 0 rfl rfl (fun z2 ws2 e2 => ?_)
            obtain ⟨rfl, rfl⟩ := e2
            refine V_aload_n hx dX4_advise_48 2 rfl ?_
            refine V_iload_n hx dX4_advise_49 0 rfl ?_
            refine V_calli hx (z_clashesOf l R T hR (by omega) (by omega) (by omega) (by omega) hdn (a := (i : Int)) (by omega) (by omega)) cw_X4_161 (RMn (by decide) (by decide)) rfl 0 RW_o rfl rfl (Nat.le_of_ble_eq_true rfl) dX4_advise_50 0 0 rfl rfl (fun z3 ws3 e3 => ?_)
            obtain ⟨rfl, rfl⟩ := e3
            refine V_top (b := sm (nc T) (clF T i)) rfl ?_
            refine V_isub hx dX4_advise_53 ?_
            refine V_istore_n hx dX4_advise_54 [(3, .int (iZ ((sm (nc T) (clF T (((adF T i).1).toNat))) - (sm (nc T) (clF T i))))), (2, .int (iZ ((i : Int)))), (1, .int (iZ ((adF T i).1))), (0, .ref (md 0))] (by decide) rfl ?_
            refine V_iload_n hx dX4_advise_55 0 rfl ?_
            refine V_if_gt hx dX4_advise_56 84 (by decide) (by first | assumption | exact hT _ _ | exact ⟨by omega, by omega⟩) (fun h56 => ?_) (fun h56 => ?_)
            · refine V_iload_n hx dX4_advise_84 1 rfl ?_
              refine V_istore_n hx dX4_advise_85 [(1, .int (iZ ((i : Int)))), (3, .int (iZ ((sm (nc T) (clF T (((adF T i).1).toNat))) - (sm (nc T) (clF T i))))), (2, .int (iZ ((i : Int)))), (0, .ref (md 0))] (by decide) rfl ?_
              refine V_iincN hx dX4_advise_86 2 rfl [(2, .int (iZ (((i + 1 : Nat) : Int)))), (1, .int (iZ ((i : Int)))), (3, .int (iZ ((sm (nc T) (clF T (((adF T i).1).toNat))) - (sm (nc T) (clF T i))))), (0, .ref (md 0))] (by decide) rfl ?_
              refine V_goto hx dX4_advise_89 9 (by decide) ?_
              refine V_sub (lv' := [(2, .int (iZ (((i + 1 : Nat) : Int)))), (1, .int (iZ ((i : Int)))), (0, .ref (md 0))]) [0, 1, 3] rfl ?_
              refine V_lv (lv' := [(2, .int (iZ ((i + 1 : Nat) : Int))), (1, .int (iZ ((adF T (i + 1)).1))), (0, .ref (md 0))]) (by rw [adF_b1 h28 (by omega)]) ?_
              exact ih (i + 1) (by omega) (by omega)
            · refine V_iload_n hx dX4_advise_59 0 rfl ?_
              refine V_if_ne hx dX4_advise_60 86 (by decide) (by first | assumption | exact hT _ _ | exact ⟨by omega, by omega⟩) (fun h60 => ?_) (fun h60 => ?_)
              · refine V_iincN hx dX4_advise_86 1 rfl [(2, .int (iZ (((i + 1 : Nat) : Int)))), (3, .int (iZ ((sm (nc T) (clF T (((adF T i).1).toNat))) - (sm (nc T) (clF T i))))), (1, .int (iZ ((adF T i).1))), (0, .ref (md 0))] (by decide) rfl ?_
                refine V_goto hx dX4_advise_89 9 (by decide) ?_
                refine V_sub (lv' := [(2, .int (iZ (((i + 1 : Nat) : Int)))), (1, .int (iZ ((adF T i).1))), (0, .ref (md 0))]) [0, 2, 3] rfl ?_
                refine V_lv (lv' := [(2, .int (iZ ((i + 1 : Nat) : Int))), (1, .int (iZ ((adF T (i + 1)).1))), (0, .ref (md 0))]) (by rw [adF_b0 h28 (by omega)]) ?_
                exact ih (i + 1) (by omega) (by omega)
              · refine V_aload_n hx dX4_advise_63 3 rfl ?_
                refine gf_X4_10 hx 0 RW_o rfl dX4_advise_64 ?_
                refine gf_X4_63 hx (iy 0 0) (RW_s hk) rfl dX4_advise_67 ?_
                refine V_iload_n hx dX4_advise_70 1 rfl ?_
                refine V_iald hx (by omega) (by omega) (by decide) (iy 0 5) (RW_a hk 5 (by decide) (n := 6) rfl) (v := R 5 i) rfl dX4_advise_71 ?_
                refine V_aload_n hx dX4_advise_72 3 rfl ?_
                refine gf_X4_10 hx 0 RW_o rfl dX4_advise_73 ?_
                refine gf_X4_63 hx (iy 0 0) (RW_s hk) rfl dX4_advise_76 ?_
                refine V_iload_n hx dX4_advise_79 2 rfl ?_
                refine V_iald hx (by omega) (by omega) (by decide) (iy 0 5) (RW_a hk 5 (by decide) (n := 6) rfl) (v := R 5 (((adF T i).1).toNat)) rfl dX4_advise_80 ?_
                refine V_icmp_le hx dX4_advise_81 86 (by decide) (by first | assumption | exact hT _ _ | exact ⟨by omega, by omega⟩) (by first | assumption | exact hT _ _ | exact ⟨by omega, by omega⟩) (fun h81 => ?_) (fun h81 => ?_)
                · refine V_iincN hx dX4_advise_86 1 rfl [(2, .int (iZ (((i + 1 : Nat) : Int)))), (3, .int (iZ ((sm (nc T) (clF T (((adF T i).1).toNat))) - (sm (nc T) (clF T i))))), (1, .int (iZ ((adF T i).1))), (0, .ref (md 0))] (by decide) rfl ?_
                  refine V_goto hx dX4_advise_89 9 (by decide) ?_
                  refine V_sub (lv' := [(2, .int (iZ (((i + 1 : Nat) : Int)))), (1, .int (iZ ((adF T i).1))), (0, .ref (md 0))]) [0, 2, 3] rfl ?_
                  refine V_lv (lv' := [(2, .int (iZ ((i + 1 : Nat) : Int))), (1, .int (iZ ((adF T (i + 1)).1))), (0, .ref (md 0))]) (by rw [adF_b0 h28 (by omega)]) ?_
                  exact ih (i + 1) (by omega) (by omega)
                · refine V_iload_n hx dX4_advise_84 1 rfl ?_
                  refine V_istore_n hx dX4_advise_85 [(1, .int (iZ ((i : Int)))), (3, .int (iZ ((sm (nc T) (clF T (((adF T i).1).toNat))) - (sm (nc T) (clF T i))))), (2, .int (iZ ((i : Int)))), (0, .ref (md 0))] (by decide) rfl ?_
                  refine V_iincN hx dX4_advise_86 2 rfl [(2, .int (iZ (((i + 1 : Nat) : Int)))), (1, .int (iZ ((i : Int)))), (3, .int (iZ ((sm (nc T) (clF T (((adF T i).1).toNat))) - (sm (nc T) (clF T i))))), (0, .ref (md 0))] (by decide) rfl ?_
                  refine V_goto hx dX4_advise_89 9 (by decide) ?_
                  refine V_sub (lv' := [(2, .int (iZ (((i + 1 : Nat) : Int)))), (1, .int (iZ ((i : Int)))), (0, .ref (md 0))]) [0, 1, 3] rfl ?_
                  refine V_lv (lv' := [(2, .int (iZ ((i + 1 : Nat) : Int))), (1, .int (iZ ((adF T (i + 1)).1))), (0, .ref (md 0))]) (by rw [adF_b1 h28 (by omega)]) ?_
                  exact ih (i + 1) (by omega) (by omega)
          · refine V_iconst hx dX4_advise_39 ?_
            refine V_goto hx dX4_advise_40 54 (by decide) ?_
            refine V_istore_n hx dX4_advise_54 [(3, .int (iZ (1))), (2, .int (iZ ((i : Int)))), (1, .int (iZ ((adF T i).1))), (0, .ref (md 0))] (by decide) rfl ?_
            refine V_iload_n hx dX4_advise_55 0 rfl ?_
            refine V_if_gt hx dX4_advise_56 84 (by decide) ⟨by decide, by decide⟩ (fun h56_2 => ?_) (fun h56_2 => absurd h56_2 (by decide))
            refine V_iload_n hx dX4_advise_84 1 rfl ?_
            refine V_istore_n hx dX4_advise_85 [(1, .int (iZ ((i : Int)))), (3, .int (iZ (1))), (2, .int (iZ ((i : Int)))), (0, .ref (md 0))] (by decide) rfl ?_
            refine V_iincN hx dX4_advise_86 2 rfl [(2, .int (iZ (((i + 1 : Nat) : Int)))), (1, .int (iZ ((i : Int)))), (3, .int (iZ (1))), (0, .ref (md 0))] (by decide) rfl ?_
            refine V_goto hx dX4_advise_89 9 (by decide) ?_
            refine V_sub (lv' := [(2, .int (iZ (((i + 1 : Nat) : Int)))), (1, .int (iZ ((i : Int)))), (0, .ref (md 0))]) [0, 1, 3] rfl ?_
            refine V_lv (lv' := [(2, .int (iZ ((i + 1 : Nat) : Int))), (1, .int (iZ ((adF T (i + 1)).1))), (0, .ref (md 0))]) (by rw [adF_b1 h28 (by omega)]) ?_
            exact ih (i + 1) (by omega) (by omega)
        · refine V_goto hx dX4_advise_31 86 (by decide) ?_
          refine V_iincN hx dX4_advise_86 0 rfl [(2, .int (iZ (((i + 1 : Nat) : Int)))), (1, .int (iZ ((adF T i).1))), (0, .ref (md 0))] (by decide) rfl ?_
          refine V_goto hx dX4_advise_89 9 (by decide) ?_
          refine V_sub (lv' := [(2, .int (iZ (((i + 1 : Nat) : Int)))), (1, .int (iZ ((adF T i).1))), (0, .ref (md 0))]) [0, 1, 2] rfl ?_
          refine V_lv (lv' := [(2, .int (iZ ((i + 1 : Nat) : Int))), (1, .int (iZ ((adF T (i + 1)).1))), (0, .ref (md 0))]) (by rw [adF_no h28]) ?_
          exact ih (i + 1) (by omega) (by omega)
  refine V_ws (ws' := RW g md 0 Q 0 R) rfl ?_
  exact V_sub [0, 1, 2] rfl (hL9 (nc T + 1) 0 (by omega) (by omega))
set_option maxHeartbeats 4000000 in
set_option maxRecDepth 100000 in
theorem z_digest (l : Launch) {g : GT} {md : Nat → Nat} {h : Int} {Q : Nat → TS} (R T : TS) (hR : REL R T) (hn1 : 1 ≤ T 0 0) (hn8 : T 0 0 ≤ 8) (hc0 : 0 ≤ T 0 1) (hc6 : T 0 1 ≤ 6) (hl0 : 0 ≤ T 0 2) (hl9 : T 0 2 < 2147483647) (hdn : ∀ c : Nat, (c : Int) < T 0 1 → T (7 + 8 * c) 2 = 0 ∨ T (7 + 8 * c) 2 = 1) (hw8 : ∀ c : Nat, (c : Int) < T 0 1 → W8 T c) : ML l yX4_digest cX4_digest 6 (rmN 6) g [.ref (md 0)] (RW g md h Q 0 R) (fun z ws9 => z = dgV T ∧ ws9 = RW g md 0 Q 0 R) := by
  refine ML.of (own := RX4) (by decide) rfl (Nat.le_of_ble_eq_true rfl) (fun x hx hE => ?_)
  have hk : 0 < 2 := by decide
  obtain ⟨hT, r00, r01, r02, r12, rcc⟩ := id hR.1
  have hnd : ((nd T : Nat) : Int) = T 0 0 := Int.toNat_of_nonneg (by omega)
  have hnc : ((nc T : Nat) : Int) = T 0 1 := Int.toNat_of_nonneg (by omega)
  have hkp := kpV_b hl0
  have hkq : kpV T = if 10 < T 0 2 then 10 else T 0 2 := rfl
  have hkn : (((kpV T).toNat : Nat) : Int) = kpV T := Int.toNat_of_nonneg hkp.1
  refine V_lv (lv' := [(0, .ref (md 0))]) rfl ?_
  refine V_aload_n hx dX4_digest_0 0 rfl ?_
  refine V_iconst hx dX4_digest_1 ?_
  refine pf_X4_19 hx 0 RW_o (Nat.le_of_ble_eq_true rfl) (RW g md 0 Q 0 R) RW_seth dX4_digest_2 ?_
  refine V_ldc2 hx (v := 1811) dX4_digest_5 q872 ?_
  refine V_lstore_n hx dX4_digest_8 [(1, .long (1811)), (0, .ref (md 0))] (by decide) rfl ?_
  refine V_iconst hx dX4_digest_9 ?_
  refine V_istore_n hx dX4_digest_10 [(3, .int (iZ (0))), (1, .long (1811)), (0, .ref (md 0))] (by decide) rfl ?_
  have hL11 : ∀ (n : Nat) (i : Nat), 7 < i + n → i ≤ 7 → V x 0 0 (RW g md 0 Q 0 R) 11 [(3, .int (iZ ((i : Int)))), (1, .long (dgN i (fun w => cnV T w) 1811)), (0, .ref (md 0))] [] := by
    intro n
    induction n with
    | zero =>
      intro i g1 g2 
      exact absurd g1 (by omega)
    | succ n ih =>
      intro i g1 g2 
      refine V_iload_n hx dX4_digest_11 0 rfl ?_
      refine V_bipush hx dX4_digest_12 rfl ?_
      refine V_icmp_gt hx dX4_digest_14 39 (by decide) ⟨by omega, by omega⟩ ⟨by decide, by decide⟩ (fun h14 => ?_) (fun h14 => ?_)
      · refine V_iconst hx dX4_digest_39 ?_
        refine V_istore_n hx dX4_digest_40 [(3, .int (iZ (0))), (1, .long (dgN i (fun w => cnV T w) 1811)), (0, .ref (md 0))] (by decide) rfl ?_
        have hL41 : ∀ (n : Nat) (i : Nat), nd T < i + n → i ≤ nd T → V x 0 0 (RW g md 0 Q 0 R) 41 [(3, .int (iZ ((i : Int)))), (1, .long (dgDr T i (dgN 7 (fun w => cnV T w) 1811))), (0, .ref (md 0))] [] := by
          intro n
          induction n with
          | zero =>
            intro i g1 g2 
            exact absurd g1 (by omega)
          | succ n ih =>
            intro i g1 g2 
            refine V_iload_n hx dX4_digest_41 0 rfl ?_
            refine V_aload_n hx dX4_digest_42 2 rfl ?_
            refine gf_X4_10 hx 0 RW_o rfl dX4_digest_43 ?_
            refine gf_X4_23 hx (iy 0 0) (RW_s hk) rfl dX4_digest_46 ?_
            refine V_icmp_ge hx dX4_digest_49 88 (by decide) ⟨by omega, by omega⟩ (by first | assumption | exact hT _ _ | exact ⟨by omega, by omega⟩) (fun h49 => ?_) (fun h49 => ?_)
            · refine V_iconst hx dX4_digest_88 ?_
              refine V_istore_n hx dX4_digest_89 [(3, .int (iZ (0))), (1, .long (dgDr T i (dgN 7 (fun w => cnV T w) 1811))), (0, .ref (md 0))] (by decide) rfl ?_
              have hL90 : ∀ (n : Nat) (i : Nat), nc T < i + n → i ≤ nc T → V x 0 0 (RW g md 0 Q 0 R) 90 [(3, .int (iZ ((i : Int)))), (1, .long (dgCk T i (dgDr T (nd T) (dgN 7 (fun w => cnV T w) 1811)))), (0, .ref (md 0))] [] := by
                intro n
                induction n with
                | zero =>
                  intro i g1 g2 
                  exact absurd g1 (by omega)
                | succ n ih =>
                  intro i g1 g2 
                  refine V_iload_n hx dX4_digest_90 0 rfl ?_
                  refine V_aload_n hx dX4_digest_91 2 rfl ?_
                  refine gf_X4_10 hx 0 RW_o rfl dX4_digest_92 ?_
                  refine gf_X4_30 hx (iy 0 0) (RW_s hk) rfl dX4_digest_95 ?_
                  refine V_icmp_ge hx dX4_digest_98 191 (by decide) ⟨by omega, by omega⟩ (by first | assumption | exact hT _ _ | exact ⟨by omega, by omega⟩) (fun h98 => ?_) (fun h98 => ?_)
                  · refine V_iconst hx dX4_digest_191 ?_
                    refine V_istore_n hx dX4_digest_192 [(3, .int (iZ (0))), (1, .long (dgCk T i (dgDr T (nd T) (dgN 7 (fun w => cnV T w) 1811)))), (0, .ref (md 0))] (by decide) rfl ?_
                    have hL193 : ∀ (n : Nat) (i : Nat), (kpV T).toNat < i + n → i ≤ (kpV T).toNat → V x 0 0 (RW g md 0 Q 0 R) 193 [(3, .int (iZ ((i : Int)))), (1, .long (dgCl T i (dgCk T (nc T) (dgDr T (nd T) (dgN 7 (fun w => cnV T w) 1811))))), (0, .ref (md 0))] [] := by
                      intro n
                      induction n with
                      | zero =>
                        intro i g1 g2 
                        exact absurd g1 (by omega)
                      | succ n ih =>
                        intro i g1 g2 
                        refine V_iload_n hx dX4_digest_193 0 rfl ?_
                        refine V_bipush hx dX4_digest_194 rfl ?_
                        refine V_aload_n hx dX4_digest_196 2 rfl ?_
                        refine gf_X4_10 hx 0 RW_o rfl dX4_digest_197 ?_
                        refine gf_X4_126 hx (iy 0 0) (RW_s hk) rfl dX4_digest_200 ?_
                        refine V_min hx qm811 qm175 q13 qm176 ⟨by decide, by decide⟩ (by first | assumption | exact hT _ _ | exact ⟨by omega, by omega⟩) (by decide) (Nat.le_of_ble_eq_true rfl) (Nat.zero_le _) (Nat.zero_le _) dX4_digest_203 ?_
                        refine V_top (b := kpV T) (by rw [hkq]; (repeat' split) <;> omega) ?_
                        refine V_icmp_ge hx dX4_digest_206 245 (by decide) ⟨by omega, by omega⟩ (by first | assumption | exact hT _ _ | exact ⟨by omega, by omega⟩) (fun h206 => ?_) (fun h206 => ?_)
                        · refine V_lload_n hx dX4_digest_245 1 rfl ?_
                          exact hE _ _ _ _ dX4_digest_246 ⟨by rw [show i = (kpV T).toNat by omega]; rfl, rfl⟩
                        · have hk2 : (i : Int) < 10 ∧ (i : Int) < T 0 2 := by (split at hkq <;> omega)
                          refine V_iconst hx dX4_digest_209 ?_
                          refine V_istore hx dX4_digest_210 [(4, .int (iZ (0))), (3, .int (iZ ((i : Int)))), (1, .long (dgCl T i (dgCk T (nc T) (dgDr T (nd T) (dgN 7 (fun w => cnV T w) 1811))))), (0, .ref (md 0))] (by decide) rfl ?_
                          have hL212 : ∀ (m : Nat) (j : Nat), 3 < j + m → j ≤ 3 → V x 0 0 (RW g md 0 Q 0 R) 212 [(4, .int (iZ ((j : Int)))), (1, .long (dgN j (fun w => cfV T i w) (dgCl T i (dgCk T (nc T) (dgDr T (nd T) (dgN 7 (fun w => cnV T w) 1811)))))), (0, .ref (md 0)), (3, .int (iZ ((i : Int))))] [] := by
                            intro m
                            induction m with
                            | zero =>
                              intro j f1 f2 
                              exact absurd f1 (by omega)
                            | succ m ih2 =>
                              intro j f1 f2 
                              refine V_iload hx dX4_digest_212 0 rfl ?_
                              refine V_iconst hx dX4_digest_214 ?_
                              refine V_icmp_gt hx dX4_digest_215 239 (by decide) ⟨by omega, by omega⟩ ⟨by decide, by decide⟩ (fun h215 => ?_) (fun h215 => ?_)
                              · refine V_iincN hx dX4_digest_239 3 rfl [(3, .int (iZ (((i + 1 : Nat) : Int)))), (4, .int (iZ ((j : Int)))), (1, .long (dgN j (fun w => cfV T i w) (dgCl T i (dgCk T (nc T) (dgDr T (nd T) (dgN 7 (fun w => cnV T w) 1811)))))), (0, .ref (md 0))] (by decide) rfl ?_
                                refine V_goto hx dX4_digest_242 193 (by decide) ?_
                                refine V_sub (lv' := [(3, .int (iZ (((i + 1 : Nat) : Int)))), (1, .long (dgN j (fun w => cfV T i w) (dgCl T i (dgCk T (nc T) (dgDr T (nd T) (dgN 7 (fun w => cnV T w) 1811)))))), (0, .ref (md 0))]) [0, 2, 3] rfl ?_
                                refine V_lv (lv' := [(3, .int (iZ (((i + 1 : Nat) : Int)))), (1, .long (dgCl T (i + 1) (dgCk T (nc T) (dgDr T (nd T) (dgN 7 (fun w => cnV T w) 1811))))), (0, .ref (md 0))]) (by rw [show j = 3 by omega]; rfl) ?_
                                exact ih (i + 1) (by omega) (by omega)
                              · refine V_lload_n hx dX4_digest_218 1 rfl ?_
                                refine V_ldc2 hx (v := 31) dX4_digest_219 q873 ?_
                                refine V_lmul hx dX4_digest_222 ?_
                                refine V_aload_n hx dX4_digest_223 2 rfl ?_
                                refine V_iload_n hx dX4_digest_224 3 rfl ?_
                                refine V_iload hx dX4_digest_225 0 rfl ?_
                                refine V_calli hx (z_closingTold l R T hR (b := (i : Int)) (by omega) (by omega) (by omega) (by omega) (what := (j : Int)) (by omega) (by omega)) cw_X4_143 (RMn (by decide) (by decide)) rfl 0 RW_o rfl rfl (Nat.le_of_ble_eq_true rfl) dX4_digest_227 0 0 rfl rfl (fun z1 ws1 e1 => ?_)
                                obtain ⟨rfl, rfl⟩ := e1
                                refine V_top (b := cfV T (i : Int) (j : Int)) rfl ?_
                                refine V_i2l hx dX4_digest_230 ?_
                                refine V_ladd hx dX4_digest_231 ?_
                                refine V_lstore_n hx dX4_digest_232 [(1, .long (((dgN j (fun w => cfV T i w) (dgCl T i (dgCk T (nc T) (dgDr T (nd T) (dgN 7 (fun w => cnV T w) 1811))))) * 31) + ((iZ (cfV T (i : Int) (j : Int))).toInt64))), (4, .int (iZ ((j : Int)))), (0, .ref (md 0)), (3, .int (iZ ((i : Int))))] (by decide) rfl ?_
                                refine V_iincN hx dX4_digest_233 1 rfl [(4, .int (iZ (((j + 1 : Nat) : Int)))), (1, .long (((dgN j (fun w => cfV T i w) (dgCl T i (dgCk T (nc T) (dgDr T (nd T) (dgN 7 (fun w => cnV T w) 1811))))) * 31) + ((iZ (cfV T (i : Int) (j : Int))).toInt64))), (0, .ref (md 0)), (3, .int (iZ ((i : Int))))] (by decide) rfl ?_
                                refine V_goto hx dX4_digest_236 212 (by decide) ?_
                                refine V_sub (lv' := [(4, .int (iZ (((j + 1 : Nat) : Int)))), (1, .long (((dgN j (fun w => cfV T i w) (dgCl T i (dgCk T (nc T) (dgDr T (nd T) (dgN 7 (fun w => cnV T w) 1811))))) * 31) + ((iZ (cfV T (i : Int) (j : Int))).toInt64))), (0, .ref (md 0)), (3, .int (iZ ((i : Int))))]) [0, 1, 2, 3] rfl ?_
                                refine V_lv (lv' := [(4, .int (iZ (((j + 1 : Nat) : Int)))), (1, .long (dgN (j + 1) (fun w => cfV T i w) (dgCl T i (dgCk T (nc T) (dgDr T (nd T) (dgN 7 (fun w => cnV T w) 1811)))))), (0, .ref (md 0)), (3, .int (iZ ((i : Int))))]) rfl ?_
                                exact ih2 (j + 1) (by omega) (by omega)
                          refine V_ws (ws' := RW g md 0 Q 0 R) rfl ?_
                          exact V_sub [0, 2, 3, 1] rfl (hL212 (3 + 1) 0 (by omega) (by omega))
                    refine V_ws (ws' := RW g md 0 Q 0 R) rfl ?_
                    exact V_sub [0, 1, 2] (by rw [show i = nc T by omega]; rfl) (hL193 ((kpV T).toNat + 1) 0 (by omega) (by omega))
                  · refine V_iconst hx dX4_digest_101 ?_
                    refine V_istore hx dX4_digest_102 [(4, .int (iZ (0))), (3, .int (iZ ((i : Int)))), (1, .long (dgCk T i (dgDr T (nd T) (dgN 7 (fun w => cnV T w) 1811)))), (0, .ref (md 0))] (by decide) rfl ?_
                    have hL104 : ∀ (m : Nat) (j : Nat), 7 < j + m → j ≤ 7 → V x 0 0 (RW g md 0 Q 0 R) 104 [(4, .int (iZ ((j : Int)))), (1, .long (dgN j (fun w => ckV T i w) (dgCk T i (dgDr T (nd T) (dgN 7 (fun w => cnV T w) 1811))))), (0, .ref (md 0)), (3, .int (iZ ((i : Int))))] [] := by
                      intro m
                      induction m with
                      | zero =>
                        intro j f1 f2 
                        exact absurd f1 (by omega)
                      | succ m ih2 =>
                        intro j f1 f2 
                        refine V_iload hx dX4_digest_104 0 rfl ?_
                        refine V_bipush hx dX4_digest_106 rfl ?_
                        refine V_icmp_gt hx dX4_digest_108 132 (by decide) ⟨by omega, by omega⟩ ⟨by decide, by decide⟩ (fun h108 => ?_) (fun h108 => ?_)
                        · refine V_iconst hx dX4_digest_132 ?_
                          refine V_istore hx dX4_digest_133 [(4, .int (iZ (0))), (1, .long (dgN j (fun w => ckV T i w) (dgCk T i (dgDr T (nd T) (dgN 7 (fun w => cnV T w) 1811))))), (0, .ref (md 0)), (3, .int (iZ ((i : Int))))] (by decide) rfl ?_
                          have hL135 : ∀ (m2 : Nat) (j : Nat), nd T < j + m2 → j ≤ nd T → V x 0 0 (RW g md 0 Q 0 R) 135 [(4, .int (iZ ((j : Int)))), (1, .long (dgSl T i j (dgN 7 (fun w => ckV T i w) (dgCk T i (dgDr T (nd T) (dgN 7 (fun w => cnV T w) 1811)))))), (0, .ref (md 0)), (3, .int (iZ ((i : Int))))] [] := by
                            intro m2
                            induction m2 with
                            | zero =>
                              intro j f3 f4 
                              exact absurd f3 (by omega)
                            | succ m2 ih4 =>
                              intro j f3 f4 
                              refine V_iload hx dX4_digest_135 0 rfl ?_
                              refine V_aload_n hx dX4_digest_137 2 rfl ?_
                              refine gf_X4_10 hx 0 RW_o rfl dX4_digest_138 ?_
                              refine gf_X4_23 hx (iy 0 0) (RW_s hk) rfl dX4_digest_141 ?_
                              refine V_icmp_ge hx dX4_digest_144 185 (by decide) ⟨by omega, by omega⟩ (by first | assumption | exact hT _ _ | exact ⟨by omega, by omega⟩) (fun h144 => ?_) (fun h144 => ?_)
                              · refine V_iincN hx dX4_digest_185 3 rfl [(3, .int (iZ (((i + 1 : Nat) : Int)))), (4, .int (iZ ((j : Int)))), (1, .long (dgSl T i j (dgN 7 (fun w => ckV T i w) (dgCk T i (dgDr T (nd T) (dgN 7 (fun w => cnV T w) 1811)))))), (0, .ref (md 0))] (by decide) rfl ?_
                                refine V_goto hx dX4_digest_188 90 (by decide) ?_
                                refine V_sub (lv' := [(3, .int (iZ (((i + 1 : Nat) : Int)))), (1, .long (dgSl T i j (dgN 7 (fun w => ckV T i w) (dgCk T i (dgDr T (nd T) (dgN 7 (fun w => cnV T w) 1811)))))), (0, .ref (md 0))]) [0, 2, 3] rfl ?_
                                refine V_lv (lv' := [(3, .int (iZ (((i + 1 : Nat) : Int)))), (1, .long (dgCk T (i + 1) (dgDr T (nd T) (dgN 7 (fun w => cnV T w) 1811)))), (0, .ref (md 0))]) (by rw [show j = nd T by omega]; rfl) ?_
                                exact ih (i + 1) (by omega) (by omega)
                              · refine V_iconst hx dX4_digest_147 ?_
                                refine V_istore hx dX4_digest_148 [(5, .int (iZ (0))), (4, .int (iZ ((j : Int)))), (1, .long (dgSl T i j (dgN 7 (fun w => ckV T i w) (dgCk T i (dgDr T (nd T) (dgN 7 (fun w => cnV T w) 1811)))))), (0, .ref (md 0)), (3, .int (iZ ((i : Int))))] (by decide) rfl ?_
                                have hL150 : ∀ (r : Nat) (e : Nat), 3 < e + r → e ≤ 3 → V x 0 0 (RW g md 0 Q 0 R) 150 [(5, .int (iZ ((e : Int)))), (1, .long (dgN e (fun w => slV T (7 + 8 * i) j w) (dgSl T i j (dgN 7 (fun w => ckV T i w) (dgCk T i (dgDr T (nd T) (dgN 7 (fun w => cnV T w) 1811))))))), (0, .ref (md 0)), (3, .int (iZ ((i : Int)))), (4, .int (iZ ((j : Int))))] [] := by
                                  intro r
                                  induction r with
                                  | zero =>
                                    intro e d1 d2 
                                    exact absurd d1 (by omega)
                                  | succ r ih3 =>
                                    intro e d1 d2 
                                    refine V_iload hx dX4_digest_150 0 rfl ?_
                                    refine V_iconst hx dX4_digest_152 ?_
                                    refine V_icmp_gt hx dX4_digest_153 179 (by decide) ⟨by omega, by omega⟩ ⟨by decide, by decide⟩ (fun h153 => ?_) (fun h153 => ?_)
                                    · refine V_iincN hx dX4_digest_179 4 rfl [(4, .int (iZ (((j + 1 : Nat) : Int)))), (5, .int (iZ ((e : Int)))), (1, .long (dgN e (fun w => slV T (7 + 8 * i) j w) (dgSl T i j (dgN 7 (fun w => ckV T i w) (dgCk T i (dgDr T (nd T) (dgN 7 (fun w => cnV T w) 1811))))))), (0, .ref (md 0)), (3, .int (iZ ((i : Int))))] (by decide) rfl ?_
                                      refine V_goto hx dX4_digest_182 135 (by decide) ?_
                                      refine V_sub (lv' := [(4, .int (iZ (((j + 1 : Nat) : Int)))), (1, .long (dgN e (fun w => slV T (7 + 8 * i) j w) (dgSl T i j (dgN 7 (fun w => ckV T i w) (dgCk T i (dgDr T (nd T) (dgN 7 (fun w => cnV T w) 1811))))))), (0, .ref (md 0)), (3, .int (iZ ((i : Int))))]) [0, 2, 3, 4] rfl ?_
                                      refine V_lv (lv' := [(4, .int (iZ (((j + 1 : Nat) : Int)))), (1, .long (dgSl T i (j + 1) (dgN 7 (fun w => ckV T i w) (dgCk T i (dgDr T (nd T) (dgN 7 (fun w => cnV T w) 1811)))))), (0, .ref (md 0)), (3, .int (iZ ((i : Int))))]) (by rw [show e = 3 by omega]; rfl) ?_
                                      exact ih4 (j + 1) (by omega) (by omega)
                                    · refine V_lload_n hx dX4_digest_156 1 rfl ?_
                                      refine V_ldc2 hx (v := 31) dX4_digest_157 q873 ?_
                                      refine V_lmul hx dX4_digest_160 ?_
                                      refine V_aload_n hx dX4_digest_161 2 rfl ?_
                                      refine V_iload_n hx dX4_digest_162 3 rfl ?_
                                      refine V_iload hx dX4_digest_163 4 rfl ?_
                                      refine V_iload hx dX4_digest_165 0 rfl ?_
                                      refine V_calli hx (z_slipTold l R T hR (by omega) (by omega) (c := (i : Int)) (by omega) (by omega) (by omega) (d := (j : Int)) (by omega) (by omega) (what := (e : Int)) (by omega) (by omega)) cw_X4_119 (RMn (by decide) (by decide)) rfl 0 RW_o rfl rfl (Nat.le_of_ble_eq_true rfl) dX4_digest_167 0 0 rfl rfl (fun z2 ws2 e2 => ?_)
                                      obtain ⟨rfl, rfl⟩ := e2
                                      refine V_top (b := slV T (7 + 8 * i) (j : Int) (e : Int)) rfl ?_
                                      refine V_i2l hx dX4_digest_170 ?_
                                      refine V_ladd hx dX4_digest_171 ?_
                                      refine V_lstore_n hx dX4_digest_172 [(1, .long (((dgN e (fun w => slV T (7 + 8 * i) j w) (dgSl T i j (dgN 7 (fun w => ckV T i w) (dgCk T i (dgDr T (nd T) (dgN 7 (fun w => cnV T w) 1811)))))) * 31) + ((iZ (slV T (7 + 8 * i) (j : Int) (e : Int))).toInt64))), (5, .int (iZ ((e : Int)))), (0, .ref (md 0)), (3, .int (iZ ((i : Int)))), (4, .int (iZ ((j : Int))))] (by decide) rfl ?_
                                      refine V_iincN hx dX4_digest_173 1 rfl [(5, .int (iZ (((e + 1 : Nat) : Int)))), (1, .long (((dgN e (fun w => slV T (7 + 8 * i) j w) (dgSl T i j (dgN 7 (fun w => ckV T i w) (dgCk T i (dgDr T (nd T) (dgN 7 (fun w => cnV T w) 1811)))))) * 31) + ((iZ (slV T (7 + 8 * i) (j : Int) (e : Int))).toInt64))), (0, .ref (md 0)), (3, .int (iZ ((i : Int)))), (4, .int (iZ ((j : Int))))] (by decide) rfl ?_
                                      refine V_goto hx dX4_digest_176 150 (by decide) ?_
                                      refine V_sub (lv' := [(5, .int (iZ (((e + 1 : Nat) : Int)))), (1, .long (((dgN e (fun w => slV T (7 + 8 * i) j w) (dgSl T i j (dgN 7 (fun w => ckV T i w) (dgCk T i (dgDr T (nd T) (dgN 7 (fun w => cnV T w) 1811)))))) * 31) + ((iZ (slV T (7 + 8 * i) (j : Int) (e : Int))).toInt64))), (0, .ref (md 0)), (3, .int (iZ ((i : Int)))), (4, .int (iZ ((j : Int))))]) [0, 1, 2, 3, 4] rfl ?_
                                      refine V_lv (lv' := [(5, .int (iZ (((e + 1 : Nat) : Int)))), (1, .long (dgN (e + 1) (fun w => slV T (7 + 8 * i) j w) (dgSl T i j (dgN 7 (fun w => ckV T i w) (dgCk T i (dgDr T (nd T) (dgN 7 (fun w => cnV T w) 1811))))))), (0, .ref (md 0)), (3, .int (iZ ((i : Int)))), (4, .int (iZ ((j : Int))))]) rfl ?_
                                      exact ih3 (e + 1) (by omega) (by omega)
                                refine V_ws (ws' := RW g md 0 Q 0 R) rfl ?_
                                exact V_sub [0, 2, 3, 4, 1] rfl (hL150 (3 + 1) 0 (by omega) (by omega))
                          refine V_ws (ws' := RW g md 0 Q 0 R) rfl ?_
                          exact V_sub [0, 1, 2, 3] (by rw [show j = 7 by omega]; rfl) (hL135 (nd T + 1) 0 (by omega) (by omega))
                        · refine V_lload_n hx dX4_digest_111 1 rfl ?_
                          refine V_ldc2 hx (v := 31) dX4_digest_112 q873 ?_
                          refine V_lmul hx dX4_digest_115 ?_
                          refine V_aload_n hx dX4_digest_116 2 rfl ?_
                          refine V_iload_n hx dX4_digest_117 3 rfl ?_
                          refine V_iload hx dX4_digest_118 0 rfl ?_
                          refine V_calli hx (z_clerkTold l R T hR (by omega) (by omega) (c := (i : Int)) (by omega) (by omega) (by omega) (what := (j : Int)) (by omega) (by omega) (hw8 i (by omega))) cw_X4_113 (RMn (by decide) (by decide)) rfl 0 RW_o rfl rfl (Nat.le_of_ble_eq_true rfl) dX4_digest_120 0 0 rfl rfl (fun z3 ws3 e3 => ?_)
                          obtain ⟨rfl, rfl⟩ := e3
                          refine V_top (b := ckV T (i : Int) (j : Int)) rfl ?_
                          refine V_i2l hx dX4_digest_123 ?_
                          refine V_ladd hx dX4_digest_124 ?_
                          refine V_lstore_n hx dX4_digest_125 [(1, .long (((dgN j (fun w => ckV T i w) (dgCk T i (dgDr T (nd T) (dgN 7 (fun w => cnV T w) 1811)))) * 31) + ((iZ (ckV T (i : Int) (j : Int))).toInt64))), (4, .int (iZ ((j : Int)))), (0, .ref (md 0)), (3, .int (iZ ((i : Int))))] (by decide) rfl ?_
                          refine V_iincN hx dX4_digest_126 1 rfl [(4, .int (iZ (((j + 1 : Nat) : Int)))), (1, .long (((dgN j (fun w => ckV T i w) (dgCk T i (dgDr T (nd T) (dgN 7 (fun w => cnV T w) 1811)))) * 31) + ((iZ (ckV T (i : Int) (j : Int))).toInt64))), (0, .ref (md 0)), (3, .int (iZ ((i : Int))))] (by decide) rfl ?_
                          refine V_goto hx dX4_digest_129 104 (by decide) ?_
                          refine V_sub (lv' := [(4, .int (iZ (((j + 1 : Nat) : Int)))), (1, .long (((dgN j (fun w => ckV T i w) (dgCk T i (dgDr T (nd T) (dgN 7 (fun w => cnV T w) 1811)))) * 31) + ((iZ (ckV T (i : Int) (j : Int))).toInt64))), (0, .ref (md 0)), (3, .int (iZ ((i : Int))))]) [0, 1, 2, 3] rfl ?_
                          refine V_lv (lv' := [(4, .int (iZ (((j + 1 : Nat) : Int)))), (1, .long (dgN (j + 1) (fun w => ckV T i w) (dgCk T i (dgDr T (nd T) (dgN 7 (fun w => cnV T w) 1811))))), (0, .ref (md 0)), (3, .int (iZ ((i : Int))))]) rfl ?_
                          exact ih2 (j + 1) (by omega) (by omega)
                    refine V_ws (ws' := RW g md 0 Q 0 R) rfl ?_
                    exact V_sub [0, 2, 3, 1] rfl (hL104 (7 + 1) 0 (by omega) (by omega))
              refine V_ws (ws' := RW g md 0 Q 0 R) rfl ?_
              exact V_sub [0, 1, 2] (by rw [show i = nd T by omega]; rfl) (hL90 (nc T + 1) 0 (by omega) (by omega))
            · refine V_iconst hx dX4_digest_52 ?_
              refine V_istore hx dX4_digest_53 [(4, .int (iZ (0))), (3, .int (iZ ((i : Int)))), (1, .long (dgDr T i (dgN 7 (fun w => cnV T w) 1811))), (0, .ref (md 0))] (by decide) rfl ?_
              have hL55 : ∀ (m : Nat) (j : Nat), 4 < j + m → j ≤ 4 → V x 0 0 (RW g md 0 Q 0 R) 55 [(4, .int (iZ ((j : Int)))), (1, .long (dgN j (fun w => drV T i w) (dgDr T i (dgN 7 (fun w => cnV T w) 1811)))), (0, .ref (md 0)), (3, .int (iZ ((i : Int))))] [] := by
                intro m
                induction m with
                | zero =>
                  intro j f1 f2 
                  exact absurd f1 (by omega)
                | succ m ih2 =>
                  intro j f1 f2 
                  refine V_iload hx dX4_digest_55 0 rfl ?_
                  refine V_iconst hx dX4_digest_57 ?_
                  refine V_icmp_gt hx dX4_digest_58 82 (by decide) ⟨by omega, by omega⟩ ⟨by decide, by decide⟩ (fun h58 => ?_) (fun h58 => ?_)
                  · refine V_iincN hx dX4_digest_82 3 rfl [(3, .int (iZ (((i + 1 : Nat) : Int)))), (4, .int (iZ ((j : Int)))), (1, .long (dgN j (fun w => drV T i w) (dgDr T i (dgN 7 (fun w => cnV T w) 1811)))), (0, .ref (md 0))] (by decide) rfl ?_
                    refine V_goto hx dX4_digest_85 41 (by decide) ?_
                    refine V_sub (lv' := [(3, .int (iZ (((i + 1 : Nat) : Int)))), (1, .long (dgN j (fun w => drV T i w) (dgDr T i (dgN 7 (fun w => cnV T w) 1811)))), (0, .ref (md 0))]) [0, 2, 3] rfl ?_
                    refine V_lv (lv' := [(3, .int (iZ (((i + 1 : Nat) : Int)))), (1, .long (dgDr T (i + 1) (dgN 7 (fun w => cnV T w) 1811))), (0, .ref (md 0))]) (by rw [show j = 4 by omega]; rfl) ?_
                    exact ih (i + 1) (by omega) (by omega)
                  · refine V_lload_n hx dX4_digest_61 1 rfl ?_
                    refine V_ldc2 hx (v := 31) dX4_digest_62 q873 ?_
                    refine V_lmul hx dX4_digest_65 ?_
                    refine V_aload_n hx dX4_digest_66 2 rfl ?_
                    refine V_iload_n hx dX4_digest_67 3 rfl ?_
                    refine V_iload hx dX4_digest_68 0 rfl ?_
                    refine V_calli hx (z_drawerTold l R T hR (by omega) (by omega) (by omega) (by omega) (d := (i : Int)) (by omega) (by omega) (what := (j : Int)) (by omega) (by omega)) cw_X4_99 (RMn (by decide) (by decide)) rfl 0 RW_o rfl rfl (Nat.le_of_ble_eq_true rfl) dX4_digest_70 0 0 rfl rfl (fun z4 ws4 e4 => ?_)
                    obtain ⟨rfl, rfl⟩ := e4
                    refine V_top (b := drV T (i : Int) (j : Int)) rfl ?_
                    refine V_i2l hx dX4_digest_73 ?_
                    refine V_ladd hx dX4_digest_74 ?_
                    refine V_lstore_n hx dX4_digest_75 [(1, .long (((dgN j (fun w => drV T i w) (dgDr T i (dgN 7 (fun w => cnV T w) 1811))) * 31) + ((iZ (drV T (i : Int) (j : Int))).toInt64))), (4, .int (iZ ((j : Int)))), (0, .ref (md 0)), (3, .int (iZ ((i : Int))))] (by decide) rfl ?_
                    refine V_iincN hx dX4_digest_76 1 rfl [(4, .int (iZ (((j + 1 : Nat) : Int)))), (1, .long (((dgN j (fun w => drV T i w) (dgDr T i (dgN 7 (fun w => cnV T w) 1811))) * 31) + ((iZ (drV T (i : Int) (j : Int))).toInt64))), (0, .ref (md 0)), (3, .int (iZ ((i : Int))))] (by decide) rfl ?_
                    refine V_goto hx dX4_digest_79 55 (by decide) ?_
                    refine V_sub (lv' := [(4, .int (iZ (((j + 1 : Nat) : Int)))), (1, .long (((dgN j (fun w => drV T i w) (dgDr T i (dgN 7 (fun w => cnV T w) 1811))) * 31) + ((iZ (drV T (i : Int) (j : Int))).toInt64))), (0, .ref (md 0)), (3, .int (iZ ((i : Int))))]) [0, 1, 2, 3] rfl ?_
                    refine V_lv (lv' := [(4, .int (iZ (((j + 1 : Nat) : Int)))), (1, .long (dgN (j + 1) (fun w => drV T i w) (dgDr T i (dgN 7 (fun w => cnV T w) 1811)))), (0, .ref (md 0)), (3, .int (iZ ((i : Int))))]) rfl ?_
                    exact ih2 (j + 1) (by omega) (by omega)
              refine V_ws (ws' := RW g md 0 Q 0 R) rfl ?_
              exact V_sub [0, 2, 3, 1] rfl (hL55 (4 + 1) 0 (by omega) (by omega))
        refine V_ws (ws' := RW g md 0 Q 0 R) rfl ?_
        exact V_sub [0, 1, 2] (by rw [show i = 7 by omega]; rfl) (hL41 (nd T + 1) 0 (by omega) (by omega))
      · refine V_lload_n hx dX4_digest_17 1 rfl ?_
        refine V_ldc2 hx (v := 31) dX4_digest_18 q873 ?_
        refine V_lmul hx dX4_digest_21 ?_
        refine V_aload_n hx dX4_digest_22 2 rfl ?_
        refine gf_X4_10 hx 0 RW_o rfl dX4_digest_23 ?_
        refine V_iload_n hx dX4_digest_26 0 rfl ?_
        refine V_calli hx (y_counted l hk R T hR (by omega) (by omega) (by omega) (by omega) hdn (what := (i : Int)) (by omega) ⟨by omega, by omega⟩) cw_X4_150 (RMn (by decide) (by decide)) rfl (iy 0 0) (RW_s hk) rfl rfl (Nat.le_of_ble_eq_true rfl) dX4_digest_27 0 0 rfl rfl (fun z5 ws5 e5 => ?_)
        obtain ⟨rfl, rfl⟩ := e5
        refine V_top (b := cnV T (i : Int)) rfl ?_
        refine V_i2l hx dX4_digest_30 ?_
        refine V_ladd hx dX4_digest_31 ?_
        refine V_lstore_n hx dX4_digest_32 [(1, .long (((dgN i (fun w => cnV T w) 1811) * 31) + ((iZ (cnV T (i : Int))).toInt64))), (3, .int (iZ ((i : Int)))), (0, .ref (md 0))] (by decide) rfl ?_
        refine V_iincN hx dX4_digest_33 1 rfl [(3, .int (iZ (((i + 1 : Nat) : Int)))), (1, .long (((dgN i (fun w => cnV T w) 1811) * 31) + ((iZ (cnV T (i : Int))).toInt64))), (0, .ref (md 0))] (by decide) rfl ?_
        refine V_goto hx dX4_digest_36 11 (by decide) ?_
        refine V_sub (lv' := [(3, .int (iZ (((i + 1 : Nat) : Int)))), (1, .long (((dgN i (fun w => cnV T w) 1811) * 31) + ((iZ (cnV T (i : Int))).toInt64))), (0, .ref (md 0))]) [0, 1, 2] rfl ?_
        refine V_lv (lv' := [(3, .int (iZ (((i + 1 : Nat) : Int)))), (1, .long (dgN (i + 1) (fun w => cnV T w) 1811)), (0, .ref (md 0))]) rfl ?_
        exact ih (i + 1) (by omega) (by omega)
  refine V_ws (ws' := RW g md 0 Q 0 R) rfl ?_
  exact V_sub [0, 1, 2] rfl (hL11 (7 + 1) 0 (by omega) (by omega))
