/-! the class TillOptimists: digest -/
set_option maxHeartbeats 4000000 in
set_option maxRecDepth 100000 in
theorem x_digestDrawers (l : Launch) {g : GT} {ad : Nat → Nat} {P : Nat → TS} (T : TS) (hS : SHP T) {d : Int64} : ML l yX2_digestDrawers cX2_digestDrawers 7 (rmN 7) g [.ref (ad 0), .long (d)] (SW g ad P 0 T) (fun z ws9 => z = dgDr T (nd T) d ∧ ws9 = SW g ad P 0 T) := by
  refine ML.of (own := RX2) (by decide) rfl (Nat.le_of_ble_eq_true rfl) (fun x hx hE => ?_)
  have hk : 0 < 2 := by decide
  obtain ⟨hT, ⟨hn1, hn8⟩, ⟨hc0, hc6⟩, ⟨hl0, hl9⟩⟩ := id hS
  have hn0 : 0 ≤ T 0 0 := by omega
  have hnd : ((nd T : Nat) : Int) = T 0 0 := Int.toNat_of_nonneg (by omega)
  refine V_lv (lv' := [(0, .ref (ad 0)), (1, .long (d))]) rfl ?_
  refine V_lload_n hx dX2_digestDrawers_0 1 rfl ?_
  refine V_lstore_n hx dX2_digestDrawers_1 [(3, .long (d)), (0, .ref (ad 0)), (1, .long (d))] (by decide) rfl ?_
  refine V_iconst hx dX2_digestDrawers_2 ?_
  refine V_istore hx dX2_digestDrawers_3 [(5, .int (iZ (0))), (3, .long (d)), (0, .ref (ad 0)), (1, .long (d))] (by decide) rfl ?_
  have hL5 : ∀ (n : Nat) (i : Nat), nd T < i + n → i ≤ nd T → V x 0 0 (SW g ad P 0 T) 5 [(5, .int (iZ ((i : Int)))), (3, .long (dgDr T i d)), (0, .ref (ad 0))] [] := by
    intro n
    induction n with
    | zero =>
      intro i g1 g2 
      exact absurd g1 (by omega)
    | succ n ih =>
      intro i g1 g2 
      refine V_iload hx dX2_digestDrawers_5 0 rfl ?_
      refine V_aload_n hx dX2_digestDrawers_7 2 rfl ?_
      refine gf_X2_10 hx 0 (SW_tillx) rfl dX2_digestDrawers_8 ?_
      refine gf_X2_26 hx (ix 0 0) (SW_shop hk) rfl dX2_digestDrawers_11 ?_
      refine V_icmp_ge hx dX2_digestDrawers_14 57 (by decide) ⟨by omega, by omega⟩ (by first | assumption | exact hT _ _ | exact ⟨by omega, by omega⟩) (fun h14 => ?_) (fun h14 => ?_)
      · refine V_lload_n hx dX2_digestDrawers_57 1 rfl ?_
        exact hE _ _ _ _ dX2_digestDrawers_58 ⟨by rw [show i = nd T by omega], rfl⟩
      · refine V_iconst hx dX2_digestDrawers_17 ?_
        refine V_istore hx dX2_digestDrawers_18 [(6, .int (iZ (0))), (5, .int (iZ ((i : Int)))), (3, .long (dgDr T i d)), (0, .ref (ad 0))] (by decide) rfl ?_
        have hL20 : ∀ (m : Nat) (j : Nat), 4 < j + m → j ≤ 4 → V x 0 0 (SW g ad P 0 T) 20 [(6, .int (iZ ((j : Int)))), (3, .long (dgN j (fun w => drV T i w) (dgDr T i d))), (0, .ref (ad 0)), (5, .int (iZ ((i : Int))))] [] := by
          intro m
          induction m with
          | zero =>
            intro j f1 f2 
            exact absurd f1 (by omega)
          | succ m ih2 =>
            intro j f1 f2 
            refine V_iload hx dX2_digestDrawers_20 0 rfl ?_
            refine V_iconst hx dX2_digestDrawers_22 ?_
            refine V_icmp_ge hx dX2_digestDrawers_23 51 (by decide) ⟨by omega, by omega⟩ ⟨by decide, by decide⟩ (fun h23 => ?_) (fun h23 => ?_)
            · refine V_iincN hx dX2_digestDrawers_51 3 rfl [(5, .int (iZ (((i + 1 : Nat) : Int)))), (6, .int (iZ ((j : Int)))), (3, .long (dgN j (fun w => drV T i w) (dgDr T i d))), (0, .ref (ad 0))] (by decide) rfl ?_
              refine V_goto hx dX2_digestDrawers_54 5 (by decide) ?_
              refine V_sub (lv' := [(5, .int (iZ (((i + 1 : Nat) : Int)))), (3, .long (dgN j (fun w => drV T i w) (dgDr T i d))), (0, .ref (ad 0))]) [0, 2, 3] rfl ?_
              refine V_lv (lv' := [(5, .int (iZ (((i + 1 : Nat) : Int)))), (3, .long (dgDr T (i + 1) d)), (0, .ref (ad 0))]) (by rw [show j = 4 by omega]; rfl) ?_
              exact ih (i + 1) (by omega) (by omega)
            · refine V_lload_n hx dX2_digestDrawers_26 1 rfl ?_
              refine V_ldc2 hx (v := 31) dX2_digestDrawers_27 q428 ?_
              refine V_lmul hx dX2_digestDrawers_30 ?_
              refine V_aload_n hx dX2_digestDrawers_31 2 rfl ?_
              refine gf_X2_10 hx 0 (SW_tillx) rfl dX2_digestDrawers_32 ?_
              refine V_iload hx dX2_digestDrawers_35 3 rfl ?_
              refine V_iload hx dX2_digestDrawers_37 0 rfl ?_
              refine V_callNi hx (m_drawerFact l hk T hT (by omega) (by omega) (d := (i : Int)) (by omega) (by omega) (what := (j : Int)) (by omega) (by omega)) cw_X2_113 (RMn (by decide) (by decide)) rfl (ix 0 0) (SW_shop hk) rfl rfl (Nat.le_of_ble_eq_true rfl) dX2_digestDrawers_39 0 0 rfl rfl (fun z1 ws1 e1 => ?_)
              obtain ⟨rfl, rfl⟩ := e1
              refine V_top (b := drV T (i : Int) (j : Int)) rfl ?_
              refine V_i2l hx dX2_digestDrawers_42 ?_
              refine V_ladd hx dX2_digestDrawers_43 ?_
              refine V_lstore_n hx dX2_digestDrawers_44 [(3, .long (((dgN j (fun w => drV T i w) (dgDr T i d)) * 31) + ((iZ (drV T (i : Int) (j : Int))).toInt64))), (6, .int (iZ ((j : Int)))), (0, .ref (ad 0)), (5, .int (iZ ((i : Int))))] (by decide) rfl ?_
              refine V_iincN hx dX2_digestDrawers_45 1 rfl [(6, .int (iZ (((j + 1 : Nat) : Int)))), (3, .long (((dgN j (fun w => drV T i w) (dgDr T i d)) * 31) + ((iZ (drV T (i : Int) (j : Int))).toInt64))), (0, .ref (ad 0)), (5, .int (iZ ((i : Int))))] (by decide) rfl ?_
              refine V_goto hx dX2_digestDrawers_48 20 (by decide) ?_
              refine V_sub (lv' := [(6, .int (iZ (((j + 1 : Nat) : Int)))), (3, .long (((dgN j (fun w => drV T i w) (dgDr T i d)) * 31) + ((iZ (drV T (i : Int) (j : Int))).toInt64))), (0, .ref (ad 0)), (5, .int (iZ ((i : Int))))]) [0, 1, 2, 3] rfl ?_
              refine V_lv (lv' := [(6, .int (iZ (((j + 1 : Nat) : Int)))), (3, .long (dgN (j + 1) (fun w => drV T i w) (dgDr T i d))), (0, .ref (ad 0)), (5, .int (iZ ((i : Int))))]) rfl ?_
              exact ih2 (j + 1) (by omega) (by omega)
        refine V_ws (ws' := SW g ad P 0 T) rfl ?_
        exact V_sub [0, 2, 3, 1] rfl (hL20 (4 + 1) 0 (by omega) (by omega))
  refine V_ws (ws' := SW g ad P 0 T) rfl ?_
  exact V_sub [0, 1, 2] rfl (hL5 (nd T + 1) 0 (by omega) (by omega))
set_option maxHeartbeats 4000000 in
set_option maxRecDepth 100000 in
theorem x_digestClerks (l : Launch) {g : GT} {ad : Nat → Nat} {P : Nat → TS} (T : TS) (hS : SHP T) {d : Int64} : ML l yX2_digestClerks cX2_digestClerks 8 (rmN 7) g [.ref (ad 0), .long (d)] (SW g ad P 0 T) (fun z ws9 => z = dgCk T (nc T) d ∧ ws9 = SW g ad P 0 T) := by
  refine ML.of (own := RX2) (by decide) rfl (Nat.le_of_ble_eq_true rfl) (fun x hx hE => ?_)
  have hk : 0 < 2 := by decide
  obtain ⟨hT, ⟨hn1, hn8⟩, ⟨hc0, hc6⟩, ⟨hl0, hl9⟩⟩ := id hS
  have hn0 : 0 ≤ T 0 0 := by omega
  have hnd : ((nd T : Nat) : Int) = T 0 0 := Int.toNat_of_nonneg (by omega)
  have hnc : ((nc T : Nat) : Int) = T 0 1 := Int.toNat_of_nonneg (by omega)
  refine V_lv (lv' := [(0, .ref (ad 0)), (1, .long (d))]) rfl ?_
  refine V_lload_n hx dX2_digestClerks_0 1 rfl ?_
  refine V_lstore_n hx dX2_digestClerks_1 [(3, .long (d)), (0, .ref (ad 0)), (1, .long (d))] (by decide) rfl ?_
  refine V_iconst hx dX2_digestClerks_2 ?_
  refine V_istore hx dX2_digestClerks_3 [(5, .int (iZ (0))), (3, .long (d)), (0, .ref (ad 0)), (1, .long (d))] (by decide) rfl ?_
  have hL5 : ∀ (n : Nat) (i : Nat), nc T < i + n → i ≤ nc T → V x 0 0 (SW g ad P 0 T) 5 [(5, .int (iZ ((i : Int)))), (3, .long (dgCk T i d)), (0, .ref (ad 0))] [] := by
    intro n
    induction n with
    | zero =>
      intro i g1 g2 
      exact absurd g1 (by omega)
    | succ n ih =>
      intro i g1 g2 
      refine V_iload hx dX2_digestClerks_5 0 rfl ?_
      refine V_aload_n hx dX2_digestClerks_7 2 rfl ?_
      refine gf_X2_10 hx 0 (SW_tillx) rfl dX2_digestClerks_8 ?_
      refine gf_X2_47 hx (ix 0 0) (SW_shop hk) rfl dX2_digestClerks_11 ?_
      refine V_icmp_ge hx dX2_digestClerks_14 119 (by decide) ⟨by omega, by omega⟩ (by first | assumption | exact hT _ _ | exact ⟨by omega, by omega⟩) (fun h14 => ?_) (fun h14 => ?_)
      · refine V_lload_n hx dX2_digestClerks_119 1 rfl ?_
        exact hE _ _ _ _ dX2_digestClerks_120 ⟨by rw [show i = nc T by omega], rfl⟩
      · refine V_iconst hx dX2_digestClerks_17 ?_
        refine V_istore hx dX2_digestClerks_18 [(6, .int (iZ (0))), (5, .int (iZ ((i : Int)))), (3, .long (dgCk T i d)), (0, .ref (ad 0))] (by decide) rfl ?_
        have hL20 : ∀ (m : Nat) (j : Nat), 7 < j + m → j ≤ 7 → V x 0 0 (SW g ad P 0 T) 20 [(6, .int (iZ ((j : Int)))), (3, .long (dgN j (fun w => ckV T i w) (dgCk T i d))), (0, .ref (ad 0)), (5, .int (iZ ((i : Int))))] [] := by
          intro m
          induction m with
          | zero =>
            intro j f1 f2 
            exact absurd f1 (by omega)
          | succ m ih2 =>
            intro j f1 f2 
            refine V_iload hx dX2_digestClerks_20 0 rfl ?_
            refine V_bipush hx dX2_digestClerks_22 rfl ?_
            refine V_icmp_ge hx dX2_digestClerks_24 52 (by decide) ⟨by omega, by omega⟩ ⟨by decide, by decide⟩ (fun h24 => ?_) (fun h24 => ?_)
            · refine V_iconst hx dX2_digestClerks_52 ?_
              refine V_istore hx dX2_digestClerks_53 [(6, .int (iZ (0))), (3, .long (dgN j (fun w => ckV T i w) (dgCk T i d))), (0, .ref (ad 0)), (5, .int (iZ ((i : Int))))] (by decide) rfl ?_
              have hL55 : ∀ (m2 : Nat) (j : Nat), nd T < j + m2 → j ≤ nd T → V x 0 0 (SW g ad P 0 T) 55 [(6, .int (iZ ((j : Int)))), (3, .long (dgSl T i j (dgN 7 (fun w => ckV T i w) (dgCk T i d)))), (0, .ref (ad 0)), (5, .int (iZ ((i : Int))))] [] := by
                intro m2
                induction m2 with
                | zero =>
                  intro j f3 f4 
                  exact absurd f3 (by omega)
                | succ m2 ih4 =>
                  intro j f3 f4 
                  refine V_iload hx dX2_digestClerks_55 0 rfl ?_
                  refine V_aload_n hx dX2_digestClerks_57 2 rfl ?_
                  refine gf_X2_10 hx 0 (SW_tillx) rfl dX2_digestClerks_58 ?_
                  refine gf_X2_26 hx (ix 0 0) (SW_shop hk) rfl dX2_digestClerks_61 ?_
                  refine V_icmp_ge hx dX2_digestClerks_64 113 (by decide) ⟨by omega, by omega⟩ (by first | assumption | exact hT _ _ | exact ⟨by omega, by omega⟩) (fun h64 => ?_) (fun h64 => ?_)
                  · refine V_iincN hx dX2_digestClerks_113 3 rfl [(5, .int (iZ (((i + 1 : Nat) : Int)))), (6, .int (iZ ((j : Int)))), (3, .long (dgSl T i j (dgN 7 (fun w => ckV T i w) (dgCk T i d)))), (0, .ref (ad 0))] (by decide) rfl ?_
                    refine V_goto hx dX2_digestClerks_116 5 (by decide) ?_
                    refine V_sub (lv' := [(5, .int (iZ (((i + 1 : Nat) : Int)))), (3, .long (dgSl T i j (dgN 7 (fun w => ckV T i w) (dgCk T i d)))), (0, .ref (ad 0))]) [0, 2, 3] rfl ?_
                    refine V_lv (lv' := [(5, .int (iZ (((i + 1 : Nat) : Int)))), (3, .long (dgCk T (i + 1) d)), (0, .ref (ad 0))]) (by rw [show j = nd T by omega]; rfl) ?_
                    exact ih (i + 1) (by omega) (by omega)
                  · refine V_iconst hx dX2_digestClerks_67 ?_
                    refine V_istore hx dX2_digestClerks_68 [(7, .int (iZ (0))), (6, .int (iZ ((j : Int)))), (3, .long (dgSl T i j (dgN 7 (fun w => ckV T i w) (dgCk T i d)))), (0, .ref (ad 0)), (5, .int (iZ ((i : Int))))] (by decide) rfl ?_
                    have hL70 : ∀ (r : Nat) (e : Nat), 3 < e + r → e ≤ 3 → V x 0 0 (SW g ad P 0 T) 70 [(7, .int (iZ ((e : Int)))), (3, .long (dgN e (fun w => slV T (7 + 8 * i) j w) (dgSl T i j (dgN 7 (fun w => ckV T i w) (dgCk T i d))))), (0, .ref (ad 0)), (5, .int (iZ ((i : Int)))), (6, .int (iZ ((j : Int))))] [] := by
                      intro r
                      induction r with
                      | zero =>
                        intro e d1 d2 
                        exact absurd d1 (by omega)
                      | succ r ih3 =>
                        intro e d1 d2 
                        refine V_iload hx dX2_digestClerks_70 0 rfl ?_
                        refine V_iconst hx dX2_digestClerks_72 ?_
                        refine V_icmp_ge hx dX2_digestClerks_73 107 (by decide) ⟨by omega, by omega⟩ ⟨by decide, by decide⟩ (fun h73 => ?_) (fun h73 => ?_)
                        · refine V_iincN hx dX2_digestClerks_107 4 rfl [(6, .int (iZ (((j + 1 : Nat) : Int)))), (7, .int (iZ ((e : Int)))), (3, .long (dgN e (fun w => slV T (7 + 8 * i) j w) (dgSl T i j (dgN 7 (fun w => ckV T i w) (dgCk T i d))))), (0, .ref (ad 0)), (5, .int (iZ ((i : Int))))] (by decide) rfl ?_
                          refine V_goto hx dX2_digestClerks_110 55 (by decide) ?_
                          refine V_sub (lv' := [(6, .int (iZ (((j + 1 : Nat) : Int)))), (3, .long (dgN e (fun w => slV T (7 + 8 * i) j w) (dgSl T i j (dgN 7 (fun w => ckV T i w) (dgCk T i d))))), (0, .ref (ad 0)), (5, .int (iZ ((i : Int))))]) [0, 2, 3, 4] rfl ?_
                          refine V_lv (lv' := [(6, .int (iZ (((j + 1 : Nat) : Int)))), (3, .long (dgSl T i (j + 1) (dgN 7 (fun w => ckV T i w) (dgCk T i d)))), (0, .ref (ad 0)), (5, .int (iZ ((i : Int))))]) (by rw [show e = 3 by omega]; rfl) ?_
                          exact ih4 (j + 1) (by omega) (by omega)
                        · refine V_lload_n hx dX2_digestClerks_76 1 rfl ?_
                          refine V_ldc2 hx (v := 31) dX2_digestClerks_77 q428 ?_
                          refine V_lmul hx dX2_digestClerks_80 ?_
                          refine V_aload_n hx dX2_digestClerks_81 2 rfl ?_
                          refine gf_X2_10 hx 0 (SW_tillx) rfl dX2_digestClerks_82 ?_
                          refine gf_X2_72 hx (ix 0 0) (SW_shop hk) rfl dX2_digestClerks_85 ?_
                          refine V_iload hx dX2_digestClerks_88 3 rfl ?_
                          refine V_aald hx (by omega) (by omega) (by decide) (ix 0 3) (SW_refs hk) (r := ad (ix 0 (7 + 8 * i))) rfl dX2_digestClerks_90 ?_
                          refine V_iload hx dX2_digestClerks_91 4 rfl ?_
                          refine V_iload hx dX2_digestClerks_93 0 rfl ?_
                          refine V_callNi hx (m_slipFact l hk T hT (q := 7 + 8 * i) (isQ_c (by omega)) (d := (j : Int)) (by omega) (by omega) (what := (e : Int)) (by omega) (by omega)) cw_X2_120 (RMn (by decide) (by decide)) rfl (ix 0 (7 + 8 * i)) (SW_clk hk (isQ_c (by omega))) rfl rfl (Nat.le_of_ble_eq_true rfl) dX2_digestClerks_95 0 0 rfl rfl (fun z1 ws1 e1 => ?_)
                          obtain ⟨rfl, rfl⟩ := e1
                          refine V_top (b := slV T (7 + 8 * i) (j : Int) (e : Int)) rfl ?_
                          refine V_i2l hx dX2_digestClerks_98 ?_
                          refine V_ladd hx dX2_digestClerks_99 ?_
                          refine V_lstore_n hx dX2_digestClerks_100 [(3, .long (((dgN e (fun w => slV T (7 + 8 * i) j w) (dgSl T i j (dgN 7 (fun w => ckV T i w) (dgCk T i d)))) * 31) + ((iZ (slV T (7 + 8 * i) (j : Int) (e : Int))).toInt64))), (7, .int (iZ ((e : Int)))), (0, .ref (ad 0)), (5, .int (iZ ((i : Int)))), (6, .int (iZ ((j : Int))))] (by decide) rfl ?_
                          refine V_iincN hx dX2_digestClerks_101 1 rfl [(7, .int (iZ (((e + 1 : Nat) : Int)))), (3, .long (((dgN e (fun w => slV T (7 + 8 * i) j w) (dgSl T i j (dgN 7 (fun w => ckV T i w) (dgCk T i d)))) * 31) + ((iZ (slV T (7 + 8 * i) (j : Int) (e : Int))).toInt64))), (0, .ref (ad 0)), (5, .int (iZ ((i : Int)))), (6, .int (iZ ((j : Int))))] (by decide) rfl ?_
                          refine V_goto hx dX2_digestClerks_104 70 (by decide) ?_
                          refine V_sub (lv' := [(7, .int (iZ (((e + 1 : Nat) : Int)))), (3, .long (((dgN e (fun w => slV T (7 + 8 * i) j w) (dgSl T i j (dgN 7 (fun w => ckV T i w) (dgCk T i d)))) * 31) + ((iZ (slV T (7 + 8 * i) (j : Int) (e : Int))).toInt64))), (0, .ref (ad 0)), (5, .int (iZ ((i : Int)))), (6, .int (iZ ((j : Int))))]) [0, 1, 2, 3, 4] rfl ?_
                          refine V_lv (lv' := [(7, .int (iZ (((e + 1 : Nat) : Int)))), (3, .long (dgN (e + 1) (fun w => slV T (7 + 8 * i) j w) (dgSl T i j (dgN 7 (fun w => ckV T i w) (dgCk T i d))))), (0, .ref (ad 0)), (5, .int (iZ ((i : Int)))), (6, .int (iZ ((j : Int))))]) rfl ?_
                          exact ih3 (e + 1) (by omega) (by omega)
                    refine V_ws (ws' := SW g ad P 0 T) rfl ?_
                    exact V_sub [0, 2, 3, 4, 1] rfl (hL70 (3 + 1) 0 (by omega) (by omega))
              refine V_ws (ws' := SW g ad P 0 T) rfl ?_
              exact V_sub [0, 1, 2, 3] (by rw [show j = 7 by omega]; rfl) (hL55 (nd T + 1) 0 (by omega) (by omega))
            · refine V_lload_n hx dX2_digestClerks_27 1 rfl ?_
              refine V_ldc2 hx (v := 31) dX2_digestClerks_28 q428 ?_
              refine V_lmul hx dX2_digestClerks_31 ?_
              refine V_aload_n hx dX2_digestClerks_32 2 rfl ?_
              refine gf_X2_10 hx 0 (SW_tillx) rfl dX2_digestClerks_33 ?_
              refine V_iload hx dX2_digestClerks_36 3 rfl ?_
              refine V_iload hx dX2_digestClerks_38 0 rfl ?_
              refine V_callNi hx (m_clerkFact l hk T hT (by omega) (by omega) (c := (i : Int)) (by omega) (by omega) (what := (j : Int)) (by omega) (by omega)) cw_X2_117 (RMn (by decide) (by decide)) rfl (ix 0 0) (SW_shop hk) rfl rfl (Nat.le_of_ble_eq_true rfl) dX2_digestClerks_40 0 0 rfl rfl (fun z2 ws2 e2 => ?_)
              obtain ⟨rfl, rfl⟩ := e2
              refine V_top (b := ckV T (i : Int) (j : Int)) rfl ?_
              refine V_i2l hx dX2_digestClerks_43 ?_
              refine V_ladd hx dX2_digestClerks_44 ?_
              refine V_lstore_n hx dX2_digestClerks_45 [(3, .long (((dgN j (fun w => ckV T i w) (dgCk T i d)) * 31) + ((iZ (ckV T (i : Int) (j : Int))).toInt64))), (6, .int (iZ ((j : Int)))), (0, .ref (ad 0)), (5, .int (iZ ((i : Int))))] (by decide) rfl ?_
              refine V_iincN hx dX2_digestClerks_46 1 rfl [(6, .int (iZ (((j + 1 : Nat) : Int)))), (3, .long (((dgN j (fun w => ckV T i w) (dgCk T i d)) * 31) + ((iZ (ckV T (i : Int) (j : Int))).toInt64))), (0, .ref (ad 0)), (5, .int (iZ ((i : Int))))] (by decide) rfl ?_
              refine V_goto hx dX2_digestClerks_49 20 (by decide) ?_
              refine V_sub (lv' := [(6, .int (iZ (((j + 1 : Nat) : Int)))), (3, .long (((dgN j (fun w => ckV T i w) (dgCk T i d)) * 31) + ((iZ (ckV T (i : Int) (j : Int))).toInt64))), (0, .ref (ad 0)), (5, .int (iZ ((i : Int))))]) [0, 1, 2, 3] rfl ?_
              refine V_lv (lv' := [(6, .int (iZ (((j + 1 : Nat) : Int)))), (3, .long (dgN (j + 1) (fun w => ckV T i w) (dgCk T i d))), (0, .ref (ad 0)), (5, .int (iZ ((i : Int))))]) rfl ?_
              exact ih2 (j + 1) (by omega) (by omega)
        refine V_ws (ws' := SW g ad P 0 T) rfl ?_
        exact V_sub [0, 2, 3, 1] rfl (hL20 (7 + 1) 0 (by omega) (by omega))
  refine V_ws (ws' := SW g ad P 0 T) rfl ?_
  exact V_sub [0, 1, 2] rfl (hL5 (nc T + 1) 0 (by omega) (by omega))
set_option maxHeartbeats 4000000 in
set_option maxRecDepth 100000 in
theorem x_digestClosings (l : Launch) {g : GT} {ad : Nat → Nat} {P : Nat → TS} (T : TS) (hS : SHP T) {d : Int64} : ML l yX2_digestClosings cX2_digestClosings 8 (rmN 7) g [.ref (ad 0), .long (d)] (SW g ad P 0 T) (fun z ws9 => z = dgCl T (kpV T).toNat d ∧ ws9 = SW g ad P 0 T) := by
  refine ML.of (own := RX2) (by decide) rfl (Nat.le_of_ble_eq_true rfl) (fun x hx hE => ?_)
  have hk : 0 < 2 := by decide
  obtain ⟨hT, ⟨hn1, hn8⟩, ⟨hc0, hc6⟩, ⟨hl0, hl9⟩⟩ := id hS
  have hn0 : 0 ≤ T 0 0 := by omega
  have hkp := kpV_b hl0
  have hkn : (((kpV T).toNat : Nat) : Int) = kpV T := Int.toNat_of_nonneg hkp.1
  refine V_lv (lv' := [(0, .ref (ad 0)), (1, .long (d))]) rfl ?_
  refine V_lload_n hx dX2_digestClosings_0 1 rfl ?_
  refine V_lstore_n hx dX2_digestClosings_1 [(3, .long (d)), (0, .ref (ad 0)), (1, .long (d))] (by decide) rfl ?_
  refine V_aload_n hx dX2_digestClosings_2 1 rfl ?_
  refine gf_X2_10 hx 0 (SW_tillx) rfl dX2_digestClosings_3 ?_
  refine V_callNi hx (m_kept l hk T hT) cw_X2_131 (RMn (by decide) (by decide)) rfl (ix 0 0) (SW_shop hk) rfl rfl (Nat.le_of_ble_eq_true rfl) dX2_digestClosings_6 0 0 rfl rfl (fun z1 ws1 e1 => ?_)
  obtain ⟨rfl, rfl⟩ := e1
  refine V_istore hx dX2_digestClosings_9 [(5, .int (iZ (kpV T))), (3, .long (d)), (0, .ref (ad 0)), (1, .long (d))] (by decide) rfl ?_
  refine V_iconst hx dX2_digestClosings_11 ?_
  refine V_istore hx dX2_digestClosings_12 [(6, .int (iZ (0))), (5, .int (iZ (kpV T))), (3, .long (d)), (0, .ref (ad 0)), (1, .long (d))] (by decide) rfl ?_
  have hL14 : ∀ (n : Nat) (i : Nat), (kpV T).toNat < i + n → i ≤ (kpV T).toNat → V x 0 0 (SW g ad P 0 T) 14 [(6, .int (iZ ((i : Int)))), (3, .long (dgCl T i d)), (0, .ref (ad 0)), (5, .int (iZ (kpV T)))] [] := by
    intro n
    induction n with
    | zero =>
      intro i g1 g2 
      exact absurd g1 (by omega)
    | succ n ih =>
      intro i g1 g2 
      refine V_iload hx dX2_digestClosings_14 0 rfl ?_
      refine V_iload hx dX2_digestClosings_16 3 rfl ?_
      refine V_icmp_ge hx dX2_digestClosings_18 61 (by decide) ⟨by omega, by omega⟩ (by first | assumption | exact hT _ _ | exact ⟨by omega, by omega⟩) (fun h18 => ?_) (fun h18 => ?_)
      · refine V_lload_n hx dX2_digestClosings_61 1 rfl ?_
        exact hE _ _ _ _ dX2_digestClosings_62 ⟨by rw [show i = (kpV T).toNat by omega], rfl⟩
      · refine V_iconst hx dX2_digestClosings_21 ?_
        refine V_istore hx dX2_digestClosings_22 [(7, .int (iZ (0))), (6, .int (iZ ((i : Int)))), (3, .long (dgCl T i d)), (0, .ref (ad 0)), (5, .int (iZ (kpV T)))] (by decide) rfl ?_
        have hL24 : ∀ (m : Nat) (j : Nat), 3 < j + m → j ≤ 3 → V x 0 0 (SW g ad P 0 T) 24 [(7, .int (iZ ((j : Int)))), (3, .long (dgN j (fun w => cfV T i w) (dgCl T i d))), (0, .ref (ad 0)), (6, .int (iZ ((i : Int)))), (5, .int (iZ (kpV T)))] [] := by
          intro m
          induction m with
          | zero =>
            intro j f1 f2 
            exact absurd f1 (by omega)
          | succ m ih2 =>
            intro j f1 f2 
            refine V_iload hx dX2_digestClosings_24 0 rfl ?_
            refine V_iconst hx dX2_digestClosings_26 ?_
            refine V_icmp_ge hx dX2_digestClosings_27 55 (by decide) ⟨by omega, by omega⟩ ⟨by decide, by decide⟩ (fun h27 => ?_) (fun h27 => ?_)
            · refine V_iincN hx dX2_digestClosings_55 3 rfl [(6, .int (iZ (((i + 1 : Nat) : Int)))), (7, .int (iZ ((j : Int)))), (3, .long (dgN j (fun w => cfV T i w) (dgCl T i d))), (0, .ref (ad 0)), (5, .int (iZ (kpV T)))] (by decide) rfl ?_
              refine V_goto hx dX2_digestClosings_58 14 (by decide) ?_
              refine V_sub (lv' := [(6, .int (iZ (((i + 1 : Nat) : Int)))), (3, .long (dgN j (fun w => cfV T i w) (dgCl T i d))), (0, .ref (ad 0)), (5, .int (iZ (kpV T)))]) [0, 2, 3, 4] rfl ?_
              refine V_lv (lv' := [(6, .int (iZ (((i + 1 : Nat) : Int)))), (3, .long (dgCl T (i + 1) d)), (0, .ref (ad 0)), (5, .int (iZ (kpV T)))]) (by rw [show j = 3 by omega]; rfl) ?_
              exact ih (i + 1) (by omega) (by omega)
            · refine V_lload_n hx dX2_digestClosings_30 1 rfl ?_
              refine V_ldc2 hx (v := 31) dX2_digestClosings_31 q428 ?_
              refine V_lmul hx dX2_digestClosings_34 ?_
              refine V_aload_n hx dX2_digestClosings_35 2 rfl ?_
              refine gf_X2_10 hx 0 (SW_tillx) rfl dX2_digestClosings_36 ?_
              refine V_iload hx dX2_digestClosings_39 3 rfl ?_
              refine V_iload hx dX2_digestClosings_41 0 rfl ?_
              refine V_callNi hx (m_closingFact l hk T hT (b := (i : Int)) (by omega) (by omega) (what := (j : Int)) (by omega) (by omega)) cw_X2_136 (RMn (by decide) (by decide)) rfl (ix 0 0) (SW_shop hk) rfl rfl (Nat.le_of_ble_eq_true rfl) dX2_digestClosings_43 0 0 rfl rfl (fun z2 ws2 e2 => ?_)
              obtain ⟨rfl, rfl⟩ := e2
              refine V_top (b := cfV T (i : Int) (j : Int)) rfl ?_
              refine V_i2l hx dX2_digestClosings_46 ?_
              refine V_ladd hx dX2_digestClosings_47 ?_
              refine V_lstore_n hx dX2_digestClosings_48 [(3, .long (((dgN j (fun w => cfV T i w) (dgCl T i d)) * 31) + ((iZ (cfV T (i : Int) (j : Int))).toInt64))), (7, .int (iZ ((j : Int)))), (0, .ref (ad 0)), (6, .int (iZ ((i : Int)))), (5, .int (iZ (kpV T)))] (by decide) rfl ?_
              refine V_iincN hx dX2_digestClosings_49 1 rfl [(7, .int (iZ (((j + 1 : Nat) : Int)))), (3, .long (((dgN j (fun w => cfV T i w) (dgCl T i d)) * 31) + ((iZ (cfV T (i : Int) (j : Int))).toInt64))), (0, .ref (ad 0)), (6, .int (iZ ((i : Int)))), (5, .int (iZ (kpV T)))] (by decide) rfl ?_
              refine V_goto hx dX2_digestClosings_52 24 (by decide) ?_
              refine V_sub (lv' := [(7, .int (iZ (((j + 1 : Nat) : Int)))), (3, .long (((dgN j (fun w => cfV T i w) (dgCl T i d)) * 31) + ((iZ (cfV T (i : Int) (j : Int))).toInt64))), (0, .ref (ad 0)), (6, .int (iZ ((i : Int)))), (5, .int (iZ (kpV T)))]) [0, 1, 2, 3, 4] rfl ?_
              refine V_lv (lv' := [(7, .int (iZ (((j + 1 : Nat) : Int)))), (3, .long (dgN (j + 1) (fun w => cfV T i w) (dgCl T i d))), (0, .ref (ad 0)), (6, .int (iZ ((i : Int)))), (5, .int (iZ (kpV T)))]) rfl ?_
              exact ih2 (j + 1) (by omega) (by omega)
        refine V_ws (ws' := SW g ad P 0 T) rfl ?_
        exact V_sub [0, 2, 3, 1, 4] rfl (hL24 (3 + 1) 0 (by omega) (by omega))
  refine V_ws (ws' := SW g ad P 0 T) rfl ?_
  exact V_sub [0, 2, 3, 1] rfl (hL14 ((kpV T).toNat + 1) 0 (by omega) (by omega))
set_option maxHeartbeats 4000000 in
set_option maxRecDepth 100000 in
theorem x_digest (l : Launch) {g : GT} {ad : Nat → Nat} {P : Nat → TS} (T : TS) (hS : SHP T) : ML l yX2_digest cX2_digest 4 (rmN 8) g [.ref (ad 0)] (SW g ad P 0 T) (fun z ws9 => z = dgV T ∧ ws9 = SW g ad P 0 T) := by
  refine ML.of (own := RX2) (by decide) rfl (Nat.le_of_ble_eq_true rfl) (fun x hx hE => ?_)
  have hk : 0 < 2 := by decide
  obtain ⟨hT, ⟨hn1, hn8⟩, ⟨hc0, hc6⟩, ⟨hl0, hl9⟩⟩ := id hS
  have hn0 : 0 ≤ T 0 0 := by omega
  refine V_lv (lv' := [(0, .ref (ad 0))]) rfl ?_
  refine V_ldc2 hx (v := 1811) dX2_digest_0 q427 ?_
  refine V_lstore_n hx dX2_digest_3 [(1, .long (1811)), (0, .ref (ad 0))] (by decide) rfl ?_
  refine V_iconst hx dX2_digest_4 ?_
  refine V_istore_n hx dX2_digest_5 [(3, .int (iZ (0))), (1, .long (1811)), (0, .ref (ad 0))] (by decide) rfl ?_
  have hL6 : ∀ (n : Nat) (i : Nat), 7 < i + n → i ≤ 7 → V x 0 0 (SW g ad P 0 T) 6 [(3, .int (iZ ((i : Int)))), (1, .long (dgN i (fun w => cnV T w) 1811)), (0, .ref (ad 0))] [] := by
    intro n
    induction n with
    | zero =>
      intro i g1 g2 
      exact absurd g1 (by omega)
    | succ n ih =>
      intro i g1 g2 
      refine V_iload_n hx dX2_digest_6 0 rfl ?_
      refine V_bipush hx dX2_digest_7 rfl ?_
      refine V_icmp_ge hx dX2_digest_9 34 (by decide) ⟨by omega, by omega⟩ ⟨by decide, by decide⟩ (fun h9 => ?_) (fun h9 => ?_)
      · refine V_aload_n hx dX2_digest_34 2 rfl ?_
        refine V_lload_n hx dX2_digest_35 1 rfl ?_
        refine V_calll hx (x_digestDrawers l (P := P) T hS (d := dgN i (fun w => cnV T w) 1811)) cw_X2_169 (RMn (by decide) (by decide)) rfl 0 SW_tillx rfl rfl (Nat.le_of_ble_eq_true rfl) dX2_digest_36 0 0 rfl rfl (fun z1 ws1 e1 => ?_)
        obtain ⟨rfl, rfl⟩ := e1
        refine V_lstore_n hx dX2_digest_39 [(1, .long (dgDr T (nd T) (dgN i (fun w => cnV T w) 1811))), (3, .int (iZ ((i : Int)))), (0, .ref (ad 0))] (by decide) rfl ?_
        refine V_aload_n hx dX2_digest_40 2 rfl ?_
        refine V_lload_n hx dX2_digest_41 0 rfl ?_
        refine V_calll hx (x_digestClerks l (P := P) T hS (d := dgDr T (nd T) (dgN i (fun w => cnV T w) 1811))) cw_X2_173 (RMn (by decide) (by decide)) rfl 0 SW_tillx rfl rfl (Nat.le_of_ble_eq_true rfl) dX2_digest_42 0 0 rfl rfl (fun z2 ws2 e2 => ?_)
        obtain ⟨rfl, rfl⟩ := e2
        refine V_lstore_n hx dX2_digest_45 [(1, .long (dgCk T (nc T) (dgDr T (nd T) (dgN i (fun w => cnV T w) 1811)))), (3, .int (iZ ((i : Int)))), (0, .ref (ad 0))] (by decide) rfl ?_
        refine V_aload_n hx dX2_digest_46 2 rfl ?_
        refine V_lload_n hx dX2_digest_47 0 rfl ?_
        refine V_calll hx (x_digestClosings l (P := P) T hS (d := dgCk T (nc T) (dgDr T (nd T) (dgN i (fun w => cnV T w) 1811)))) cw_X2_176 (RMn (by decide) (by decide)) rfl 0 SW_tillx rfl rfl (Nat.le_of_ble_eq_true rfl) dX2_digest_48 0 0 rfl rfl (fun z3 ws3 e3 => ?_)
        obtain ⟨rfl, rfl⟩ := e3
        exact hE _ _ _ _ dX2_digest_51 ⟨by rw [show i = 7 by omega]; rfl, rfl⟩
      · refine V_lload_n hx dX2_digest_12 1 rfl ?_
        refine V_ldc2 hx (v := 31) dX2_digest_13 q428 ?_
        refine V_lmul hx dX2_digest_16 ?_
        refine V_aload_n hx dX2_digest_17 2 rfl ?_
        refine gf_X2_10 hx 0 (SW_tillx) rfl dX2_digest_18 ?_
        refine V_iload_n hx dX2_digest_21 0 rfl ?_
        refine V_callNi hx (m_countFact l hk T hT (by omega) (by omega) (by omega) (by omega) (what := (i : Int)) (by omega) (by omega)) cw_X2_143 (RMn (by decide) (by decide)) rfl (ix 0 0) (SW_shop hk) rfl rfl (Nat.le_of_ble_eq_true rfl) dX2_digest_22 0 0 rfl rfl (fun z4 ws4 e4 => ?_)
        obtain ⟨rfl, rfl⟩ := e4
        refine V_top (b := cnV T (i : Int)) rfl ?_
        refine V_i2l hx dX2_digest_25 ?_
        refine V_ladd hx dX2_digest_26 ?_
        refine V_lstore_n hx dX2_digest_27 [(1, .long (((dgN i (fun w => cnV T w) 1811) * 31) + ((iZ (cnV T (i : Int))).toInt64))), (3, .int (iZ ((i : Int)))), (0, .ref (ad 0))] (by decide) rfl ?_
        refine V_iincN hx dX2_digest_28 1 rfl [(3, .int (iZ (((i + 1 : Nat) : Int)))), (1, .long (((dgN i (fun w => cnV T w) 1811) * 31) + ((iZ (cnV T (i : Int))).toInt64))), (0, .ref (ad 0))] (by decide) rfl ?_
        refine V_goto hx dX2_digest_31 6 (by decide) ?_
        refine V_sub (lv' := [(3, .int (iZ (((i + 1 : Nat) : Int)))), (1, .long (((dgN i (fun w => cnV T w) 1811) * 31) + ((iZ (cnV T (i : Int))).toInt64))), (0, .ref (ad 0))]) [0, 1, 2] rfl ?_
        refine V_lv (lv' := [(3, .int (iZ (((i + 1 : Nat) : Int)))), (1, .long (dgN (i + 1) (fun w => cnV T w) 1811)), (0, .ref (ad 0))]) rfl ?_
        exact ih (i + 1) (by omega) (by omega)
  refine V_ws (ws' := SW g ad P 0 T) rfl ?_
  exact V_sub [0, 1, 2] rfl (hL6 (7 + 1) 0 (by omega) (by omega))
