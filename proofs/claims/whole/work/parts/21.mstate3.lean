/-! the reference's state: its methods that move -/
def TKm (T : TS) (q : Nat) : Prop := T q 1 < T q 0 → (T (q + 1) (T q 1).toNat = 1 → 0 ≤ T (q + 4) (T q 1).toNat) ∧ (T (q + 1) (T q 1).toNat ≠ 0 → T (q + 1) (T q 1).toNat ≠ 1 → T (q + 1) (T q 1).toNat ≠ 2 → 1 ≤ T (q + 4) (T q 1).toNat) ∧ rg (T (q + 1) (T q 1).toNat)
theorem vb_clL {T : TS} {q i : Nat} {z : Int} (h : VB T q) : ∀ d, d < 8 → -1 ≤ clL T q i z 1 d ∧ clL T q i z 1 d ≤ 9999 := by
  intro d hd
  obtain ⟨h1, -, h3⟩ := h d hd
  unfold clL
  (repeat' split) <;> first | omega | grind
set_option maxHeartbeats 4000000 in
set_option maxRecDepth 100000 in
theorem y_record (l : Launch) {g : GT} {md : Nat → Nat} {h : Int} {Q : Nat → TS} {k : Nat} (hk : k < 2) (R T : TS) {zz : Nat} (hR : RLz R T zz) (hn0 : 0 ≤ T 0 0) (hn8 : T 0 0 ≤ 8) {w m : Int} (hw : rg w) (hm : rg m) (hz : ((zz + 1 : Nat) : Int) = T 0 2) (hz9 : T 0 2 < 2147483648) (hs : rg (sm (nd T) (T 1))) : MV l yX3_record cX3_record 3 (rmN 1) g [.ref (md (iy k 0)), .int (iZ (w)), .int (iZ (m))] (RW g md h Q k R) (fun ws9 => ∃ R9, RLz R9 (kcT T w m) (zz + 1) ∧ ws9 = RW g md h Q k R9) := by
  refine MV.of (own := RX3) (by decide) rfl (Nat.le_of_ble_eq_true rfl) (fun x hx hE => ?_)
  obtain ⟨hT, r00, r01, r02, r12, rcc⟩ := id hR.1
  refine V_lv (lv' := [(0, .ref (md (iy k 0))), (1, .int (iZ (w))), (2, .int (iZ (m)))]) rfl ?_
  refine V_aload_n hx dX3_record_0 0 rfl ?_
  refine gf_X3_46 hx (iy k 0) (RW_s hk) rfl dX3_record_1 ?_
  refine V_aload_n hx dX3_record_4 0 rfl ?_
  refine gf_X3_64 hx (iy k 0) (RW_s hk) rfl dX3_record_5 ?_
  refine V_bipush hx dX3_record_8 rfl ?_
  refine V_irem hx ⟨by omega, by omega⟩ ⟨by decide, by decide⟩ dX3_record_10 ?_
  refine V_iload_n hx dX3_record_11 1 rfl ?_
  refine V_iast hx (by omega) (by omega) (by decide) (iy k 11) (RW_a hk 11 (by decide) (n := 10) rfl) (RW g md h Q k (pt R (11) (((R 0 2) % 10).toNat) (w))) (RW_sa (by decide) rfl) dX3_record_12 ?_
  refine V_aload_n hx dX3_record_13 0 rfl ?_
  refine gf_X3_49 hx (iy k 0) (RW_s hk) rfl dX3_record_14 ?_
  refine V_aload_n hx dX3_record_17 0 rfl ?_
  refine gf_X3_64 hx (iy k 0) (RW_s hk) rfl dX3_record_18 ?_
  refine V_top (b := R 0 2) (by rw [pt_ne _ _ (Or.inl (by omega))]) ?_
  refine V_bipush hx dX3_record_21 rfl ?_
  refine V_irem hx ⟨by omega, by omega⟩ ⟨by decide, by decide⟩ dX3_record_23 ?_
  refine V_iload_n hx dX3_record_24 2 rfl ?_
  refine V_iast hx (by omega) (by omega) (by decide) (iy k 12) (RW_a hk 12 (by decide) (n := 10) rfl) (RW g md h Q k (pt (pt R (11) (((R 0 2) % 10).toNat) (w)) (12) (((R 0 2) % 10).toNat) (m))) (RW_sa (by decide) rfl) dX3_record_25 ?_
  refine V_aload_n hx dX3_record_26 0 rfl ?_
  refine gf_X3_52 hx (iy k 0) (RW_s hk) rfl dX3_record_27 ?_
  refine V_aload_n hx dX3_record_30 0 rfl ?_
  refine gf_X3_64 hx (iy k 0) (RW_s hk) rfl dX3_record_31 ?_
  refine V_top (b := R 0 2) (by rw [pt_ne _ _ (Or.inl (by omega)), pt_ne _ _ (Or.inl (by omega))]) ?_
  refine V_bipush hx dX3_record_34 rfl ?_
  refine V_irem hx ⟨by omega, by omega⟩ ⟨by decide, by decide⟩ dX3_record_36 ?_
  refine V_aload_n hx dX3_record_37 0 rfl ?_
  refine V_calli hx (y_sum l hk (pt (pt R (11) (((R 0 2) % 10).toNat) (w)) (12) (((R 0 2) % 10).toNat) (m)) T (rz0 (rl_ring (rl_ring hR.1 hw (by decide)) hm (by decide))) (by omega) (by omega)) cw_X3_95 (RMn (by decide) (by decide)) rfl (iy k 0) (RW_s hk) rfl rfl (Nat.le_of_ble_eq_true rfl) dX3_record_38 0 0 rfl rfl (fun z1 ws1 e1 => ?_)
  obtain ⟨rfl, rfl⟩ := e1
  refine V_iast hx (by omega) (by omega) (by decide) (iy k 13) (RW_a hk 13 (by decide) (n := 10) rfl) (RW g md h Q k (pt (pt (pt R (11) (((R 0 2) % 10).toNat) (w)) (12) (((R 0 2) % 10).toNat) (m)) (13) (((R 0 2) % 10).toNat) (sm (nd T) (T 1)))) (RW_sa (by decide) rfl) dX3_record_41 ?_
  exact hE _ _ _ dX3_record_42 ⟨_, rec_rel hR.1 hR.2 (by omega) hw hm hs rfl, rfl⟩
set_option maxHeartbeats 4000000 in
set_option maxRecDepth 100000 in
theorem y_clear (l : Launch) {g : GT} {md : Nat → Nat} {h : Int} {Q : Nat → TS} {k : Nat} (hk : k < 2) (R : TS) {c : Int} (hc0 : 0 ≤ c) (hc6 : c < 6) : MV l yX3_clear cX3_clear 3 (rmN 0) g [.ref (md (iy k 0)), .int (iZ (c))] (RW g md h Q k R) (fun ws9 => ws9 = RW g md h Q k (xcl R c.toNat 8)) := by
  refine MV.of (own := RX3) (by decide) rfl (Nat.le_of_ble_eq_true rfl) (fun x hx hE => ?_)
  refine V_lv (lv' := [(0, .ref (md (iy k 0))), (1, .int (iZ (c)))]) rfl ?_
  refine V_aload_n hx dX3_clear_0 0 rfl ?_
  refine gf_X3_28 hx (iy k 0) (RW_s hk) rfl dX3_clear_1 ?_
  refine V_iload_n hx dX3_clear_4 1 rfl ?_
  refine V_iconst hx dX3_clear_5 ?_
  refine V_iast hx (by omega) (by omega) (by decide) (iy k 5) (RW_a hk 5 (by decide) (n := 6) rfl) (RW g md h Q k (pt R (5) (c.toNat) (0))) (RW_sa (by decide) rfl) dX3_clear_6 ?_
  refine V_aload_n hx dX3_clear_7 0 rfl ?_
  refine gf_X3_31 hx (iy k 0) (RW_s hk) rfl dX3_clear_8 ?_
  refine V_iload_n hx dX3_clear_11 1 rfl ?_
  refine V_iconst hx dX3_clear_12 ?_
  refine V_iast hx (by omega) (by omega) (by decide) (iy k 6) (RW_a hk 6 (by decide) (n := 6) rfl) (RW g md h Q k (pt (pt R (5) (c.toNat) (0)) (6) (c.toNat) (0))) (RW_sa (by decide) rfl) dX3_clear_13 ?_
  refine V_iconst hx dX3_clear_14 ?_
  refine V_istore_n hx dX3_clear_15 [(2, .int (iZ (0))), (0, .ref (md (iy k 0))), (1, .int (iZ (c)))] (by decide) rfl ?_
  have hL16 : ∀ (n : Nat) (i : Nat), 8 < i + n → i ≤ 8 → V x 0 0 (RW g md h Q k (xcl R c.toNat i)) 16 [(2, .int (iZ ((i : Int)))), (0, .ref (md (iy k 0))), (1, .int (iZ (c)))] [] := by
    intro n
    induction n with
    | zero =>
      intro i g1 g2 
      exact absurd g1 (by omega)
    | succ n ih =>
      intro i g1 g2 
      refine V_iload_n hx dX3_clear_16 0 rfl ?_
      refine V_bipush hx dX3_clear_17 rfl ?_
      refine V_icmp_ge hx dX3_clear_19 64 (by decide) ⟨by omega, by omega⟩ ⟨by decide, by decide⟩ (fun h19 => ?_) (fun h19 => ?_)
      · exact hE _ _ _ dX3_clear_64 (by rw [show i = 8 by omega])
      · refine V_aload_n hx dX3_clear_22 1 rfl ?_
        refine gf_X3_37 hx (iy k 0) (RW_s hk) rfl dX3_clear_23 ?_
        refine V_bipush hx dX3_clear_26 rfl ?_
        refine V_iload_n hx dX3_clear_28 2 rfl ?_
        refine V_imul hx dX3_clear_29 ?_
        refine V_iload_n hx dX3_clear_30 0 rfl ?_
        refine V_iadd hx dX3_clear_31 ?_
        refine V_iconst hx dX3_clear_32 ?_
        refine V_iast hx (by omega) (by omega) (by decide) (iy k 8) (RW_a hk 8 (by decide) (n := 48) rfl) (RW g md h Q k (pt (xcl R c.toNat i) (8) (8 * c.toNat + i) ((-1)))) (by rw [show Int.toNat ((8 * c) + (i : Int)) = 8 * c.toNat + i by omega]; exact RW_sa (by decide) rfl) dX3_clear_33 ?_
        refine V_aload_n hx dX3_clear_34 1 rfl ?_
        refine gf_X3_40 hx (iy k 0) (RW_s hk) rfl dX3_clear_35 ?_
        refine V_bipush hx dX3_clear_38 rfl ?_
        refine V_iload_n hx dX3_clear_40 2 rfl ?_
        refine V_imul hx dX3_clear_41 ?_
        refine V_iload_n hx dX3_clear_42 0 rfl ?_
        refine V_iadd hx dX3_clear_43 ?_
        refine V_iconst hx dX3_clear_44 ?_
        refine V_iast hx (by omega) (by omega) (by decide) (iy k 9) (RW_a hk 9 (by decide) (n := 48) rfl) (RW g md h Q k (pt (pt (xcl R c.toNat i) (8) (8 * c.toNat + i) ((-1))) (9) (8 * c.toNat + i) ((-1)))) (by rw [show Int.toNat ((8 * c) + (i : Int)) = 8 * c.toNat + i by omega]; exact RW_sa (by decide) rfl) dX3_clear_45 ?_
        refine V_aload_n hx dX3_clear_46 1 rfl ?_
        refine gf_X3_43 hx (iy k 0) (RW_s hk) rfl dX3_clear_47 ?_
        refine V_bipush hx dX3_clear_50 rfl ?_
        refine V_iload_n hx dX3_clear_52 2 rfl ?_
        refine V_imul hx dX3_clear_53 ?_
        refine V_iload_n hx dX3_clear_54 0 rfl ?_
        refine V_iadd hx dX3_clear_55 ?_
        refine V_iconst hx dX3_clear_56 ?_
        refine V_iast hx (by omega) (by omega) (by decide) (iy k 10) (RW_a hk 10 (by decide) (n := 48) rfl) (RW g md h Q k (pt (pt (pt (xcl R c.toNat i) (8) (8 * c.toNat + i) ((-1))) (9) (8 * c.toNat + i) ((-1))) (10) (8 * c.toNat + i) ((-1)))) (by rw [show Int.toNat ((8 * c) + (i : Int)) = 8 * c.toNat + i by omega]; exact RW_sa (by decide) rfl) dX3_clear_57 ?_
        refine V_iincN hx dX3_clear_58 0 rfl [(2, .int (iZ (((i + 1 : Nat) : Int)))), (0, .ref (md (iy k 0))), (1, .int (iZ (c)))] (by decide) rfl ?_
        refine V_goto hx dX3_clear_61 16 (by decide) ?_
        refine V_ws (ws' := RW g md h Q k (xcl R c.toNat (i + 1))) (congrArg (RW g md h Q k) (by funext a b; simp only [pt, xcl]; (repeat' split) <;> first | rfl | omega | grind)) ?_
        exact V_sub [0, 1, 2] rfl (ih (i + 1) (by omega) (by omega))
  refine V_ws (ws' := RW g md h Q k (xcl R c.toNat 0)) (congrArg (RW g md h Q k) (by funext a b; simp only [pt, xcl]; (repeat' split) <;> first | rfl | omega | grind)) ?_
  exact V_sub [0, 1, 2] rfl (hL16 (8 + 1) 0 (by omega) (by omega))
set_option maxHeartbeats 4000000 in
set_option maxRecDepth 100000 in
theorem y_begin (l : Launch) {g : GT} {md : Nat → Nat} {h : Int} {Q : Nat → TS} {k : Nat} (hk : k < 2) (R : TS) {m : Int} : MV l yX3_begin cX3_begin 3 (rmN 0) g [.ref (md (iy k 0)), .int (iZ (m))] (RW g md h Q k R) (fun ws9 => ws9 = RW g md h Q k (bgT R m 8)) := by
  refine MV.of (own := RX3) (by decide) rfl (Nat.le_of_ble_eq_true rfl) (fun x hx hE => ?_)
  refine V_lv (lv' := [(0, .ref (md (iy k 0))), (1, .int (iZ (m)))]) rfl ?_
  refine V_aload_n hx dX3_begin_0 0 rfl ?_
  refine V_iload_n hx dX3_begin_1 1 rfl ?_
  refine pf_X3_9 hx (iy k 0) (RW_s hk) (Nat.le_of_ble_eq_true rfl) (RW g md h Q k (pt R (0) (0) (m))) RW_p0 dX3_begin_2 ?_
  refine V_aload_n hx dX3_begin_5 0 rfl ?_
  refine V_iconst hx dX3_begin_6 ?_
  refine pf_X3_61 hx (iy k 0) (RW_s hk) (Nat.le_of_ble_eq_true rfl) (RW g md h Q k (pt (pt R (0) (0) (m)) (0) (1) (0))) RW_p1 dX3_begin_7 ?_
  refine V_aload_n hx dX3_begin_10 0 rfl ?_
  refine V_iconst hx dX3_begin_11 ?_
  refine pf_X3_64 hx (iy k 0) (RW_s hk) (Nat.le_of_ble_eq_true rfl) (RW g md h Q k (pt (pt (pt R (0) (0) (m)) (0) (1) (0)) (0) (2) (0))) RW_p2 dX3_begin_12 ?_
  refine V_iconst hx dX3_begin_15 ?_
  refine V_istore_n hx dX3_begin_16 [(2, .int (iZ (0))), (0, .ref (md (iy k 0))), (1, .int (iZ (m)))] (by decide) rfl ?_
  have hL17 : ∀ (n : Nat) (i : Nat), 8 < i + n → i ≤ 8 → V x 0 0 (RW g md h Q k (bgT R m i)) 17 [(2, .int (iZ ((i : Int)))), (0, .ref (md (iy k 0))), (1, .int (iZ (m)))] [] := by
    intro n
    induction n with
    | zero =>
      intro i g1 g2 
      exact absurd g1 (by omega)
    | succ n ih =>
      intro i g1 g2 
      refine V_iload_n hx dX3_begin_17 0 rfl ?_
      refine V_bipush hx dX3_begin_18 rfl ?_
      refine V_icmp_ge hx dX3_begin_20 43 (by decide) ⟨by omega, by omega⟩ ⟨by decide, by decide⟩ (fun h20 => ?_) (fun h20 => ?_)
      · exact hE _ _ _ dX3_begin_43 (by rw [show i = 8 by omega])
      · refine V_aload_n hx dX3_begin_23 1 rfl ?_
        refine gf_X3_15 hx (iy k 0) (RW_s hk) rfl dX3_begin_24 ?_
        refine V_iload_n hx dX3_begin_27 0 rfl ?_
        refine V_iconst hx dX3_begin_28 ?_
        refine V_iast hx (by omega) (by omega) (by decide) (iy k 1) (RW_a hk 1 (by decide) (n := 8) rfl) (RW g md h Q k (pt (bgT R m i) (1) (i) (0))) (RW_sa (by decide) rfl) dX3_begin_29 ?_
        refine V_aload_n hx dX3_begin_30 1 rfl ?_
        refine gf_X3_19 hx (iy k 0) (RW_s hk) rfl dX3_begin_31 ?_
        refine V_iload_n hx dX3_begin_34 0 rfl ?_
        refine V_iconst hx dX3_begin_35 ?_
        refine V_iast hx (by omega) (by omega) (by decide) (iy k 2) (RW_a hk 2 (by decide) (n := 8) rfl) (RW g md h Q k (pt (pt (bgT R m i) (1) (i) (0)) (2) (i) (0))) (RW_sa (by decide) rfl) dX3_begin_36 ?_
        refine V_iincN hx dX3_begin_37 0 rfl [(2, .int (iZ (((i + 1 : Nat) : Int)))), (0, .ref (md (iy k 0))), (1, .int (iZ (m)))] (by decide) rfl ?_
        refine V_goto hx dX3_begin_40 17 (by decide) ?_
        refine V_ws (ws' := RW g md h Q k (bgT R m (i + 1))) (congrArg (RW g md h Q k) (by funext a b; simp only [pt, bgT]; (repeat' split) <;> first | rfl | omega | grind)) ?_
        exact V_sub [0, 1, 2] rfl (ih (i + 1) (by omega) (by omega))
  refine V_ws (ws' := RW g md h Q k (bgT R m 0)) (congrArg (RW g md h Q k) (by funext a b; simp only [pt, bgT]; (repeat' split) <;> first | rfl | omega | grind)) ?_
  exact V_sub [0, 1, 2] rfl (hL17 (8 + 1) 0 (by omega) (by omega))
set_option maxHeartbeats 4000000 in
set_option maxRecDepth 100000 in
theorem y_close (l : Launch) {g : GT} {md : Nat → Nat} {h : Int} {Q : Nat → TS} {k : Nat} (hk : k < 2) (R T : TS) {zz : Nat} (hR : RLz R T zz) (hn0 : 0 ≤ T 0 0) (hn8 : T 0 0 ≤ 8) {c : Int} (hc0 : 0 ≤ c) (hc1 : c < T 0 1) (hc6 : T 0 1 ≤ 6) (hq9 : VB T (7 + 8 * c.toNat)) (hl0 : 0 ≤ T 0 2) (hl9 : T 0 2 < 2147483647) (hzz : (zz : Int) = T 0 2) (hw8 : sm (nd T) (wrF T (7 + 8 * c.toNat)) = sm 8 (wrF T (7 + 8 * c.toNat))) : MV l yX3_close cX3_close 4 (rmN 3) g [.ref (md (iy k 0)), .int (iZ (c))] (RW g md h Q k R) (fun ws9 => ∃ R9, RLz R9 (clT T (7 + 8 * c.toNat) c) (zz + 1) ∧ ws9 = RW g md h Q k R9) := by
  refine MV.of (own := RX3) (by decide) rfl (Nat.le_of_ble_eq_true rfl) (fun x hx hE => ?_)
  obtain ⟨hT, r00, r01, r02, r12, rcc⟩ := id hR.1
  obtain ⟨a1, a2, a3, a4, a5, a6⟩ := rcc c.toNat (by omega)
  have hnd : ((nd T : Nat) : Int) = T 0 0 := Int.toNat_of_nonneg (by omega)
  have hq := isQ_c (c := c.toNat) (by omega)
  have hwb := wrF_b T (7 + 8 * c.toNat)
  refine V_lv (lv' := [(0, .ref (md (iy k 0))), (1, .int (iZ (c)))]) rfl ?_
  refine V_aload_n hx dX3_close_0 0 rfl ?_
  refine V_dup hx dX3_close_1 rfl ?_
  refine gf_X3_64 hx (iy k 0) (RW_s hk) rfl dX3_close_2 ?_
  refine V_top (b := T 0 2) (r02) ?_
  refine V_iconst hx dX3_close_5 ?_
  refine V_iadd hx dX3_close_6 ?_
  refine pf_X3_64 hx (iy k 0) (RW_s hk) (Nat.le_of_ble_eq_true rfl) (RW g md h Q k (pt R (0) (2) ((T 0 2) + 1))) RW_p2 dX3_close_7 ?_
  refine V_iconst hx dX3_close_10 ?_
  refine V_istore_n hx dX3_close_11 [(2, .int (iZ (0))), (0, .ref (md (iy k 0))), (1, .int (iZ (c)))] (by decide) rfl ?_
  refine V_iconst hx dX3_close_12 ?_
  refine V_istore_n hx dX3_close_13 [(3, .int (iZ (0))), (2, .int (iZ (0))), (0, .ref (md (iy k 0))), (1, .int (iZ (c)))] (by decide) rfl ?_
  have hL14 : ∀ (n : Nat) (i : Nat) (R1 : TS), nd T < i + n → i ≤ nd T → (RLz R1 (clL (pt T 0 2 (T 0 2 + 1)) (7 + 8 * c.toNat) i (T 0 2 + 1)) zz) → V x 0 0 (RW g md h Q k R1) 14 [(3, .int (iZ ((i : Int)))), (2, .int (iZ (sm i (wrF T (7 + 8 * c.toNat))))), (0, .ref (md (iy k 0))), (1, .int (iZ (c)))] [] := by
    intro n
    induction n with
    | zero =>
      intro i R1 g1 g2 hR1
      exact absurd g1 (by omega)
    | succ n ih =>
      intro i R1 g1 g2 hR1
      have rc1 := hR1.1.2.2.2.2.2 c.toNat (by rw [clL_ne (by omega) (by omega), pt_ne _ _ (Or.inr (by omega))]; omega)
      obtain ⟨-, -, -, -, -, a61⟩ := rc1
      have s00 : R1 0 0 = T 0 0 := by rw [hR1.1.2.1, clL_ne (by omega) (by omega), pt_ne _ _ (Or.inr (by omega))]
      have s02 : R1 0 2 = T 0 2 + 1 := by rw [hR1.1.2.2.2.1, clL_ne (by omega) (by omega), pt_at]
      refine V_iload_n hx dX3_close_14 0 rfl ?_
      refine V_aload_n hx dX3_close_15 2 rfl ?_
      refine gf_X3_9 hx (iy k 0) (RW_s hk) rfl dX3_close_16 ?_
      refine V_icmp_ge hx dX3_close_19 76 (by decide) ⟨by omega, by omega⟩ (by first | assumption | exact hT _ _ | exact ⟨by omega, by omega⟩) (fun h19 => ?_) (fun h19 => ?_)
      · refine V_aload_n hx dX3_close_76 2 rfl ?_
        refine gf_X3_31 hx (iy k 0) (RW_s hk) rfl dX3_close_77 ?_
        refine V_iload_n hx dX3_close_80 3 rfl ?_
        refine V_iconst hx dX3_close_81 ?_
        refine V_iast hx (by omega) (by omega) (by decide) (iy k 6) (RW_a hk 6 (by decide) (n := 6) rfl) (RW g md h Q k (pt R1 (6) (c.toNat) (1))) (RW_sa (by decide) rfl) dX3_close_82 ?_
        have en : i = nd T := by omega
        have hsum : rg (sm (nd ((pt (clL (pt T 0 2 (T 0 2 + 1)) (7 + 8 * c.toNat) i (T 0 2 + 1)) (7 + 8 * c.toNat) (2) (1)))) (((pt (clL (pt T 0 2 (T 0 2 + 1)) (7 + 8 * c.toNat) i (T 0 2 + 1)) (7 + 8 * c.toNat) (2) (1))) 1)) := by rw [show ((pt (clL (pt T 0 2 (T 0 2 + 1)) (7 + 8 * c.toNat) i (T 0 2 + 1)) (7 + 8 * c.toNat) (2) (1))) 1 = clL (pt T 0 2 (T 0 2 + 1)) (7 + 8 * c.toNat) i (T 0 2 + 1) 1 from pt_row 1 (by omega), show nd ((pt (clL (pt T 0 2 (T 0 2 + 1)) (7 + 8 * c.toNat) i (T 0 2 + 1)) (7 + 8 * c.toNat) (2) (1))) = nd T from by unfold nd; rw [pt_ne _ _ (Or.inl (by omega)), clL_ne (by omega) (by omega), pt_ne _ _ (Or.inr (by omega))]]; exact rg_sum (by omega) (vb_clL (fun d hd => by have := hq9 d hd; rw [pt_ne _ _ (Or.inl (by omega)), pt_ne _ _ (Or.inl (by omega)), pt_ne _ _ (Or.inl (by omega))]; exact this))
        refine V_aload_n hx dX3_close_83 2 rfl ?_
        refine V_iload_n hx dX3_close_84 3 rfl ?_
        refine V_iload_n hx dX3_close_85 1 rfl ?_
        refine V_callv hx (y_record l hk (pt R1 (6) (c.toNat) (1)) (pt (clL (pt T 0 2 (T 0 2 + 1)) (7 + 8 * c.toNat) i (T 0 2 + 1)) (7 + 8 * c.toNat) (2) (1)) (rz_done hR1 ⟨by decide, by decide⟩) (by rw [pt_ne _ _ (Or.inl (by omega)), clL_ne (by omega) (by omega), pt_ne _ _ (Or.inr (by omega))]; omega) (by rw [pt_ne _ _ (Or.inl (by omega)), clL_ne (by omega) (by omega), pt_ne _ _ (Or.inr (by omega))]; omega) (w := c) (m := sm i (wrF T (7 + 8 * c.toNat))) ⟨by omega, by omega⟩ (by rw [en, hw8]; exact ⟨by omega, by omega⟩) (by rw [pt_ne _ _ (Or.inl (by omega)), clL_ne (by omega) (by omega), pt_at]; omega) (by rw [pt_ne _ _ (Or.inl (by omega)), clL_ne (by omega) (by omega), pt_at]; omega) hsum) cw_X3_99 (RMn (by decide) (by decide)) rfl (iy k 0) (RW_s hk) rfl rfl (Nat.le_of_ble_eq_true rfl) dX3_close_86 0 0 rfl rfl (fun ws1 e1 => ?_)
        obtain ⟨R1, hR1, rfl⟩ := e1
        exact hE _ _ _ dX3_close_89 ⟨_, (show clT T (7 + 8 * c.toNat) c = kcT (pt (clL (pt T 0 2 (T 0 2 + 1)) (7 + 8 * c.toNat) i (T 0 2 + 1)) (7 + 8 * c.toNat) (2) (1)) c (sm i (wrF T (7 + 8 * c.toNat))) from by unfold clT; rw [← hw8, en]) ▸ hR1, rfl⟩
      · obtain ⟨-, -, e10⟩ := a61 i (by omega)
        rw [clL_ne (by omega) (by omega), pt_ne _ _ (Or.inl (by omega))] at e10
        refine V_aload_n hx dX3_close_22 2 rfl ?_
        refine gf_X3_43 hx (iy k 0) (RW_s hk) rfl dX3_close_23 ?_
        refine V_bipush hx dX3_close_26 rfl ?_
        refine V_iload_n hx dX3_close_28 3 rfl ?_
        refine V_imul hx dX3_close_29 ?_
        refine V_iload_n hx dX3_close_30 0 rfl ?_
        refine V_iadd hx dX3_close_31 ?_
        refine V_iald hx (by omega) (by omega) (by decide) (iy k 10) (RW_a hk 10 (by decide) (n := 48) rfl) (v := R1 10 (8 * c.toNat + i)) (by show iZ _ = iZ _; rw [show Int.toNat ((8 * c) + (i : Int)) = 8 * c.toNat + i by omega] <;> rfl) dX3_close_32 ?_
        refine V_iconst hx dX3_close_33 ?_
        refine V_icmp_ne hx dX3_close_34 40 (by decide) (hR1.1.1 _ _) ⟨by decide, by decide⟩ (fun h34 => ?_) (fun h34 => ?_)
        · have e10n : (pt T 0 2 (T 0 2 + 1)) (7 + 8 * c.toNat + 7) i ≠ -1 := by rw [pt_ne _ _ (Or.inl (by omega))]; omega
          refine V_aload_n hx dX3_close_40 2 rfl ?_
          refine gf_X3_15 hx (iy k 0) (RW_s hk) rfl dX3_close_41 ?_
          refine V_iload_n hx dX3_close_44 0 rfl ?_
          refine V_aload_n hx dX3_close_45 2 rfl ?_
          refine gf_X3_43 hx (iy k 0) (RW_s hk) rfl dX3_close_46 ?_
          refine V_bipush hx dX3_close_49 rfl ?_
          refine V_iload_n hx dX3_close_51 3 rfl ?_
          refine V_imul hx dX3_close_52 ?_
          refine V_iload_n hx dX3_close_53 0 rfl ?_
          refine V_iadd hx dX3_close_54 ?_
          refine V_iald hx (by omega) (by omega) (by decide) (iy k 10) (RW_a hk 10 (by decide) (n := 48) rfl) (v := R1 10 (8 * c.toNat + i)) (by show iZ _ = iZ _; rw [show Int.toNat ((8 * c) + (i : Int)) = 8 * c.toNat + i by omega] <;> rfl) dX3_close_55 ?_
          refine V_top (b := T (7 + 8 * c.toNat + 7) i) (e10) ?_
          refine V_iast hx (by omega) (by omega) (by decide) (iy k 1) (RW_a hk 1 (by decide) (n := 8) rfl) (RW g md h Q k (pt R1 (1) (i) (T (7 + 8 * c.toNat + 7) i))) (RW_sa (by decide) rfl) dX3_close_56 ?_
          refine V_aload_n hx dX3_close_57 2 rfl ?_
          refine gf_X3_19 hx (iy k 0) (RW_s hk) rfl dX3_close_58 ?_
          refine V_iload_n hx dX3_close_61 0 rfl ?_
          refine V_aload_n hx dX3_close_62 2 rfl ?_
          refine gf_X3_64 hx (iy k 0) (RW_s hk) rfl dX3_close_63 ?_
          refine V_top (b := R1 0 2) (by rw [pt_ne _ _ (Or.inl (by omega))]) ?_
          refine V_top (b := T 0 2 + 1) (s02) ?_
          refine V_iast hx (by omega) (by omega) (by decide) (iy k 2) (RW_a hk 2 (by decide) (n := 8) rfl) (RW g md h Q k (pt (pt R1 (1) (i) (T (7 + 8 * c.toNat + 7) i)) (2) (i) (T 0 2 + 1))) (RW_sa (by decide) rfl) dX3_close_66 ?_
          refine V_iinc hx dX3_close_67 1 rfl [(2, .int (iZ (sm i (wrF T (7 + 8 * c.toNat)) + (1)))), (3, .int (iZ ((i : Int)))), (0, .ref (md (iy k 0))), (1, .int (iZ (c)))] (by decide) rfl ?_
          refine V_iincN hx dX3_close_70 1 rfl [(3, .int (iZ (((i + 1 : Nat) : Int)))), (2, .int (iZ (sm i (wrF T (7 + 8 * c.toNat)) + (1)))), (0, .ref (md (iy k 0))), (1, .int (iZ (c)))] (by decide) rfl ?_
          refine V_goto hx dX3_close_73 14 (by decide) ?_
          refine V_sub (lv' := [(3, .int (iZ (((i + 1 : Nat) : Int)))), (2, .int (iZ (sm i (wrF T (7 + 8 * c.toNat)) + (1)))), (0, .ref (md (iy k 0))), (1, .int (iZ (c)))]) [0, 1, 2, 3] rfl ?_
          refine V_lv (lv' := [(3, .int (iZ ((i + 1 : Nat) : Int))), (2, .int (iZ (sm (i + 1) (wrF T (7 + 8 * c.toNat))))), (0, .ref (md (iy k 0))), (1, .int (iZ c))]) (by simp only [sm, wrF, bz_t (show T (7 + 8 * c.toNat + 7) i ≠ -1 by omega)]) ?_
          exact ih (i + 1) _ (by omega) (by omega) (clS (q := 7 + 8 * c.toNat) (T := (pt T 0 2 (T 0 2 + 1))) e10n hq ▸ rz_se (rz_am hR1 (by rw [← e10]; exact hR1.1.1 _ _)) ⟨by omega, by omega⟩)
        · have e10z : (pt T 0 2 (T 0 2 + 1)) (7 + 8 * c.toNat + 7) i = -1 := by rw [pt_ne _ _ (Or.inl (by omega))]; omega
          refine V_goto hx dX3_close_37 70 (by decide) ?_
          refine V_iincN hx dX3_close_70 0 rfl [(3, .int (iZ (((i + 1 : Nat) : Int)))), (2, .int (iZ (sm i (wrF T (7 + 8 * c.toNat))))), (0, .ref (md (iy k 0))), (1, .int (iZ (c)))] (by decide) rfl ?_
          refine V_goto hx dX3_close_73 14 (by decide) ?_
          refine V_sub (lv' := [(3, .int (iZ (((i + 1 : Nat) : Int)))), (2, .int (iZ (sm i (wrF T (7 + 8 * c.toNat))))), (0, .ref (md (iy k 0))), (1, .int (iZ (c)))]) [0, 1, 2, 3] rfl ?_
          refine V_lv (lv' := [(3, .int (iZ ((i + 1 : Nat) : Int))), (2, .int (iZ (sm (i + 1) (wrF T (7 + 8 * c.toNat))))), (0, .ref (md (iy k 0))), (1, .int (iZ c))]) (by simp only [sm, wrF, bz_f (show ¬ (T (7 + 8 * c.toNat + 7) i ≠ -1) by omega), Int.add_zero]) ?_
          exact ih (i + 1) _ (by omega) (by omega) (clN (q := 7 + 8 * c.toNat) (T := (pt T 0 2 (T 0 2 + 1))) (i := i) (z := T 0 2 + 1) e10z ▸ hR1)
  refine V_ws (ws' := _) rfl ?_
  exact V_sub [0, 1, 2, 3] rfl (hL14 (nd T + 1) 0 _ (by omega) (by omega) (by rw [cl0]; exact rz_cl (v := T 0 2 + 1) hR ⟨by omega, by omega⟩))
set_option maxHeartbeats 4000000 in
set_option maxRecDepth 100000 in
theorem y_pay (l : Launch) {g : GT} {md : Nat → Nat} {h : Int} {Q : Nat → TS} {k : Nat} (hk : k < 2) (R T : TS) {zz : Nat} (hR : RLz R T zz) (hn0 : 0 ≤ T 0 0) (hn8 : T 0 0 ≤ 8) {d v : Int} (hd0 : 0 ≤ d) (hd8 : d < 8) (hv0 : 0 ≤ v) (hv9 : v ≤ 9999) (hl0 : 0 ≤ T 0 2) (hl9 : T 0 2 < 2147483647) (hzz : (zz : Int) = T 0 2) (ham : ∀ d : Nat, d < 8 → -1 ≤ T 1 d ∧ T 1 d ≤ 9999) : MV l yX3_pay cX3_pay 3 (rmN 2) g [.ref (md (iy k 0)), .int (iZ (d)), .int (iZ (v))] (RW g md h Q k R) (fun ws9 => ∃ R9, RLz R9 (pyT T d.toNat v) (zz + 1) ∧ ws9 = RW g md h Q k R9) := by
  refine MV.of (own := RX3) (by decide) rfl (Nat.le_of_ble_eq_true rfl) (fun x hx hE => ?_)
  obtain ⟨hT, r00, r01, r02, r12, rcc⟩ := id hR.1
  have hnd : ((nd T : Nat) : Int) = T 0 0 := Int.toNat_of_nonneg (by omega)
  refine V_lv (lv' := [(0, .ref (md (iy k 0))), (1, .int (iZ (d))), (2, .int (iZ (v)))]) rfl ?_
  refine V_aload_n hx dX3_pay_0 0 rfl ?_
  refine V_dup hx dX3_pay_1 rfl ?_
  refine gf_X3_64 hx (iy k 0) (RW_s hk) rfl dX3_pay_2 ?_
  refine V_top (b := T 0 2) (r02) ?_
  refine V_iconst hx dX3_pay_5 ?_
  refine V_iadd hx dX3_pay_6 ?_
  refine pf_X3_64 hx (iy k 0) (RW_s hk) (Nat.le_of_ble_eq_true rfl) (RW g md h Q k (pt R (0) (2) ((T 0 2) + 1))) RW_p2 dX3_pay_7 ?_
  refine V_aload_n hx dX3_pay_10 0 rfl ?_
  refine gf_X3_15 hx (iy k 0) (RW_s hk) rfl dX3_pay_11 ?_
  refine V_iload_n hx dX3_pay_14 1 rfl ?_
  refine V_iload_n hx dX3_pay_15 2 rfl ?_
  refine V_iast hx (by omega) (by omega) (by decide) (iy k 1) (RW_a hk 1 (by decide) (n := 8) rfl) (RW g md h Q k (pt (pt R (0) (2) ((T 0 2) + 1)) (1) (d.toNat) (v))) (RW_sa (by decide) rfl) dX3_pay_16 ?_
  refine V_aload_n hx dX3_pay_17 0 rfl ?_
  refine gf_X3_19 hx (iy k 0) (RW_s hk) rfl dX3_pay_18 ?_
  refine V_iload_n hx dX3_pay_21 1 rfl ?_
  refine V_aload_n hx dX3_pay_22 0 rfl ?_
  refine gf_X3_64 hx (iy k 0) (RW_s hk) rfl dX3_pay_23 ?_
  refine V_top (b := (T 0 2) + 1) (by rw [pt_ne _ _ (Or.inl (by omega)), pt_at]) ?_
  refine V_iast hx (by omega) (by omega) (by decide) (iy k 2) (RW_a hk 2 (by decide) (n := 8) rfl) (RW g md h Q k (pt (pt (pt R (0) (2) ((T 0 2) + 1)) (1) (d.toNat) (v)) (2) (d.toNat) ((T 0 2) + 1))) (RW_sa (by decide) rfl) dX3_pay_26 ?_
  have hsum : rg (sm (nd ((pt (pt (pt T (0) (2) (T 0 2 + 1)) (1) (d.toNat) (v)) (2) (d.toNat) (T 0 2 + 1)))) (((pt (pt (pt T (0) (2) (T 0 2 + 1)) (1) (d.toNat) (v)) (2) (d.toNat) (T 0 2 + 1))) 1)) := by rw [show nd ((pt (pt (pt T (0) (2) (T 0 2 + 1)) (1) (d.toNat) (v)) (2) (d.toNat) (T 0 2 + 1))) = nd T from by unfold nd; rw [pt_ne _ _ (Or.inl (by omega)), pt_ne _ _ (Or.inl (by omega)), pt_ne _ _ (Or.inr (by omega))]]; exact rg_sum (by omega) (fun d9 hd9 => by have := ham d9 hd9; simp only [pt]; (repeat' split) <;> omega)
  refine V_aload_n hx dX3_pay_27 0 rfl ?_
  refine V_iconst hx dX3_pay_28 ?_
  refine V_iconst hx dX3_pay_29 ?_
  refine V_callv hx (y_record l hk (pt (pt (pt R (0) (2) ((T 0 2) + 1)) (1) (d.toNat) (v)) (2) (d.toNat) ((T 0 2) + 1)) (pt (pt (pt T (0) (2) (T 0 2 + 1)) (1) (d.toNat) (v)) (2) (d.toNat) (T 0 2 + 1)) (rz_se (rz_am (rz_cl (v := T 0 2 + 1) hR ⟨by omega, by omega⟩) (v := v) ⟨by omega, by omega⟩) (v := T 0 2 + 1) ⟨by omega, by omega⟩) (by rw [pt_ne _ _ (Or.inl (by omega)), pt_ne _ _ (Or.inl (by omega)), pt_ne _ _ (Or.inr (by omega))]; omega) (by rw [pt_ne _ _ (Or.inl (by omega)), pt_ne _ _ (Or.inl (by omega)), pt_ne _ _ (Or.inr (by omega))]; omega) (w := (-1)) (m := 1) ⟨by decide, by decide⟩ ⟨by decide, by decide⟩ (by rw [pt_ne _ _ (Or.inl (by omega)), pt_ne _ _ (Or.inl (by omega)), pt_at]; omega) (by rw [pt_ne _ _ (Or.inl (by omega)), pt_ne _ _ (Or.inl (by omega)), pt_at]; omega) hsum) cw_X3_99 (RMn (by decide) (by decide)) rfl (iy k 0) (RW_s hk) rfl rfl (Nat.le_of_ble_eq_true rfl) dX3_pay_30 0 0 rfl rfl (fun ws1 e1 => ?_)
  obtain ⟨R1, hR1, rfl⟩ := e1
  exact hE _ _ _ dX3_pay_33 ⟨_, hR1, rfl⟩
