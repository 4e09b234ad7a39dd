/-! the reference's state: its methods, told in the class's ints (T) -/
def RLz (R T : TS) (zz : Nat) : Prop := RL0 R T ∧ RNG R T zz
theorem rs_dec : True := trivial
theorem hl_id {a : Int} (h0 : 0 ≤ a) (h9 : a ≤ 9999) : hl a = a := by unfold hl; (repeat' split) <;> omega
theorem rz_place {R T : TS} {zz : Nat} {c : Nat} {v : Int} (h : RLz R T zz) (hv : rg v) : RLz (pt R 5 c v) (pt T (7 + 8 * c) 1 v) zz := ⟨rl_place h.1 hv, rn_place h.2⟩
theorem rz_done {R T : TS} {zz : Nat} {c : Nat} {v : Int} (h : RLz R T zz) (hv : rg v) : RLz (pt R 6 c v) (pt T (7 + 8 * c) 2 v) zz := ⟨rl_done h.1 hv, rn_done h.2⟩
theorem rz_lost {R T : TS} {zz : Nat} {c : Nat} {v : Int} (h : RLz R T zz) (hv : rg v) : RLz (pt R 7 c v) (pt T (7 + 8 * c) 3 v) zz := ⟨rl_lost h.1 hv, rn_lost h.2⟩
theorem rz_am {R T : TS} {zz : Nat} {d : Nat} {v : Int} (h : RLz R T zz) (hv : rg v) : RLz (pt R 1 d v) (pt T 1 d v) zz := ⟨rl_am h.1 hv, rn_am h.2⟩
theorem rz_se {R T : TS} {zz : Nat} {d : Nat} {v : Int} (h : RLz R T zz) (hv : rg v) : RLz (pt R 2 d v) (pt T 2 d v) zz := ⟨rl_se h.1 hv, rn_se h.2⟩
theorem rz_cl {R T : TS} {zz : Nat} {v : Int} (h : RLz R T zz) (hv : rg v) : RLz (pt R 0 2 v) (pt T 0 2 v) zz := ⟨rl_cl h.1 hv, rn_cl h.2⟩
theorem rz_had {R T : TS} {zz c d : Nat} {v : Int} (h : RLz R T zz) (hv : rg v) (hd : d < 8) : RLz (pt R 8 (8 * c + d) v) (pt T (7 + 8 * c + 5) d v) zz := ⟨rl_had h.1 hv hd, rn_had h.2⟩
theorem rz_hadS {R T : TS} {zz c d : Nat} {v : Int} (h : RLz R T zz) (hv : rg v) (hd : d < 8) : RLz (pt R 9 (8 * c + d) v) (pt T (7 + 8 * c + 6) d v) zz := ⟨rl_hadS h.1 hv hd, rn_hadS h.2⟩
theorem rz_own {R T : TS} {zz c d : Nat} {v : Int} (h : RLz R T zz) (hv : rg v) (hd : d < 8) : RLz (pt R 10 (8 * c + d) v) (pt T (7 + 8 * c + 7) d v) zz := ⟨rl_own h.1 hv hd, rn_own h.2⟩
set_option maxHeartbeats 4000000 in
set_option maxRecDepth 100000 in
theorem y_sum (l : Launch) {g : GT} {md : Nat → Nat} {h : Int} {Q : Nat → TS} {k : Nat} (hk : k < 2) (R T : TS) {zz : Nat} (hR : RLz R T zz) (hn0 : 0 ≤ T 0 0) (hn8 : T 0 0 ≤ 8) : MI l yX3_sum cX3_sum 3 .int (rmN 0) g [.ref (md (iy k 0))] (RW g md h Q k R) (fun z ws9 => z = sm (nd T) (T 1) ∧ ws9 = RW g md h Q k R) := by
  refine MI.of (own := RX3) (by decide) rfl (Nat.le_of_ble_eq_true rfl) (fun x hx hE => ?_)
  obtain ⟨hT, r00, r01, r02, r12, rcc⟩ := id hR.1
  have hnd : ((nd T : Nat) : Int) = T 0 0 := Int.toNat_of_nonneg (by omega)
  refine V_lv (lv' := [(0, .ref (md (iy k 0)))]) rfl ?_
  refine V_iconst hx dX3_sum_0 ?_
  refine V_istore_n hx dX3_sum_1 [(1, .int (iZ (0))), (0, .ref (md (iy k 0)))] (by decide) rfl ?_
  refine V_iconst hx dX3_sum_2 ?_
  refine V_istore_n hx dX3_sum_3 [(2, .int (iZ (0))), (1, .int (iZ (0))), (0, .ref (md (iy k 0)))] (by decide) rfl ?_
  have hL4 : ∀ (n : Nat) (i : Nat), nd T < i + n → i ≤ nd T → V x 0 0 (RW g md h Q k R) 4 [(2, .int (iZ ((i : Int)))), (1, .int (iZ (sm i (T 1)))), (0, .ref (md (iy k 0)))] [] := by
    intro n
    induction n with
    | zero =>
      intro i g1 g2 
      exact absurd g1 (by omega)
    | succ n ih =>
      intro i g1 g2 
      refine V_iload_n hx dX3_sum_4 0 rfl ?_
      refine V_aload_n hx dX3_sum_5 2 rfl ?_
      refine gf_X3_9 hx (iy k 0) (RW_s hk) rfl dX3_sum_6 ?_
      refine V_icmp_ge hx dX3_sum_9 27 (by decide) ⟨by omega, by omega⟩ (by first | assumption | exact hT _ _ | exact ⟨by omega, by omega⟩) (fun h9 => ?_) (fun h9 => ?_)
      · refine V_iload_n hx dX3_sum_27 1 rfl ?_
        exact hE _ _ _ _ dX3_sum_28 rfl ⟨by rw [show i = nd T by omega], rfl⟩
      · refine V_iload_n hx dX3_sum_12 1 rfl ?_
        refine V_aload_n hx dX3_sum_13 2 rfl ?_
        refine gf_X3_15 hx (iy k 0) (RW_s hk) rfl dX3_sum_14 ?_
        refine V_iload_n hx dX3_sum_17 0 rfl ?_
        refine V_iald hx (by omega) (by omega) (by decide) (iy k 1) (RW_a hk 1 (by decide) (n := 8) rfl) (v := R 1 i) rfl dX3_sum_18 ?_
        refine V_top (b := T 1 i) ((r12 i (by omega)).1) ?_
        refine V_iadd hx dX3_sum_19 ?_
        refine V_istore_n hx dX3_sum_20 [(1, .int (iZ ((sm i (T 1)) + (T 1 i)))), (2, .int (iZ ((i : Int)))), (0, .ref (md (iy k 0)))] (by decide) rfl ?_
        refine V_iincN hx dX3_sum_21 1 rfl [(2, .int (iZ (((i + 1 : Nat) : Int)))), (1, .int (iZ ((sm i (T 1)) + (T 1 i)))), (0, .ref (md (iy k 0)))] (by decide) rfl ?_
        refine V_goto hx dX3_sum_24 4 (by decide) ?_
        refine V_sub (lv' := [(2, .int (iZ (((i + 1 : Nat) : Int)))), (1, .int (iZ ((sm i (T 1)) + (T 1 i)))), (0, .ref (md (iy k 0)))]) [0, 1, 2] rfl ?_
        refine V_lv (lv' := [(2, .int (iZ ((i + 1 : Nat) : Int))), (1, .int (iZ (sm (i + 1) (T 1)))), (0, .ref (md (iy k 0)))]) rfl ?_
        exact ih (i + 1) (by omega) (by omega)
  refine V_ws (ws' := RW g md h Q k R) rfl ?_
  exact V_sub [0, 1, 2] rfl (hL4 (nd T + 1) 0 (by omega) (by omega))
set_option maxHeartbeats 4000000 in
set_option maxRecDepth 100000 in
theorem y_step (l : Launch) {g : GT} {md : Nat → Nat} {h : Int} {Q : Nat → TS} {k : Nat} (hk : k < 2) (R : TS) {c j w : Int} (hc0 : 0 ≤ c) (hc6 : c < 6) (hj0 : 0 ≤ j) (hj8 : j < 8) (hw0 : 0 ≤ w) (hw4 : w < 4) : MI l yX3_step cX3_step 4 .int (rmN 0) g [.ref (md (iy k 0)), .int (iZ (c)), .int (iZ (j)), .int (iZ (w))] (RW g md h Q k R) (fun z ws9 => z = R 3 (32 * c.toNat + 4 * j.toNat + w.toNat) ∧ ws9 = RW g md h Q k R) := by
  refine MI.of (own := RX3) (by decide) rfl (Nat.le_of_ble_eq_true rfl) (fun x hx hE => ?_)
  refine V_lv (lv' := [(0, .ref (md (iy k 0))), (1, .int (iZ (c))), (2, .int (iZ (j))), (3, .int (iZ (w)))]) rfl ?_
  refine V_aload_n hx dX3_step_0 0 rfl ?_
  refine gf_X3_22 hx (iy k 0) (RW_s hk) rfl dX3_step_1 ?_
  refine V_iconst hx dX3_step_4 ?_
  refine V_bipush hx dX3_step_5 rfl ?_
  refine V_iload_n hx dX3_step_7 1 rfl ?_
  refine V_imul hx dX3_step_8 ?_
  refine V_iload_n hx dX3_step_9 2 rfl ?_
  refine V_iadd hx dX3_step_10 ?_
  refine V_imul hx dX3_step_11 ?_
  refine V_iload_n hx dX3_step_12 3 rfl ?_
  refine V_iadd hx dX3_step_13 ?_
  refine V_iald hx (by omega) (by omega) (by decide) (iy k 3) (RW_a hk 3 (by decide) (n := 192) rfl) (v := R 3 (32 * c.toNat + 4 * j.toNat + w.toNat)) (by show iZ _ = iZ _; rw [show Int.toNat ((4 * ((8 * c) + j)) + w) = 32 * c.toNat + 4 * j.toNat + w.toNat by omega] <;> rfl) dX3_step_14 ?_
  exact hE _ _ _ _ dX3_step_15 rfl ⟨rfl, rfl⟩
set_option maxHeartbeats 4000000 in
set_option maxRecDepth 100000 in
theorem y_goesOn (l : Launch) {g : GT} {md : Nat → Nat} {h : Int} {Q : Nat → TS} {k : Nat} (hk : k < 2) (R T : TS) {zz : Nat} (hR : RLz R T zz) {c : Int} (hc0 : 0 ≤ c) (hc1 : c < T 0 1) (hc6 : T 0 1 ≤ 6) : MI l yX3_goesOn cX3_goesOn 2 .boolean (rmN 0) g [.ref (md (iy k 0)), .int (iZ (c))] (RW g md h Q k R) (fun z ws9 => z = bz (awP T c.toNat) ∧ ws9 = RW g md h Q k R) := by
  refine MI.of (own := RX3) (by decide) rfl (Nat.le_of_ble_eq_true rfl) (fun x hx hE => ?_)
  obtain ⟨hT, r00, r01, r02, r12, rcc⟩ := id hR.1
  obtain ⟨a1, a2, a3, a4, a5, a6⟩ := rcc c.toNat (by omega)
  refine V_lv (lv' := [(0, .ref (md (iy k 0))), (1, .int (iZ (c)))]) rfl ?_
  refine V_aload_n hx dX3_goesOn_0 0 rfl ?_
  refine gf_X3_31 hx (iy k 0) (RW_s hk) rfl dX3_goesOn_1 ?_
  refine V_iload_n hx dX3_goesOn_4 1 rfl ?_
  refine V_iald hx (by omega) (by omega) (by decide) (iy k 6) (RW_a hk 6 (by decide) (n := 6) rfl) (v := R 6 c.toNat) rfl dX3_goesOn_5 ?_
  refine V_if_ne hx dX3_goesOn_6 22 (by decide) (by first | assumption | exact hT _ _ | exact ⟨by omega, by omega⟩) (fun h6 => ?_) (fun h6 => ?_)
  · refine V_iconst hx dX3_goesOn_22 ?_
    exact hE _ _ _ _ dX3_goesOn_23 rfl ⟨(bz_f (by unfold awP; omega)).symm, rfl⟩
  · refine V_aload_n hx dX3_goesOn_9 0 rfl ?_
    refine gf_X3_25 hx (iy k 0) (RW_s hk) rfl dX3_goesOn_10 ?_
    refine V_iload_n hx dX3_goesOn_13 1 rfl ?_
    refine V_iald hx (by omega) (by omega) (by decide) (iy k 4) (RW_a hk 4 (by decide) (n := 6) rfl) (v := R 4 c.toNat) rfl dX3_goesOn_14 ?_
    refine V_if_le hx dX3_goesOn_15 22 (by decide) (by first | assumption | exact hT _ _ | exact ⟨by omega, by omega⟩) (fun h15 => ?_) (fun h15 => ?_)
    · refine V_iconst hx dX3_goesOn_22 ?_
      exact hE _ _ _ _ dX3_goesOn_23 rfl ⟨(bz_f (by unfold awP; omega)).symm, rfl⟩
    · refine V_iconst hx dX3_goesOn_18 ?_
      refine V_goto hx dX3_goesOn_19 23 (by decide) ?_
      exact hE _ _ _ _ dX3_goesOn_23 rfl ⟨(bz_t (by unfold awP; omega)).symm, rfl⟩
set_option maxHeartbeats 4000000 in
set_option maxRecDepth 100000 in
theorem y_read (l : Launch) {g : GT} {md : Nat → Nat} {h : Int} {Q : Nat → TS} {k : Nat} (hk : k < 2) (R T : TS) {zz : Nat} (hR : RLz R T zz) {c : Int} (hc0 : 0 ≤ c) (hc1 : c < T 0 1) (hc6 : T 0 1 ≤ 6) {d : Int} (hd0 : 0 ≤ d) (hd8 : d < 8) : MI l yX3_read cX3_read 4 .int (rmN 0) g [.ref (md (iy k 0)), .int (iZ (c)), .int (iZ (d))] (RW g md h Q k R) (fun z ws9 => z = rdV T (7 + 8 * c.toNat) d.toNat ∧ ∃ R9, RLz R9 (rdT T (7 + 8 * c.toNat) d.toNat) zz ∧ ws9 = RW g md h Q k R9) := by
  refine MI.of (own := RX3) (by decide) rfl (Nat.le_of_ble_eq_true rfl) (fun x hx hE => ?_)
  obtain ⟨hT, r00, r01, r02, r12, rcc⟩ := id hR.1
  obtain ⟨a1, a2, a3, a4, a5, a6⟩ := rcc c.toNat (by omega)
  obtain ⟨e8, e9, e10⟩ := a6 d.toNat (by omega)
  obtain ⟨f1, f2⟩ := r12 d.toNat (by omega)
  refine V_lv (lv' := [(0, .ref (md (iy k 0))), (1, .int (iZ (c))), (2, .int (iZ (d)))]) rfl ?_
  refine V_bipush hx dX3_read_0 rfl ?_
  refine V_iload_n hx dX3_read_2 1 rfl ?_
  refine V_imul hx dX3_read_3 ?_
  refine V_iload_n hx dX3_read_4 2 rfl ?_
  refine V_iadd hx dX3_read_5 ?_
  refine V_istore_n hx dX3_read_6 [(3, .int (iZ ((8 * c) + d))), (0, .ref (md (iy k 0))), (1, .int (iZ (c))), (2, .int (iZ (d)))] (by decide) rfl ?_
  refine V_aload_n hx dX3_read_7 1 rfl ?_
  refine gf_X3_43 hx (iy k 0) (RW_s hk) rfl dX3_read_8 ?_
  refine V_iload_n hx dX3_read_11 0 rfl ?_
  refine V_iald hx (by omega) (by omega) (by decide) (iy k 10) (RW_a hk 10 (by decide) (n := 48) rfl) (v := R 10 (8 * c.toNat + d.toNat)) (by show iZ _ = iZ _; rw [show Int.toNat ((8 * c) + d) = 8 * c.toNat + d.toNat by omega] <;> rfl) dX3_read_12 ?_
  refine V_iconst hx dX3_read_13 ?_
  refine V_icmp_eq hx dX3_read_14 24 (by decide) (by first | assumption | exact hT _ _ | exact ⟨by omega, by omega⟩) ⟨by decide, by decide⟩ (fun h14 => ?_) (fun h14 => ?_)
  · refine V_aload_n hx dX3_read_24 1 rfl ?_
    refine gf_X3_37 hx (iy k 0) (RW_s hk) rfl dX3_read_25 ?_
    refine V_iload_n hx dX3_read_28 0 rfl ?_
    refine V_iald hx (by omega) (by omega) (by decide) (iy k 8) (RW_a hk 8 (by decide) (n := 48) rfl) (v := R 8 (8 * c.toNat + d.toNat)) (by show iZ _ = iZ _; rw [show Int.toNat ((8 * c) + d) = 8 * c.toNat + d.toNat by omega] <;> rfl) dX3_read_29 ?_
    refine V_iconst hx dX3_read_30 ?_
    refine V_icmp_ne hx dX3_read_31 58 (by decide) (by first | assumption | exact hT _ _ | exact ⟨by omega, by omega⟩) ⟨by decide, by decide⟩ (fun h31 => ?_) (fun h31 => ?_)
    · refine V_aload_n hx dX3_read_58 1 rfl ?_
      refine gf_X3_37 hx (iy k 0) (RW_s hk) rfl dX3_read_59 ?_
      refine V_iload_n hx dX3_read_62 0 rfl ?_
      refine V_iald hx (by omega) (by omega) (by decide) (iy k 8) (RW_a hk 8 (by decide) (n := 48) rfl) (v := R 8 (8 * c.toNat + d.toNat)) (by show iZ _ = iZ _; rw [show Int.toNat ((8 * c) + d) = 8 * c.toNat + d.toNat by omega] <;> rfl) dX3_read_63 ?_
      exact hE _ _ _ _ dX3_read_64 rfl ⟨by rw [rdV, if_neg (by omega), if_pos (by omega)]; omega, R, by rw [rdT, if_neg (by omega), if_pos (by omega)]; exact hR, rfl⟩
    · refine V_aload_n hx dX3_read_34 1 rfl ?_
      refine gf_X3_37 hx (iy k 0) (RW_s hk) rfl dX3_read_35 ?_
      refine V_iload_n hx dX3_read_38 0 rfl ?_
      refine V_aload_n hx dX3_read_39 1 rfl ?_
      refine gf_X3_15 hx (iy k 0) (RW_s hk) rfl dX3_read_40 ?_
      refine V_iload_n hx dX3_read_43 3 rfl ?_
      refine V_iald hx (by omega) (by omega) (by decide) (iy k 1) (RW_a hk 1 (by decide) (n := 8) rfl) (v := R 1 d.toNat) rfl dX3_read_44 ?_
      refine V_top (b := T 1 d.toNat) (f1) ?_
      refine V_iast hx (by omega) (by omega) (by decide) (iy k 8) (RW_a hk 8 (by decide) (n := 48) rfl) (RW g md h Q k (pt R (8) (8 * c.toNat + d.toNat) (T 1 d.toNat))) (by rw [show Int.toNat ((8 * c) + d) = 8 * c.toNat + d.toNat by omega]; exact RW_sa (by decide) rfl) dX3_read_45 ?_
      refine V_aload_n hx dX3_read_46 1 rfl ?_
      refine gf_X3_40 hx (iy k 0) (RW_s hk) rfl dX3_read_47 ?_
      refine V_iload_n hx dX3_read_50 0 rfl ?_
      refine V_aload_n hx dX3_read_51 1 rfl ?_
      refine gf_X3_19 hx (iy k 0) (RW_s hk) rfl dX3_read_52 ?_
      refine V_iload_n hx dX3_read_55 3 rfl ?_
      refine V_iald hx (by omega) (by omega) (by decide) (iy k 2) (RW_a hk 2 (by decide) (n := 8) rfl) (v := R 2 d.toNat) (by show iZ _ = iZ _; rw [pt_ne _ _ (Or.inl (by omega))] <;> rfl) dX3_read_56 ?_
      refine V_top (b := T 2 d.toNat) (f2) ?_
      refine V_iast hx (by omega) (by omega) (by decide) (iy k 9) (RW_a hk 9 (by decide) (n := 48) rfl) (RW g md h Q k (pt (pt R (8) (8 * c.toNat + d.toNat) (T 1 d.toNat)) (9) (8 * c.toNat + d.toNat) (T 2 d.toNat))) (by rw [show Int.toNat ((8 * c) + d) = 8 * c.toNat + d.toNat by omega]; exact RW_sa (by decide) rfl) dX3_read_57 ?_
      refine V_aload_n hx dX3_read_58 1 rfl ?_
      refine gf_X3_37 hx (iy k 0) (RW_s hk) rfl dX3_read_59 ?_
      refine V_iload_n hx dX3_read_62 0 rfl ?_
      refine V_iald hx (by omega) (by omega) (by decide) (iy k 8) (RW_a hk 8 (by decide) (n := 48) rfl) (v := T 1 d.toNat) (by show iZ _ = iZ _; rw [show Int.toNat ((8 * c) + d) = 8 * c.toNat + d.toNat by omega, pt_ne _ _ (Or.inl (by omega)), pt_at] <;> rfl) dX3_read_63 ?_
      exact hE _ _ _ _ dX3_read_64 rfl ⟨by rw [rdV, if_neg (by omega), if_neg (by omega)], _, by rw [rdT, if_neg (by omega), if_neg (by omega)]; exact rz_hadS (rz_had hR (by rw [← f1]; exact hT _ _) (by omega)) (by rw [← f2]; exact hT _ _) (by omega), rfl⟩
  · refine V_aload_n hx dX3_read_17 1 rfl ?_
    refine gf_X3_43 hx (iy k 0) (RW_s hk) rfl dX3_read_18 ?_
    refine V_iload_n hx dX3_read_21 0 rfl ?_
    refine V_iald hx (by omega) (by omega) (by decide) (iy k 10) (RW_a hk 10 (by decide) (n := 48) rfl) (v := R 10 (8 * c.toNat + d.toNat)) (by show iZ _ = iZ _; rw [show Int.toNat ((8 * c) + d) = 8 * c.toNat + d.toNat by omega] <;> rfl) dX3_read_22 ?_
    exact hE _ _ _ _ dX3_read_23 rfl ⟨by rw [rdV, if_pos (by omega)]; omega, R, by rw [rdT, if_pos (by omega)]; exact hR, rfl⟩
set_option maxHeartbeats 4000000 in
set_option maxRecDepth 100000 in
theorem y_write (l : Launch) {g : GT} {md : Nat → Nat} {h : Int} {Q : Nat → TS} {k : Nat} (hk : k < 2) (R T : TS) {zz : Nat} (hR : RLz R T zz) {c : Int} (hc0 : 0 ≤ c) (hc1 : c < T 0 1) (hc6 : T 0 1 ≤ 6) {d : Int} (hd0 : 0 ≤ d) (hd8 : d < 8) {v : Int} (hv : rg v) : MV l yX3_write cX3_write 4 (rmN 1) g [.ref (md (iy k 0)), .int (iZ (c)), .int (iZ (d)), .int (iZ (v))] (RW g md h Q k R) (fun ws9 => ∃ R9, RLz R9 (pt T (7 + 8 * c.toNat + 7) d.toNat (hl v)) zz ∧ ws9 = RW g md h Q k R9) := by
  refine MV.of (own := RX3) (by decide) rfl (Nat.le_of_ble_eq_true rfl) (fun x hx hE => ?_)
  obtain ⟨hT, r00, r01, r02, r12, rcc⟩ := id hR.1
  have hvb := hl_b v
  obtain ⟨hv1, hv2⟩ := id hv
  refine V_lv (lv' := [(0, .ref (md (iy k 0))), (1, .int (iZ (c))), (2, .int (iZ (d))), (3, .int (iZ (v)))]) rfl ?_
  refine V_aload_n hx dX3_write_0 0 rfl ?_
  refine gf_X3_43 hx (iy k 0) (RW_s hk) rfl dX3_write_1 ?_
  refine V_bipush hx dX3_write_4 rfl ?_
  refine V_iload_n hx dX3_write_6 1 rfl ?_
  refine V_imul hx dX3_write_7 ?_
  refine V_iload_n hx dX3_write_8 2 rfl ?_
  refine V_iadd hx dX3_write_9 ?_
  refine V_iconst hx dX3_write_10 ?_
  refine V_sipush hx dX3_write_11 rfl ?_
  refine V_iload_n hx dX3_write_14 3 rfl ?_
  refine V_min hx qm746 qm175 q13 qm176 ⟨by decide, by decide⟩ (by first | assumption | exact hT _ _ | exact ⟨by omega, by omega⟩) (by decide) (Nat.le_of_ble_eq_true rfl) (Nat.zero_le _) (Nat.zero_le _) dX3_write_15 ?_
  refine V_max hx qm747 qm748 q13 qm749 ⟨by decide, by decide⟩ ⟨by split <;> omega, by split <;> omega⟩ (by decide) (Nat.le_of_ble_eq_true rfl) (Nat.zero_le _) (Nat.zero_le _) dX3_write_18 ?_
  refine V_top (b := hl v) (by unfold hl; (repeat' split) <;> omega) ?_
  refine V_iast hx (by omega) (by omega) (by decide) (iy k 10) (RW_a hk 10 (by decide) (n := 48) rfl) (RW g md h Q k (pt R (10) (8 * c.toNat + d.toNat) (hl v))) (by rw [show Int.toNat ((8 * c) + d) = 8 * c.toNat + d.toNat by omega]; exact RW_sa (by decide) rfl) dX3_write_21 ?_
  exact hE _ _ _ dX3_write_22 ⟨_, rz_own hR ⟨by omega, by omega⟩ (by omega), rfl⟩
