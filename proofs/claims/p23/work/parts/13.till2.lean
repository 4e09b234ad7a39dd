/-! the class TillOptimists, on -/
def fkP (kd d e b : Int) : Prop := (-999 ≤ b ∧ b ≤ 999) ∧ (kd = 1 → 0 ≤ b) ∧ (kd = 3 → 1 ≤ b ∧ d ≠ e)
def syP (T : TS) (c kd d e : Int) : Prop := (0 ≤ c ∧ c < T 0 1) ∧ (0 ≤ kd ∧ kd ≤ 3) ∧ (0 ≤ d ∧ d < T 0 0) ∧ (0 ≤ e ∧ e < T 0 0)
def skP (T : TS) (c : Int) : Prop := T (7 + 8 * c.toNat) 2 = 0 ∧ T (7 + 8 * c.toNat) 1 = 0 ∧ T (7 + 8 * c.toNat) 0 < 8
def anP (T : TS) : Prop := ∃ c, c < nc T ∧ awP T c
noncomputable def adF (T : TS) : Nat → Int × Int × Int
  | 0 => (-1, 0, 0)
  | c + 1 => if T (7 + 8 * c) 2 = 0 ∧ 0 < T (7 + 8 * c) 0 then (if (adF T c).1 = -1 ∨ sm (nc T) (clF T c) < (adF T c).2.1 ∨ (sm (nc T) (clF T c) = (adF T c).2.1 ∧ (adF T c).2.2 < T (7 + 8 * c) 1) then ((c : Int), sm (nc T) (clF T c), T (7 + 8 * c) 1) else adF T c) else adF T c
theorem SW_01 {g : GT} {ad : Nat → Nat} {P : Nat → TS} {T : TS} : SW g ad P 0 T = SW g ad (ups P 0 T) 1 (P 1) := by
  unfold SW
  congr 1
  funext n
  unfold ups
  by_cases h : n = 1
  · subst h; rfl
  · rw [if_neg h]
theorem SW_1z {g : GT} {ad : Nat → Nat} {P : Nat → TS} {T T1 : TS} (h : P 0 = T) : SW g ad P 1 T1 = SW g ad (ups P 1 T1) 0 T := by
  unfold SW
  congr 1
  funext n
  unfold ups
  by_cases h0 : n = 0
  · subst h0; exact h
  · rw [if_neg h0]
theorem clF_b (T : TS) (a : Nat) : 0 ≤ sm (nc T) (clF T a) ∧ sm (nc T) (clF T a) ≤ nc T := sm_b (fun _ => bz_b _) _
theorem adF_b {T : TS} (hT : RG T) (h6 : nc T ≤ 6) : ∀ c : Nat, c ≤ 6 → (-1 ≤ (adF T c).1 ∧ (adF T c).1 ≤ 6) ∧ (0 ≤ (adF T c).2.1 ∧ (adF T c).2.1 ≤ 6) ∧ rg (adF T c).2.2
  | 0, _ => by rw [adF]; exact ⟨⟨by decide, by decide⟩, ⟨by decide, by decide⟩, ⟨by decide, by decide⟩⟩
  | c + 1, h => by
    have ih := adF_b hT h6 c (by omega)
    have hb := clF_b T c
    rw [adF]
    (repeat' split)
    · exact ⟨⟨by show (-1 : Int) ≤ (c : Int); omega, by show (c : Int) ≤ 6; omega⟩, ⟨hb.1, by show sm (nc T) (clF T c) ≤ 6; omega⟩, hT _ _⟩
    · exact ih
    · exact ih
set_option maxHeartbeats 4000000 in
set_option maxRecDepth 100000 in
theorem x_fitsKind (l : Launch) {g : GT} {ad : Nat → Nat} {P : Nat → TS} (T : TS) (hS : SHP T) {kd d e b : Int} (hkd : rg kd) (hd : rg d) (he : rg e) (hb : rg b) : MI l yX2_fitsKind cX2_fitsKind 4 .boolean (rmN 1) g [.int (iZ (kd)), .int (iZ (d)), .int (iZ (e)), .int (iZ (b))] (SW g ad P 0 T) (fun z ws9 => z = bz (fkP kd d e b) ∧ ws9 = SW g ad P 0 T) := by
  refine MI.of (own := RX2) (by decide) rfl (Nat.le_of_ble_eq_true rfl) (fun x hx hE => ?_)
  have hk : 0 < 2 := by decide
  obtain ⟨hT, ⟨hn1, hn8⟩, ⟨hc0, hc6⟩, ⟨hl0, hl9⟩⟩ := id hS
  have hn0 : 0 ≤ T 0 0 := by omega
  refine V_lv (lv' := [(0, .int (iZ (kd))), (1, .int (iZ (d))), (2, .int (iZ (e))), (3, .int (iZ (b)))]) rfl ?_
  refine V_iload_n hx dX2_fitsKind_0 3 rfl ?_
  refine V_sipush hx dX2_fitsKind_1 rfl ?_
  refine V_icmp_lt hx dX2_fitsKind_4 14 (by decide) (by first | assumption | exact hT _ _ | exact ⟨by omega, by omega⟩) ⟨by decide, by decide⟩ (fun h4 => ?_) (fun h4 => ?_)
  · refine V_iconst hx dX2_fitsKind_14 ?_
    exact hE _ _ _ _ dX2_fitsKind_15 rfl ⟨(bz_f (by unfold fkP; omega)).symm, rfl⟩
  · refine V_iload_n hx dX2_fitsKind_7 3 rfl ?_
    refine V_sipush hx dX2_fitsKind_8 rfl ?_
    refine V_icmp_le hx dX2_fitsKind_11 16 (by decide) (by first | assumption | exact hT _ _ | exact ⟨by omega, by omega⟩) ⟨by decide, by decide⟩ (fun h11 => ?_) (fun h11 => ?_)
    · refine V_iload_n hx dX2_fitsKind_16 0 rfl ?_
      refine V_iconst hx dX2_fitsKind_17 ?_
      refine V_icmp_ne hx dX2_fitsKind_18 31 (by decide) (by first | assumption | exact hT _ _ | exact ⟨by omega, by omega⟩) ⟨by decide, by decide⟩ (fun h18 => ?_) (fun h18 => ?_)
      · refine V_iload_n hx dX2_fitsKind_31 0 rfl ?_
        refine V_iconst hx dX2_fitsKind_32 ?_
        refine V_icmp_ne hx dX2_fitsKind_33 52 (by decide) (by first | assumption | exact hT _ _ | exact ⟨by omega, by omega⟩) ⟨by decide, by decide⟩ (fun h33 => ?_) (fun h33 => ?_)
        · refine V_iconst hx dX2_fitsKind_52 ?_
          exact hE _ _ _ _ dX2_fitsKind_53 rfl ⟨(bz_t (by unfold fkP; omega)).symm, rfl⟩
        · refine V_iload_n hx dX2_fitsKind_36 3 rfl ?_
          refine V_iconst hx dX2_fitsKind_37 ?_
          refine V_icmp_lt hx dX2_fitsKind_38 50 (by decide) (by first | assumption | exact hT _ _ | exact ⟨by omega, by omega⟩) ⟨by decide, by decide⟩ (fun h38 => ?_) (fun h38 => ?_)
          · refine V_iconst hx dX2_fitsKind_50 ?_
            exact hE _ _ _ _ dX2_fitsKind_51 rfl ⟨(bz_f (by unfold fkP; omega)).symm, rfl⟩
          · refine V_iload_n hx dX2_fitsKind_41 1 rfl ?_
            refine V_iload_n hx dX2_fitsKind_42 2 rfl ?_
            refine V_icmp_eq hx dX2_fitsKind_43 50 (by decide) (by first | assumption | exact hT _ _ | exact ⟨by omega, by omega⟩) (by first | assumption | exact hT _ _ | exact ⟨by omega, by omega⟩) (fun h43 => ?_) (fun h43 => ?_)
            · refine V_iconst hx dX2_fitsKind_50 ?_
              exact hE _ _ _ _ dX2_fitsKind_51 rfl ⟨(bz_f (by unfold fkP; omega)).symm, rfl⟩
            · refine V_iconst hx dX2_fitsKind_46 ?_
              refine V_goto hx dX2_fitsKind_47 51 (by decide) ?_
              exact hE _ _ _ _ dX2_fitsKind_51 rfl ⟨(bz_t (by unfold fkP; omega)).symm, rfl⟩
      · refine V_iload_n hx dX2_fitsKind_21 3 rfl ?_
        refine V_if_lt hx dX2_fitsKind_22 29 (by decide) (by first | assumption | exact hT _ _ | exact ⟨by omega, by omega⟩) (fun h22 => ?_) (fun h22 => ?_)
        · refine V_iconst hx dX2_fitsKind_29 ?_
          exact hE _ _ _ _ dX2_fitsKind_30 rfl ⟨(bz_f (by unfold fkP; omega)).symm, rfl⟩
        · refine V_iconst hx dX2_fitsKind_25 ?_
          refine V_goto hx dX2_fitsKind_26 30 (by decide) ?_
          exact hE _ _ _ _ dX2_fitsKind_30 rfl ⟨(bz_t (by unfold fkP; omega)).symm, rfl⟩
    · refine V_iconst hx dX2_fitsKind_14 ?_
      exact hE _ _ _ _ dX2_fitsKind_15 rfl ⟨(bz_f (by unfold fkP; omega)).symm, rfl⟩
set_option maxHeartbeats 4000000 in
set_option maxRecDepth 100000 in
theorem x_say (l : Launch) {g : GT} {ad : Nat → Nat} (hst : l.stackTraces = false) {P : Nat → TS} (T : TS) (hS : SHP T) {c kd d e b : Int} (hc : rg c) (hkd : rg kd) (hd : rg d) (he : rg e) (hb : rg b) (hw : 0 ≤ c → c < T 0 1 → 0 ≤ T (7 + 8 * c.toNat) 0) : MXI l yX2_say cX2_say 7 .int (rmX 8 6) g [.ref (ad 0), .int (iZ (c)), .int (iZ (kd)), .int (iZ (d)), .int (iZ (e)), .int (iZ (b))] (SW g ad P 0 T) (fun z ws9 => (syP T c kd d e ∧ fkP kd d e b ∧ skP T c) ∧ z = T (7 + 8 * c.toNat) 0 + 1 ∧ ws9 = SW g ad P 0 (asT T (7 + 8 * c.toNat) kd d e b)) (fun E => (E = eIO ∧ ¬ syP T c kd d e) ∨ (E = eIA ∧ syP T c kd d e ∧ ¬ fkP kd d e b) ∨ (E = eIS ∧ syP T c kd d e ∧ fkP kd d e b ∧ ¬ skP T c)) := by
  refine MXI.of (own := RX2) (by decide) rfl rfl hst (Nat.le_of_ble_eq_true rfl) (fun x hx hz hTE hPX hE => ?_)
  have hk : 0 < 2 := by decide
  obtain ⟨hT, ⟨hn1, hn8⟩, ⟨hc0, hc6⟩, ⟨hl0, hl9⟩⟩ := id hS
  have hn0 : 0 ≤ T 0 0 := by omega
  refine V_lv (lv' := [(0, .ref (ad 0)), (1, .int (iZ (c))), (2, .int (iZ (kd))), (3, .int (iZ (d))), (4, .int (iZ (e))), (5, .int (iZ (b)))]) rfl ?_
  refine V_aload_n hx dX2_say_0 0 rfl ?_
  refine V_iload_n hx dX2_say_1 1 rfl ?_
  refine V_callXv hx hz hPX (x_needClerk l hst (P := P) T hS (d := c) (by first | assumption | exact hT _ _ | exact ⟨by omega, by omega⟩)) cw_X2_59 ⟨Nat.le_of_ble_eq_true rfl, Nat.le_of_ble_eq_true rfl, Nat.le_of_ble_eq_true rfl, Nat.le_of_ble_eq_true rfl⟩ rfl 0 SW_tillx rfl rfl (Nat.le_of_ble_eq_true rfl) dX2_say_2 1 6 rfl rfl (fun E he => Or.inl ⟨he.1, fun h9 => he.2 h9.1⟩) (fun ws1 e1 => ?_)
  obtain ⟨v2, rfl⟩ := e1
  obtain ⟨u2, w2⟩ := id v2
  refine V_iload_n hx dX2_say_5 2 rfl ?_
  refine V_iconst hx dX2_say_6 ?_
  refine V_iconst hx dX2_say_7 ?_
  refine V_callXSv hx hz hPX (x_needWhat l hst (P := P) T hS (d := kd) (lo := 0) (hi := 3) (by first | assumption | exact hT _ _ | exact ⟨by omega, by omega⟩) ⟨by decide, by decide⟩ ⟨by decide, by decide⟩) cw_X2_62 ⟨Nat.le_of_ble_eq_true rfl, Nat.le_of_ble_eq_true rfl, Nat.le_of_ble_eq_true rfl, Nat.le_of_ble_eq_true rfl⟩ rfl rfl (Nat.le_of_ble_eq_true rfl) dX2_say_8 2 12 rfl rfl (fun E he => Or.inl ⟨he.1, fun h9 => he.2 h9.2.1⟩) (fun ws2 e2 => ?_)
  obtain ⟨v8, rfl⟩ := e2
  obtain ⟨u8, w8⟩ := id v8
  refine V_aload_n hx dX2_say_11 0 rfl ?_
  refine V_iload_n hx dX2_say_12 3 rfl ?_
  refine V_callXv hx hz hPX (x_needDrawer l hst (P := P) T hS (d := d) (by first | assumption | exact hT _ _ | exact ⟨by omega, by omega⟩)) cw_X2_34 ⟨Nat.le_of_ble_eq_true rfl, Nat.le_of_ble_eq_true rfl, Nat.le_of_ble_eq_true rfl, Nat.le_of_ble_eq_true rfl⟩ rfl 0 SW_tillx rfl rfl (Nat.le_of_ble_eq_true rfl) dX2_say_13 3 18 rfl rfl (fun E he => Or.inl ⟨he.1, fun h9 => he.2 h9.2.2.1⟩) (fun ws3 e3 => ?_)
  obtain ⟨v13, rfl⟩ := e3
  obtain ⟨u13, w13⟩ := id v13
  refine V_aload_n hx dX2_say_16 0 rfl ?_
  refine V_iload hx dX2_say_17 4 rfl ?_
  refine V_callXv hx hz hPX (x_needDrawer l hst (P := P) T hS (d := e) (by first | assumption | exact hT _ _ | exact ⟨by omega, by omega⟩)) cw_X2_34 ⟨Nat.le_of_ble_eq_true rfl, Nat.le_of_ble_eq_true rfl, Nat.le_of_ble_eq_true rfl, Nat.le_of_ble_eq_true rfl⟩ rfl 0 SW_tillx rfl rfl (Nat.le_of_ble_eq_true rfl) dX2_say_19 4 24 rfl rfl (fun E he => Or.inl ⟨he.1, fun h9 => he.2 h9.2.2.2⟩) (fun ws4 e4 => ?_)
  obtain ⟨v19, rfl⟩ := e4
  obtain ⟨u19, w19⟩ := id v19
  refine V_iload_n hx dX2_say_22 2 rfl ?_
  refine V_iload_n hx dX2_say_23 3 rfl ?_
  refine V_iload hx dX2_say_24 4 rfl ?_
  refine V_iload hx dX2_say_26 5 rfl ?_
  refine V_callSi hx (x_fitsKind l (P := P) T hS (kd := kd) (d := d) (e := e) (b := b) (by assumption) (by assumption) (by assumption) (by assumption)) cw_X2_66 ⟨Nat.le_of_ble_eq_true rfl, Nat.le_of_ble_eq_true rfl, Nat.le_of_ble_eq_true rfl, Nat.le_of_ble_eq_true rfl⟩ rfl rfl (Nat.le_of_ble_eq_true rfl) dX2_say_28 4 24 rfl rfl (fun z5 ws5 e5 => ?_)
  obtain ⟨rfl, rfl⟩ := e5
  refine V_ifb_ne hx dX2_say_31 44 (by decide) (fun h31 => ?_) (fun h31 => ?_)
  · have hw1 := hw (by omega) (by omega)
    refine V_aload_n hx dX2_say_44 0 rfl ?_
    refine gf_X2_10 hx 0 (SW_tillx) rfl dX2_say_45 ?_
    refine gf_X2_72 hx (ix 0 0) (SW_shop hk) rfl dX2_say_48 ?_
    refine V_iload_n hx dX2_say_51 1 rfl ?_
    refine V_aald hx (by omega) (by omega) (by decide) (ix 0 3) (SW_refs hk) (r := ad (ix 0 (7 + 8 * c.toNat))) rfl dX2_say_52 ?_
    refine V_astore hx dX2_say_53 [(6, .ref (ad (ix 0 (7 + 8 * c.toNat)))), (0, .ref (ad 0)), (1, .int (iZ (c))), (2, .int (iZ (kd))), (3, .int (iZ (d))), (4, .int (iZ (e))), (5, .int (iZ (b)))] (by decide) rfl ?_
    refine V_aload hx dX2_say_55 0 rfl ?_
    refine gf_X2_76 hx (ix 0 (7 + 8 * c.toNat)) (SW_clk hk (isQ_c (by omega))) rfl dX2_say_57 ?_
    refine V_if_ne hx dX2_say_60 81 (by decide) (by first | assumption | exact hT _ _ | exact ⟨by omega, by omega⟩) (fun h60 => ?_) (fun h60 => ?_)
    · exact hTE _ _ _ _ _ _ _ _ _ _ (kt_ISE (is := 88) (text := "the program takes no step") (List.mem_of_getElem? (i := 11) rfl)) dX2_say_81 dX2_say_84 dX2_say_85 dX2_say_87 dX2_say_90 (by decide) (Nat.le_of_ble_eq_true rfl) (Nat.le_of_ble_eq_true rfl) (Nat.le_of_ble_eq_true rfl) (Or.inr (Or.inr ⟨rfl, ⟨v2, v8, v13, v19⟩, h31, by unfold skP; omega⟩))
    · refine V_aload hx dX2_say_63 0 rfl ?_
      refine gf_X2_82 hx (ix 0 (7 + 8 * c.toNat)) (SW_clk hk (isQ_c (by omega))) rfl dX2_say_65 ?_
      refine V_if_ne hx dX2_say_68 81 (by decide) (by first | assumption | exact hT _ _ | exact ⟨by omega, by omega⟩) (fun h68 => ?_) (fun h68 => ?_)
      · exact hTE _ _ _ _ _ _ _ _ _ _ (kt_ISE (is := 88) (text := "the program takes no step") (List.mem_of_getElem? (i := 11) rfl)) dX2_say_81 dX2_say_84 dX2_say_85 dX2_say_87 dX2_say_90 (by decide) (Nat.le_of_ble_eq_true rfl) (Nat.le_of_ble_eq_true rfl) (Nat.le_of_ble_eq_true rfl) (Or.inr (Or.inr ⟨rfl, ⟨v2, v8, v13, v19⟩, h31, by unfold skP; omega⟩))
      · refine V_aload hx dX2_say_71 0 rfl ?_
        refine gf_X2_85 hx (ix 0 (7 + 8 * c.toNat)) (SW_clk hk (isQ_c (by omega))) rfl dX2_say_73 ?_
        refine V_bipush hx dX2_say_76 rfl ?_
        refine V_icmp_lt hx dX2_say_78 91 (by decide) (by first | assumption | exact hT _ _ | exact ⟨by omega, by omega⟩) ⟨by decide, by decide⟩ (fun h78 => ?_) (fun h78 => ?_)
        · refine V_aload hx dX2_say_91 0 rfl ?_
          refine V_iload_n hx dX2_say_93 3 rfl ?_
          refine V_iload_n hx dX2_say_94 4 rfl ?_
          refine V_iload hx dX2_say_95 5 rfl ?_
          refine V_iload hx dX2_say_97 6 rfl ?_
          refine V_callNv hx (m_addStep l hk T hT (q := 7 + 8 * c.toNat) (isQ_c (by omega)) (kd := kd) (d := d) (e := e) (b := b) (by omega) (by omega)) cw_X2_90 ⟨Nat.le_of_ble_eq_true rfl, Nat.le_of_ble_eq_true rfl, Nat.le_of_ble_eq_true rfl, Nat.le_of_ble_eq_true rfl⟩ rfl (ix 0 (7 + 8 * c.toNat)) (SW_clk hk (isQ_c (by omega))) rfl rfl (Nat.le_of_ble_eq_true rfl) dX2_say_99 4 24 rfl rfl (fun ws6 e6 => ?_)
          subst e6
          refine V_aload hx dX2_say_102 0 rfl ?_
          refine gf_X2_85 hx (ix 0 (7 + 8 * c.toNat)) (SW_clk hk (isQ_c (by omega))) rfl dX2_say_104 ?_
          exact hE _ _ _ _ _ _ dX2_say_107 rfl (Nat.le_of_ble_eq_true rfl) (Nat.le_of_ble_eq_true rfl) ⟨⟨⟨v2, v8, v13, v19⟩, h31, by unfold skP; omega⟩, by show asT _ _ _ _ _ _ _ _ = _; unfold asT; rw [pt_at], rfl⟩
        · exact hTE _ _ _ _ _ _ _ _ _ _ (kt_ISE (is := 88) (text := "the program takes no step") (List.mem_of_getElem? (i := 11) rfl)) dX2_say_81 dX2_say_84 dX2_say_85 dX2_say_87 dX2_say_90 (by decide) (Nat.le_of_ble_eq_true rfl) (Nat.le_of_ble_eq_true rfl) (Nat.le_of_ble_eq_true rfl) (Or.inr (Or.inr ⟨rfl, ⟨v2, v8, v13, v19⟩, h31, by unfold skP; omega⟩))
  · exact hTE _ _ _ _ _ _ _ _ _ _ (kt_IAE (is := 70) (text := "the number or the drawers do not fit the kind") (List.mem_of_getElem? (i := 10) rfl)) dX2_say_34 dX2_say_37 dX2_say_38 dX2_say_40 dX2_say_43 (by decide) (Nat.le_of_ble_eq_true rfl) (Nat.le_of_ble_eq_true rfl) (Nat.le_of_ble_eq_true rfl) (Or.inr (Or.inl ⟨rfl, ⟨v2, v8, v13, v19⟩, h31⟩))
set_option maxHeartbeats 4000000 in
set_option maxRecDepth 100000 in
theorem x_turn (l : Launch) {g : GT} {ad : Nat → Nat} (hst : l.stackTraces = false) {P : Nat → TS} (T : TS) (hS : SHP T) {c : Int} (hc : rg c) (hk0 : 0 ≤ c → c < T 0 1 → TKok T (7 + 8 * c.toNat)) : MXI l yX2_turn cX2_turn 2 .int (rmX 8 2) g [.ref (ad 0), .int (iZ (c))] (SW g ad P 0 T) (fun z ws9 => ((0 ≤ c ∧ c < T 0 1) ∧ awP T c.toNat) ∧ z = tkV T c.toNat ∧ ws9 = SW g ad P 0 (tkT T c.toNat)) (fun E => (E = eIO ∧ ¬ (0 ≤ c ∧ c < T 0 1)) ∨ (E = eIS ∧ (0 ≤ c ∧ c < T 0 1) ∧ ¬ awP T c.toNat)) := by
  refine MXI.of (own := RX2) (by decide) rfl rfl hst (Nat.le_of_ble_eq_true rfl) (fun x hx hz hTE hPX hE => ?_)
  have hk : 0 < 2 := by decide
  obtain ⟨hT, ⟨hn1, hn8⟩, ⟨hc0, hc6⟩, ⟨hl0, hl9⟩⟩ := id hS
  have hn0 : 0 ≤ T 0 0 := by omega
  refine V_lv (lv' := [(0, .ref (ad 0)), (1, .int (iZ (c)))]) rfl ?_
  refine V_aload_n hx dX2_turn_0 0 rfl ?_
  refine V_iload_n hx dX2_turn_1 1 rfl ?_
  refine V_callXv hx hz hPX (x_needClerk l hst (P := P) T hS (d := c) (by first | assumption | exact hT _ _ | exact ⟨by omega, by omega⟩)) cw_X2_59 ⟨Nat.le_of_ble_eq_true rfl, Nat.le_of_ble_eq_true rfl, Nat.le_of_ble_eq_true rfl, Nat.le_of_ble_eq_true rfl⟩ rfl 0 SW_tillx rfl rfl (Nat.le_of_ble_eq_true rfl) dX2_turn_2 1 6 rfl rfl (fun E he => Or.inl he) (fun ws1 e1 => ?_)
  obtain ⟨v2, rfl⟩ := e1
  obtain ⟨u2, w2⟩ := id v2
  have hTi := hT
  have hki := hk0 (by omega) (by omega)
  refine V_aload_n hx dX2_turn_5 0 rfl ?_
  refine gf_X2_10 hx 0 (SW_tillx) rfl dX2_turn_6 ?_
  refine gf_X2_72 hx (ix 0 0) (SW_shop hk) rfl dX2_turn_9 ?_
  refine V_iload_n hx dX2_turn_12 1 rfl ?_
  refine V_aald hx (by omega) (by omega) (by decide) (ix 0 3) (SW_refs hk) (r := ad (ix 0 (7 + 8 * c.toNat))) rfl dX2_turn_13 ?_
  refine V_callNi hx (m_isAtWork l hk T hT (q := 7 + 8 * c.toNat) (isQ_c (by omega))) cw_X2_94 ⟨Nat.le_of_ble_eq_true rfl, Nat.le_of_ble_eq_true rfl, Nat.le_of_ble_eq_true rfl, Nat.le_of_ble_eq_true rfl⟩ rfl (ix 0 (7 + 8 * c.toNat)) (SW_clk hk (isQ_c (by omega))) rfl rfl (Nat.le_of_ble_eq_true rfl) dX2_turn_14 1 6 rfl rfl (fun z2 ws2 e2 => ?_)
  obtain ⟨rfl, rfl⟩ := e2
  refine V_ifb_ne hx dX2_turn_17 30 (by decide) (fun h17 => ?_) (fun h17 => ?_)
  · refine V_aload_n hx dX2_turn_30 0 rfl ?_
    refine gf_X2_10 hx 0 (SW_tillx) rfl dX2_turn_31 ?_
    refine V_iload_n hx dX2_turn_34 1 rfl ?_
    refine V_callNi hx (m_takeTurn l hk T hTi (c := c) (by omega) (by omega) hki) cw_X2_100 ⟨Nat.le_of_ble_eq_true rfl, Nat.le_of_ble_eq_true rfl, Nat.le_of_ble_eq_true rfl, Nat.le_of_ble_eq_true rfl⟩ rfl (ix 0 0) (SW_shop hk) rfl rfl (Nat.le_of_ble_eq_true rfl) dX2_turn_35 1 6 rfl rfl (fun z3 ws3 e3 => ?_)
    obtain ⟨rfl, rfl⟩ := e3
    exact hE _ _ _ _ _ _ dX2_turn_38 rfl (Nat.le_of_ble_eq_true rfl) (Nat.le_of_ble_eq_true rfl) ⟨⟨v2, h17⟩, rfl, rfl⟩
  · exact hTE _ _ _ _ _ _ _ _ _ _ (kt_ISE (is := 98) (text := "the clerk is done or has no steps") (List.mem_of_getElem? (i := 1) rfl)) dX2_turn_20 dX2_turn_23 dX2_turn_24 dX2_turn_26 dX2_turn_29 (by decide) (Nat.le_of_ble_eq_true rfl) (Nat.le_of_ble_eq_true rfl) (Nat.le_of_ble_eq_true rfl) (Or.inr ⟨rfl, v2, h17⟩)
set_option maxHeartbeats 4000000 in
set_option maxRecDepth 100000 in
theorem x_drop (l : Launch) {g : GT} {ad : Nat → Nat} (hst : l.stackTraces = false) {P : Nat → TS} (T : TS) (hS : SHP T) {c : Int} (hc : rg c) : MXI l yX2_drop cX2_drop 4 .int (rmX 8 1) g [.ref (ad 0), .int (iZ (c))] (SW g ad P 0 T) (fun z ws9 => (0 ≤ c ∧ c < T 0 1) ∧ z = T (7 + 8 * c.toNat) 1 ∧ ws9 = SW g ad P 0 (soT T (7 + 8 * c.toNat) 8)) (fun E => E = eIO ∧ ¬ (0 ≤ c ∧ c < T 0 1)) := by
  refine MXI.of (own := RX2) (by decide) rfl rfl hst (Nat.le_of_ble_eq_true rfl) (fun x hx hz hTE hPX hE => ?_)
  have hk : 0 < 2 := by decide
  obtain ⟨hT, ⟨hn1, hn8⟩, ⟨hc0, hc6⟩, ⟨hl0, hl9⟩⟩ := id hS
  have hn0 : 0 ≤ T 0 0 := by omega
  refine V_lv (lv' := [(0, .ref (ad 0)), (1, .int (iZ (c)))]) rfl ?_
  refine V_aload_n hx dX2_drop_0 0 rfl ?_
  refine V_iload_n hx dX2_drop_1 1 rfl ?_
  refine V_callXv hx hz hPX (x_needClerk l hst (P := P) T hS (d := c) (by first | assumption | exact hT _ _ | exact ⟨by omega, by omega⟩)) cw_X2_59 ⟨Nat.le_of_ble_eq_true rfl, Nat.le_of_ble_eq_true rfl, Nat.le_of_ble_eq_true rfl, Nat.le_of_ble_eq_true rfl⟩ rfl 0 SW_tillx rfl rfl (Nat.le_of_ble_eq_true rfl) dX2_drop_2 1 6 rfl rfl (fun E he => he) (fun ws1 e1 => ?_)
  obtain ⟨v2, rfl⟩ := e1
  obtain ⟨u2, w2⟩ := id v2
  refine V_aload_n hx dX2_drop_5 0 rfl ?_
  refine gf_X2_10 hx 0 (SW_tillx) rfl dX2_drop_6 ?_
  refine gf_X2_72 hx (ix 0 0) (SW_shop hk) rfl dX2_drop_9 ?_
  refine V_iload_n hx dX2_drop_12 1 rfl ?_
  refine V_aald hx (by omega) (by omega) (by decide) (ix 0 3) (SW_refs hk) (r := ad (ix 0 (7 + 8 * c.toNat))) rfl dX2_drop_13 ?_
  refine V_astore_n hx dX2_drop_14 [(2, .ref (ad (ix 0 (7 + 8 * c.toNat)))), (0, .ref (ad 0)), (1, .int (iZ (c)))] (by decide) rfl ?_
  refine V_aload_n hx dX2_drop_15 0 rfl ?_
  refine gf_X2_82 hx (ix 0 (7 + 8 * c.toNat)) (SW_clk hk (isQ_c (by omega))) rfl dX2_drop_16 ?_
  refine V_istore_n hx dX2_drop_19 [(3, .int (iZ (T (7 + 8 * c.toNat) 1))), (2, .ref (ad (ix 0 (7 + 8 * c.toNat)))), (0, .ref (ad 0)), (1, .int (iZ (c)))] (by decide) rfl ?_
  refine V_aload_n hx dX2_drop_20 1 rfl ?_
  refine V_callNv hx (m_startOver l hk T (q := 7 + 8 * c.toNat) (isQ_c (by omega))) cw_X2_104 ⟨Nat.le_of_ble_eq_true rfl, Nat.le_of_ble_eq_true rfl, Nat.le_of_ble_eq_true rfl, Nat.le_of_ble_eq_true rfl⟩ rfl (ix 0 (7 + 8 * c.toNat)) (SW_clk hk (isQ_c (by omega))) rfl rfl (Nat.le_of_ble_eq_true rfl) dX2_drop_21 1 6 rfl rfl (fun ws2 e2 => ?_)
  subst e2
  refine V_iload_n hx dX2_drop_24 0 rfl ?_
  exact hE _ _ _ _ _ _ dX2_drop_25 rfl (Nat.le_of_ble_eq_true rfl) (Nat.le_of_ble_eq_true rfl) ⟨v2, rfl, rfl⟩
set_option maxHeartbeats 4000000 in
set_option maxRecDepth 100000 in
theorem x_pass (l : Launch) {g : GT} {ad : Nat → Nat} (hst : l.stackTraces = false) {P : Nat → TS} (T : TS) (hS : SHP T) {r : Int} (hr : rg r) (hG : 1 ≤ r → r ≤ 50 → ∀ j : Nat, (j : Int) < r → GRok (grs T j).1) : MXI l yX2_pass cX2_pass 2 .int (rmX 8 1) g [.ref (ad 0), .int (iZ (r))] (SW g ad P 0 T) (fun z ws9 => (1 ≤ r ∧ r ≤ 50) ∧ z = (grs T r.toNat).2 ∧ ws9 = SW g ad P 0 ((grs T r.toNat).1)) (fun E => E = eIA ∧ ¬ (1 ≤ r ∧ r ≤ 50)) := by
  refine MXI.of (own := RX2) (by decide) rfl rfl hst (Nat.le_of_ble_eq_true rfl) (fun x hx hz hTE hPX hE => ?_)
  have hk : 0 < 2 := by decide
  obtain ⟨hT, ⟨hn1, hn8⟩, ⟨hc0, hc6⟩, ⟨hl0, hl9⟩⟩ := id hS
  have hn0 : 0 ≤ T 0 0 := by omega
  refine V_lv (lv' := [(0, .ref (ad 0)), (1, .int (iZ (r)))]) rfl ?_
  refine V_iload_n hx dX2_pass_0 1 rfl ?_
  refine V_callXSv hx hz hPX (x_needRounds l hst (P := P) T hS (d := r) (by first | assumption | exact hT _ _ | exact ⟨by omega, by omega⟩)) cw_X2_107 ⟨Nat.le_of_ble_eq_true rfl, Nat.le_of_ble_eq_true rfl, Nat.le_of_ble_eq_true rfl, Nat.le_of_ble_eq_true rfl⟩ rfl rfl (Nat.le_of_ble_eq_true rfl) dX2_pass_1 1 6 rfl rfl (fun E he => he) (fun ws1 e1 => ?_)
  obtain ⟨v1, rfl⟩ := e1
  obtain ⟨u1, w1⟩ := id v1
  refine V_aload_n hx dX2_pass_4 0 rfl ?_
  refine gf_X2_10 hx 0 (SW_tillx) rfl dX2_pass_5 ?_
  refine V_iload_n hx dX2_pass_8 1 rfl ?_
  refine V_callNi hx (m_goRounds l hk T (r := r) (by omega) (by omega) (fun j hj => hG (by omega) (by omega) j hj)) cw_X2_110 ⟨Nat.le_of_ble_eq_true rfl, Nat.le_of_ble_eq_true rfl, Nat.le_of_ble_eq_true rfl, Nat.le_of_ble_eq_true rfl⟩ rfl (ix 0 0) (SW_shop hk) rfl rfl (Nat.le_of_ble_eq_true rfl) dX2_pass_9 1 6 rfl rfl (fun z2 ws2 e2 => ?_)
  obtain ⟨rfl, rfl⟩ := e2
  exact hE _ _ _ _ _ _ dX2_pass_12 rfl (Nat.le_of_ble_eq_true rfl) (Nat.le_of_ble_eq_true rfl) ⟨v1, rfl, rfl⟩
set_option maxHeartbeats 4000000 in
set_option maxRecDepth 100000 in
theorem x_drawer (l : Launch) {g : GT} {ad : Nat → Nat} (hst : l.stackTraces = false) {P : Nat → TS} (T : TS) (hS : SHP T) {d : Int} (hd : rg d) {what : Int} (hwh : rg what) : MXI l yX2_drawer cX2_drawer 3 .int (rmX 8 2) g [.ref (ad 0), .int (iZ (d)), .int (iZ (what))] (SW g ad P 0 T) (fun z ws9 => ((0 ≤ d ∧ d < T 0 0) ∧ (0 ≤ what ∧ what ≤ 3)) ∧ z = drV T d what ∧ ws9 = SW g ad P 0 T) (fun E => E = eIO ∧ ¬ ((0 ≤ d ∧ d < T 0 0) ∧ (0 ≤ what ∧ what ≤ 3))) := by
  refine MXI.of (own := RX2) (by decide) rfl rfl hst (Nat.le_of_ble_eq_true rfl) (fun x hx hz hTE hPX hE => ?_)
  have hk : 0 < 2 := by decide
  obtain ⟨hT, ⟨hn1, hn8⟩, ⟨hc0, hc6⟩, ⟨hl0, hl9⟩⟩ := id hS
  have hn0 : 0 ≤ T 0 0 := by omega
  refine V_lv (lv' := [(0, .ref (ad 0)), (1, .int (iZ (d))), (2, .int (iZ (what)))]) rfl ?_
  refine V_aload_n hx dX2_drawer_0 0 rfl ?_
  refine V_iload_n hx dX2_drawer_1 1 rfl ?_
  refine V_callXv hx hz hPX (x_needDrawer l hst (P := P) T hS (d := d) (by first | assumption | exact hT _ _ | exact ⟨by omega, by omega⟩)) cw_X2_34 ⟨Nat.le_of_ble_eq_true rfl, Nat.le_of_ble_eq_true rfl, Nat.le_of_ble_eq_true rfl, Nat.le_of_ble_eq_true rfl⟩ rfl 0 SW_tillx rfl rfl (Nat.le_of_ble_eq_true rfl) dX2_drawer_2 1 6 rfl rfl (fun E he => ⟨he.1, by omega⟩) (fun ws1 e1 => ?_)
  obtain ⟨v2, rfl⟩ := e1
  obtain ⟨u2, w2⟩ := id v2
  refine V_iload_n hx dX2_drawer_5 2 rfl ?_
  refine V_iconst hx dX2_drawer_6 ?_
  refine V_iconst hx dX2_drawer_7 ?_
  refine V_callXSv hx hz hPX (x_needWhat l hst (P := P) T hS (d := what) (lo := 0) (hi := 3) (by first | assumption | exact hT _ _ | exact ⟨by omega, by omega⟩) ⟨by decide, by decide⟩ ⟨by decide, by decide⟩) cw_X2_62 ⟨Nat.le_of_ble_eq_true rfl, Nat.le_of_ble_eq_true rfl, Nat.le_of_ble_eq_true rfl, Nat.le_of_ble_eq_true rfl⟩ rfl rfl (Nat.le_of_ble_eq_true rfl) dX2_drawer_8 2 12 rfl rfl (fun E he => ⟨he.1, by omega⟩) (fun ws2 e2 => ?_)
  obtain ⟨v8, rfl⟩ := e2
  obtain ⟨u8, w8⟩ := id v8
  refine V_aload_n hx dX2_drawer_11 0 rfl ?_
  refine gf_X2_10 hx 0 (SW_tillx) rfl dX2_drawer_12 ?_
  refine V_iload_n hx dX2_drawer_15 1 rfl ?_
  refine V_iload_n hx dX2_drawer_16 2 rfl ?_
  refine V_callNi hx (m_drawerFact l hk T hT (by omega) (by omega) (d := d) (by omega) (by omega) (what := what) (by omega) (by omega)) cw_X2_113 ⟨Nat.le_of_ble_eq_true rfl, Nat.le_of_ble_eq_true rfl, Nat.le_of_ble_eq_true rfl, Nat.le_of_ble_eq_true rfl⟩ rfl (ix 0 0) (SW_shop hk) rfl rfl (Nat.le_of_ble_eq_true rfl) dX2_drawer_17 2 12 rfl rfl (fun z3 ws3 e3 => ?_)
  obtain ⟨rfl, rfl⟩ := e3
  exact hE _ _ _ _ _ _ dX2_drawer_20 rfl (Nat.le_of_ble_eq_true rfl) (Nat.le_of_ble_eq_true rfl) ⟨⟨v2, v8⟩, rfl, rfl⟩
set_option maxHeartbeats 4000000 in
set_option maxRecDepth 100000 in
theorem x_told (l : Launch) {g : GT} {ad : Nat → Nat} (hst : l.stackTraces = false) {P : Nat → TS} (T : TS) (hS : SHP T) {c : Int} (hc : rg c) {what : Int} (hwh : rg what) : MXI l yX2_told cX2_told 3 .int (rmX 8 2) g [.ref (ad 0), .int (iZ (c)), .int (iZ (what))] (SW g ad P 0 T) (fun z ws9 => ((0 ≤ c ∧ c < T 0 1) ∧ (0 ≤ what ∧ what ≤ 6)) ∧ z = ckV T c what ∧ ws9 = SW g ad P 0 T) (fun E => E = eIO ∧ ¬ ((0 ≤ c ∧ c < T 0 1) ∧ (0 ≤ what ∧ what ≤ 6))) := by
  refine MXI.of (own := RX2) (by decide) rfl rfl hst (Nat.le_of_ble_eq_true rfl) (fun x hx hz hTE hPX hE => ?_)
  have hk : 0 < 2 := by decide
  obtain ⟨hT, ⟨hn1, hn8⟩, ⟨hc0, hc6⟩, ⟨hl0, hl9⟩⟩ := id hS
  have hn0 : 0 ≤ T 0 0 := by omega
  refine V_lv (lv' := [(0, .ref (ad 0)), (1, .int (iZ (c))), (2, .int (iZ (what)))]) rfl ?_
  refine V_aload_n hx dX2_told_0 0 rfl ?_
  refine V_iload_n hx dX2_told_1 1 rfl ?_
  refine V_callXv hx hz hPX (x_needClerk l hst (P := P) T hS (d := c) (by first | assumption | exact hT _ _ | exact ⟨by omega, by omega⟩)) cw_X2_59 ⟨Nat.le_of_ble_eq_true rfl, Nat.le_of_ble_eq_true rfl, Nat.le_of_ble_eq_true rfl, Nat.le_of_ble_eq_true rfl⟩ rfl 0 SW_tillx rfl rfl (Nat.le_of_ble_eq_true rfl) dX2_told_2 1 6 rfl rfl (fun E he => ⟨he.1, by omega⟩) (fun ws1 e1 => ?_)
  obtain ⟨v2, rfl⟩ := e1
  obtain ⟨u2, w2⟩ := id v2
  refine V_iload_n hx dX2_told_5 2 rfl ?_
  refine V_iconst hx dX2_told_6 ?_
  refine V_bipush hx dX2_told_7 rfl ?_
  refine V_callXSv hx hz hPX (x_needWhat l hst (P := P) T hS (d := what) (lo := 0) (hi := 6) (by first | assumption | exact hT _ _ | exact ⟨by omega, by omega⟩) ⟨by decide, by decide⟩ ⟨by decide, by decide⟩) cw_X2_62 ⟨Nat.le_of_ble_eq_true rfl, Nat.le_of_ble_eq_true rfl, Nat.le_of_ble_eq_true rfl, Nat.le_of_ble_eq_true rfl⟩ rfl rfl (Nat.le_of_ble_eq_true rfl) dX2_told_9 2 12 rfl rfl (fun E he => ⟨he.1, by omega⟩) (fun ws2 e2 => ?_)
  obtain ⟨v9, rfl⟩ := e2
  obtain ⟨u9, w9⟩ := id v9
  refine V_aload_n hx dX2_told_12 0 rfl ?_
  refine gf_X2_10 hx 0 (SW_tillx) rfl dX2_told_13 ?_
  refine V_iload_n hx dX2_told_16 1 rfl ?_
  refine V_iload_n hx dX2_told_17 2 rfl ?_
  refine V_callNi hx (m_clerkFact l hk T hT (by omega) (by omega) (c := c) (by omega) (by omega) (what := what) (by omega) (by omega)) cw_X2_117 ⟨Nat.le_of_ble_eq_true rfl, Nat.le_of_ble_eq_true rfl, Nat.le_of_ble_eq_true rfl, Nat.le_of_ble_eq_true rfl⟩ rfl (ix 0 0) (SW_shop hk) rfl rfl (Nat.le_of_ble_eq_true rfl) dX2_told_18 2 12 rfl rfl (fun z3 ws3 e3 => ?_)
  obtain ⟨rfl, rfl⟩ := e3
  exact hE _ _ _ _ _ _ dX2_told_21 rfl (Nat.le_of_ble_eq_true rfl) (Nat.le_of_ble_eq_true rfl) ⟨⟨v2, v9⟩, rfl, rfl⟩
set_option maxHeartbeats 4000000 in
set_option maxRecDepth 100000 in
theorem x_slip (l : Launch) {g : GT} {ad : Nat → Nat} (hst : l.stackTraces = false) {P : Nat → TS} (T : TS) (hS : SHP T) {c d : Int} (hc : rg c) (hd : rg d) {what : Int} (hwh : rg what) : MXI l yX2_slip cX2_slip 4 .int (rmX 8 3) g [.ref (ad 0), .int (iZ (c)), .int (iZ (d)), .int (iZ (what))] (SW g ad P 0 T) (fun z ws9 => ((0 ≤ c ∧ c < T 0 1) ∧ (0 ≤ d ∧ d < T 0 0) ∧ (0 ≤ what ∧ what ≤ 2)) ∧ z = slV T (7 + 8 * c.toNat) d what ∧ ws9 = SW g ad P 0 T) (fun E => E = eIO ∧ ¬ ((0 ≤ c ∧ c < T 0 1) ∧ (0 ≤ d ∧ d < T 0 0) ∧ (0 ≤ what ∧ what ≤ 2))) := by
  refine MXI.of (own := RX2) (by decide) rfl rfl hst (Nat.le_of_ble_eq_true rfl) (fun x hx hz hTE hPX hE => ?_)
  have hk : 0 < 2 := by decide
  obtain ⟨hT, ⟨hn1, hn8⟩, ⟨hc0, hc6⟩, ⟨hl0, hl9⟩⟩ := id hS
  have hn0 : 0 ≤ T 0 0 := by omega
  refine V_lv (lv' := [(0, .ref (ad 0)), (1, .int (iZ (c))), (2, .int (iZ (d))), (3, .int (iZ (what)))]) rfl ?_
  refine V_aload_n hx dX2_slip_0 0 rfl ?_
  refine V_iload_n hx dX2_slip_1 1 rfl ?_
  refine V_callXv hx hz hPX (x_needClerk l hst (P := P) T hS (d := c) (by first | assumption | exact hT _ _ | exact ⟨by omega, by omega⟩)) cw_X2_59 ⟨Nat.le_of_ble_eq_true rfl, Nat.le_of_ble_eq_true rfl, Nat.le_of_ble_eq_true rfl, Nat.le_of_ble_eq_true rfl⟩ rfl 0 SW_tillx rfl rfl (Nat.le_of_ble_eq_true rfl) dX2_slip_2 1 6 rfl rfl (fun E he => ⟨he.1, by omega⟩) (fun ws1 e1 => ?_)
  obtain ⟨v2, rfl⟩ := e1
  obtain ⟨u2, w2⟩ := id v2
  refine V_aload_n hx dX2_slip_5 0 rfl ?_
  refine V_iload_n hx dX2_slip_6 2 rfl ?_
  refine V_callXv hx hz hPX (x_needDrawer l hst (P := P) T hS (d := d) (by first | assumption | exact hT _ _ | exact ⟨by omega, by omega⟩)) cw_X2_34 ⟨Nat.le_of_ble_eq_true rfl, Nat.le_of_ble_eq_true rfl, Nat.le_of_ble_eq_true rfl, Nat.le_of_ble_eq_true rfl⟩ rfl 0 SW_tillx rfl rfl (Nat.le_of_ble_eq_true rfl) dX2_slip_7 2 12 rfl rfl (fun E he => ⟨he.1, by omega⟩) (fun ws2 e2 => ?_)
  obtain ⟨v7, rfl⟩ := e2
  obtain ⟨u7, w7⟩ := id v7
  refine V_iload_n hx dX2_slip_10 3 rfl ?_
  refine V_iconst hx dX2_slip_11 ?_
  refine V_iconst hx dX2_slip_12 ?_
  refine V_callXSv hx hz hPX (x_needWhat l hst (P := P) T hS (d := what) (lo := 0) (hi := 2) (by first | assumption | exact hT _ _ | exact ⟨by omega, by omega⟩) ⟨by decide, by decide⟩ ⟨by decide, by decide⟩) cw_X2_62 ⟨Nat.le_of_ble_eq_true rfl, Nat.le_of_ble_eq_true rfl, Nat.le_of_ble_eq_true rfl, Nat.le_of_ble_eq_true rfl⟩ rfl rfl (Nat.le_of_ble_eq_true rfl) dX2_slip_13 3 18 rfl rfl (fun E he => ⟨he.1, by omega⟩) (fun ws3 e3 => ?_)
  obtain ⟨v13, rfl⟩ := e3
  obtain ⟨u13, w13⟩ := id v13
  refine V_aload_n hx dX2_slip_16 0 rfl ?_
  refine gf_X2_10 hx 0 (SW_tillx) rfl dX2_slip_17 ?_
  refine gf_X2_72 hx (ix 0 0) (SW_shop hk) rfl dX2_slip_20 ?_
  refine V_iload_n hx dX2_slip_23 1 rfl ?_
  refine V_aald hx (by omega) (by omega) (by decide) (ix 0 3) (SW_refs hk) (r := ad (ix 0 (7 + 8 * c.toNat))) rfl dX2_slip_24 ?_
  refine V_iload_n hx dX2_slip_25 2 rfl ?_
  refine V_iload_n hx dX2_slip_26 3 rfl ?_
  refine V_callNi hx (m_slipFact l hk T hT (q := 7 + 8 * c.toNat) (isQ_c (by omega)) (d := d) (by omega) (by omega) (what := what) (by omega) (by omega)) cw_X2_120 ⟨Nat.le_of_ble_eq_true rfl, Nat.le_of_ble_eq_true rfl, Nat.le_of_ble_eq_true rfl, Nat.le_of_ble_eq_true rfl⟩ rfl (ix 0 (7 + 8 * c.toNat)) (SW_clk hk (isQ_c (by omega))) rfl rfl (Nat.le_of_ble_eq_true rfl) dX2_slip_27 3 18 rfl rfl (fun z4 ws4 e4 => ?_)
  obtain ⟨rfl, rfl⟩ := e4
  exact hE _ _ _ _ _ _ dX2_slip_30 rfl (Nat.le_of_ble_eq_true rfl) (Nat.le_of_ble_eq_true rfl) ⟨⟨v2, v7, v13⟩, rfl, rfl⟩
set_option maxHeartbeats 4000000 in
set_option maxRecDepth 100000 in
theorem x_step (l : Launch) {g : GT} {ad : Nat → Nat} (hst : l.stackTraces = false) {P : Nat → TS} (T : TS) (hS : SHP T) {c d : Int} (hc : rg c) (hd : rg d) {what : Int} (hwh : rg what) (hw : 0 ≤ c → c < T 0 1 → T (7 + 8 * c.toNat) 0 ≤ 8) : MXI l yX2_step cX2_step 5 .int (rmX 8 3) g [.ref (ad 0), .int (iZ (c)), .int (iZ (d)), .int (iZ (what))] (SW g ad P 0 T) (fun z ws9 => ((0 ≤ c ∧ c < T 0 1) ∧ (0 ≤ d ∧ d < T (7 + 8 * c.toNat) 0) ∧ (0 ≤ what ∧ what ≤ 3)) ∧ z = stV T (7 + 8 * c.toNat) d what ∧ ws9 = SW g ad P 0 T) (fun E => E = eIO ∧ ¬ ((0 ≤ c ∧ c < T 0 1) ∧ (0 ≤ d ∧ d < T (7 + 8 * c.toNat) 0) ∧ (0 ≤ what ∧ what ≤ 3))) := by
  refine MXI.of (own := RX2) (by decide) rfl rfl hst (Nat.le_of_ble_eq_true rfl) (fun x hx hz hTE hPX hE => ?_)
  have hk : 0 < 2 := by decide
  obtain ⟨hT, ⟨hn1, hn8⟩, ⟨hc0, hc6⟩, ⟨hl0, hl9⟩⟩ := id hS
  have hn0 : 0 ≤ T 0 0 := by omega
  refine V_lv (lv' := [(0, .ref (ad 0)), (1, .int (iZ (c))), (2, .int (iZ (d))), (3, .int (iZ (what)))]) rfl ?_
  refine V_aload_n hx dX2_step_0 0 rfl ?_
  refine V_iload_n hx dX2_step_1 1 rfl ?_
  refine V_callXv hx hz hPX (x_needClerk l hst (P := P) T hS (d := c) (by first | assumption | exact hT _ _ | exact ⟨by omega, by omega⟩)) cw_X2_59 ⟨Nat.le_of_ble_eq_true rfl, Nat.le_of_ble_eq_true rfl, Nat.le_of_ble_eq_true rfl, Nat.le_of_ble_eq_true rfl⟩ rfl 0 SW_tillx rfl rfl (Nat.le_of_ble_eq_true rfl) dX2_step_2 1 6 rfl rfl (fun E he => ⟨he.1, by omega⟩) (fun ws1 e1 => ?_)
  obtain ⟨v2, rfl⟩ := e1
  obtain ⟨u2, w2⟩ := id v2
  have hw1 := hw (by omega) (by omega)
  refine V_aload_n hx dX2_step_5 0 rfl ?_
  refine gf_X2_10 hx 0 (SW_tillx) rfl dX2_step_6 ?_
  refine gf_X2_72 hx (ix 0 0) (SW_shop hk) rfl dX2_step_9 ?_
  refine V_iload_n hx dX2_step_12 1 rfl ?_
  refine V_aald hx (by omega) (by omega) (by decide) (ix 0 3) (SW_refs hk) (r := ad (ix 0 (7 + 8 * c.toNat))) rfl dX2_step_13 ?_
  refine V_astore hx dX2_step_14 [(4, .ref (ad (ix 0 (7 + 8 * c.toNat)))), (0, .ref (ad 0)), (1, .int (iZ (c))), (2, .int (iZ (d))), (3, .int (iZ (what)))] (by decide) rfl ?_
  refine V_iload_n hx dX2_step_16 3 rfl ?_
  refine V_if_lt hx dX2_step_17 29 (by decide) (by first | assumption | exact hT _ _ | exact ⟨by omega, by omega⟩) (fun h17 => ?_) (fun h17 => ?_)
  · exact hTE _ _ _ _ _ _ _ _ _ _ (kt_IOOBE (is := 125) (text := "no such step") (List.mem_of_getElem? (i := 6) rfl)) dX2_step_29 dX2_step_32 dX2_step_33 dX2_step_35 dX2_step_38 (by decide) (Nat.le_of_ble_eq_true rfl) (Nat.le_of_ble_eq_true rfl) (Nat.le_of_ble_eq_true rfl) ⟨rfl, by omega⟩
  · refine V_iload_n hx dX2_step_20 3 rfl ?_
    refine V_aload hx dX2_step_21 0 rfl ?_
    refine gf_X2_85 hx (ix 0 (7 + 8 * c.toNat)) (SW_clk hk (isQ_c (by omega))) rfl dX2_step_23 ?_
    refine V_icmp_lt hx dX2_step_26 39 (by decide) (by first | assumption | exact hT _ _ | exact ⟨by omega, by omega⟩) (by first | assumption | exact hT _ _ | exact ⟨by omega, by omega⟩) (fun h26 => ?_) (fun h26 => ?_)
    · refine V_iload_n hx dX2_step_39 4 rfl ?_
      refine V_iconst hx dX2_step_40 ?_
      refine V_iconst hx dX2_step_41 ?_
      refine V_callXSv hx hz hPX (x_needWhat l hst (P := P) T hS (d := what) (lo := 0) (hi := 3) (by first | assumption | exact hT _ _ | exact ⟨by omega, by omega⟩) ⟨by decide, by decide⟩ ⟨by decide, by decide⟩) cw_X2_62 ⟨Nat.le_of_ble_eq_true rfl, Nat.le_of_ble_eq_true rfl, Nat.le_of_ble_eq_true rfl, Nat.le_of_ble_eq_true rfl⟩ rfl rfl (Nat.le_of_ble_eq_true rfl) dX2_step_42 2 12 rfl rfl (fun E he => ⟨he.1, by omega⟩) (fun ws2 e2 => ?_)
      obtain ⟨v42, rfl⟩ := e2
      obtain ⟨u42, w42⟩ := id v42
      refine V_aload hx dX2_step_45 0 rfl ?_
      refine V_iload_n hx dX2_step_47 3 rfl ?_
      refine V_iload_n hx dX2_step_48 4 rfl ?_
      refine V_callNi hx (m_stepFact l hk T hT (q := 7 + 8 * c.toNat) (isQ_c (by omega)) (d := d) (by omega) (by omega) (what := what) (by omega) (by omega)) cw_X2_128 ⟨Nat.le_of_ble_eq_true rfl, Nat.le_of_ble_eq_true rfl, Nat.le_of_ble_eq_true rfl, Nat.le_of_ble_eq_true rfl⟩ rfl (ix 0 (7 + 8 * c.toNat)) (SW_clk hk (isQ_c (by omega))) rfl rfl (Nat.le_of_ble_eq_true rfl) dX2_step_49 2 12 rfl rfl (fun z3 ws3 e3 => ?_)
      obtain ⟨rfl, rfl⟩ := e3
      exact hE _ _ _ _ _ _ dX2_step_52 rfl (Nat.le_of_ble_eq_true rfl) (Nat.le_of_ble_eq_true rfl) ⟨⟨v2, ⟨by omega, by omega⟩, v42⟩, rfl, rfl⟩
    · exact hTE _ _ _ _ _ _ _ _ _ _ (kt_IOOBE (is := 125) (text := "no such step") (List.mem_of_getElem? (i := 6) rfl)) dX2_step_29 dX2_step_32 dX2_step_33 dX2_step_35 dX2_step_38 (by decide) (Nat.le_of_ble_eq_true rfl) (Nat.le_of_ble_eq_true rfl) (Nat.le_of_ble_eq_true rfl) ⟨rfl, by omega⟩
theorem kpV_b {T : TS} (h : 0 ≤ T 0 2) : 0 ≤ kpV T ∧ kpV T ≤ 10 := by unfold kpV; split <;> omega
set_option maxHeartbeats 4000000 in
set_option maxRecDepth 100000 in
theorem x_closing (l : Launch) {g : GT} {ad : Nat → Nat} (hst : l.stackTraces = false) {P : Nat → TS} (T : TS) (hS : SHP T) {d : Int} (hd : rg d) {what : Int} (hwh : rg what) : MXI l yX2_closing cX2_closing 3 .int (rmX 8 2) g [.ref (ad 0), .int (iZ (d)), .int (iZ (what))] (SW g ad P 0 T) (fun z ws9 => ((0 ≤ d ∧ d < kpV T) ∧ (0 ≤ what ∧ what ≤ 2)) ∧ z = cfV T d what ∧ ws9 = SW g ad P 0 T) (fun E => E = eIO ∧ ¬ ((0 ≤ d ∧ d < kpV T) ∧ (0 ≤ what ∧ what ≤ 2))) := by
  refine MXI.of (own := RX2) (by decide) rfl rfl hst (Nat.le_of_ble_eq_true rfl) (fun x hx hz hTE hPX hE => ?_)
  have hk : 0 < 2 := by decide
  obtain ⟨hT, ⟨hn1, hn8⟩, ⟨hc0, hc6⟩, ⟨hl0, hl9⟩⟩ := id hS
  have hn0 : 0 ≤ T 0 0 := by omega
  have hkp := kpV_b hl0
  refine V_lv (lv' := [(0, .ref (ad 0)), (1, .int (iZ (d))), (2, .int (iZ (what)))]) rfl ?_
  refine V_iload_n hx dX2_closing_0 1 rfl ?_
  refine V_if_lt hx dX2_closing_1 15 (by decide) (by first | assumption | exact hT _ _ | exact ⟨by omega, by omega⟩) (fun h1 => ?_) (fun h1 => ?_)
  · exact hTE _ _ _ _ _ _ _ _ _ _ (kt_IOOBE (is := 134) (text := "no such closing") (List.mem_of_getElem? (i := 4) rfl)) dX2_closing_15 dX2_closing_18 dX2_closing_19 dX2_closing_21 dX2_closing_24 (by decide) (Nat.le_of_ble_eq_true rfl) (Nat.le_of_ble_eq_true rfl) (Nat.le_of_ble_eq_true rfl) ⟨rfl, by omega⟩
  · refine V_iload_n hx dX2_closing_4 1 rfl ?_
    refine V_aload_n hx dX2_closing_5 0 rfl ?_
    refine gf_X2_10 hx 0 (SW_tillx) rfl dX2_closing_6 ?_
    refine V_callNi hx (m_kept l hk T hT) cw_X2_131 ⟨Nat.le_of_ble_eq_true rfl, Nat.le_of_ble_eq_true rfl, Nat.le_of_ble_eq_true rfl, Nat.le_of_ble_eq_true rfl⟩ rfl (ix 0 0) (SW_shop hk) rfl rfl (Nat.le_of_ble_eq_true rfl) dX2_closing_9 0 0 rfl rfl (fun z1 ws1 e1 => ?_)
    obtain ⟨rfl, rfl⟩ := e1
    refine V_icmp_lt hx dX2_closing_12 25 (by decide) (by first | assumption | exact hT _ _ | exact ⟨by omega, by omega⟩) (by first | assumption | exact hT _ _ | exact ⟨by omega, by omega⟩) (fun h12 => ?_) (fun h12 => ?_)
    · refine V_iload_n hx dX2_closing_25 2 rfl ?_
      refine V_iconst hx dX2_closing_26 ?_
      refine V_iconst hx dX2_closing_27 ?_
      refine V_callXSv hx hz hPX (x_needWhat l hst (P := P) T hS (d := what) (lo := 0) (hi := 2) (by first | assumption | exact hT _ _ | exact ⟨by omega, by omega⟩) ⟨by decide, by decide⟩ ⟨by decide, by decide⟩) cw_X2_62 ⟨Nat.le_of_ble_eq_true rfl, Nat.le_of_ble_eq_true rfl, Nat.le_of_ble_eq_true rfl, Nat.le_of_ble_eq_true rfl⟩ rfl rfl (Nat.le_of_ble_eq_true rfl) dX2_closing_28 1 6 rfl rfl (fun E he => ⟨he.1, by omega⟩) (fun ws2 e2 => ?_)
      obtain ⟨v28, rfl⟩ := e2
      obtain ⟨u28, w28⟩ := id v28
      refine V_aload_n hx dX2_closing_31 0 rfl ?_
      refine gf_X2_10 hx 0 (SW_tillx) rfl dX2_closing_32 ?_
      refine V_iload_n hx dX2_closing_35 1 rfl ?_
      refine V_iload_n hx dX2_closing_36 2 rfl ?_
      refine V_callNi hx (m_closingFact l hk T hT (b := d) (by omega) (by omega) (what := what) (by omega) (by omega)) cw_X2_136 ⟨Nat.le_of_ble_eq_true rfl, Nat.le_of_ble_eq_true rfl, Nat.le_of_ble_eq_true rfl, Nat.le_of_ble_eq_true rfl⟩ rfl (ix 0 0) (SW_shop hk) rfl rfl (Nat.le_of_ble_eq_true rfl) dX2_closing_37 1 6 rfl rfl (fun z3 ws3 e3 => ?_)
      obtain ⟨rfl, rfl⟩ := e3
      exact hE _ _ _ _ _ _ dX2_closing_40 rfl (Nat.le_of_ble_eq_true rfl) (Nat.le_of_ble_eq_true rfl) ⟨⟨⟨by omega, by omega⟩, v28⟩, rfl, rfl⟩
    · exact hTE _ _ _ _ _ _ _ _ _ _ (kt_IOOBE (is := 134) (text := "no such closing") (List.mem_of_getElem? (i := 4) rfl)) dX2_closing_15 dX2_closing_18 dX2_closing_19 dX2_closing_21 dX2_closing_24 (by decide) (Nat.le_of_ble_eq_true rfl) (Nat.le_of_ble_eq_true rfl) (Nat.le_of_ble_eq_true rfl) ⟨rfl, by omega⟩
set_option maxHeartbeats 4000000 in
set_option maxRecDepth 100000 in
theorem x_clash (l : Launch) {g : GT} {ad : Nat → Nat} (hst : l.stackTraces = false) {P : Nat → TS} (T : TS) (hS : SHP T) {c d : Int} (hc : rg c) (hd : rg d) : MXI l yX2_clash cX2_clash 3 .boolean (rmX 8 2) g [.ref (ad 0), .int (iZ (c)), .int (iZ (d))] (SW g ad P 0 T) (fun z ws9 => ((0 ≤ c ∧ c < T 0 1) ∧ (0 ≤ d ∧ d < T 0 1)) ∧ z = bz (clP T c.toNat d.toNat) ∧ ws9 = SW g ad P 0 T) (fun E => E = eIO ∧ ¬ ((0 ≤ c ∧ c < T 0 1) ∧ (0 ≤ d ∧ d < T 0 1))) := by
  refine MXI.of (own := RX2) (by decide) rfl rfl hst (Nat.le_of_ble_eq_true rfl) (fun x hx hz hTE hPX hE => ?_)
  have hk : 0 < 2 := by decide
  obtain ⟨hT, ⟨hn1, hn8⟩, ⟨hc0, hc6⟩, ⟨hl0, hl9⟩⟩ := id hS
  have hn0 : 0 ≤ T 0 0 := by omega
  refine V_lv (lv' := [(0, .ref (ad 0)), (1, .int (iZ (c))), (2, .int (iZ (d)))]) rfl ?_
  refine V_aload_n hx dX2_clash_0 0 rfl ?_
  refine V_iload_n hx dX2_clash_1 1 rfl ?_
  refine V_callXv hx hz hPX (x_needClerk l hst (P := P) T hS (d := c) (by first | assumption | exact hT _ _ | exact ⟨by omega, by omega⟩)) cw_X2_59 ⟨Nat.le_of_ble_eq_true rfl, Nat.le_of_ble_eq_true rfl, Nat.le_of_ble_eq_true rfl, Nat.le_of_ble_eq_true rfl⟩ rfl 0 SW_tillx rfl rfl (Nat.le_of_ble_eq_true rfl) dX2_clash_2 1 6 rfl rfl (fun E he => ⟨he.1, by omega⟩) (fun ws1 e1 => ?_)
  obtain ⟨v2, rfl⟩ := e1
  obtain ⟨u2, w2⟩ := id v2
  refine V_aload_n hx dX2_clash_5 0 rfl ?_
  refine V_iload_n hx dX2_clash_6 2 rfl ?_
  refine V_callXv hx hz hPX (x_needClerk l hst (P := P) T hS (d := d) (by first | assumption | exact hT _ _ | exact ⟨by omega, by omega⟩)) cw_X2_59 ⟨Nat.le_of_ble_eq_true rfl, Nat.le_of_ble_eq_true rfl, Nat.le_of_ble_eq_true rfl, Nat.le_of_ble_eq_true rfl⟩ rfl 0 SW_tillx rfl rfl (Nat.le_of_ble_eq_true rfl) dX2_clash_7 2 12 rfl rfl (fun E he => ⟨he.1, by omega⟩) (fun ws2 e2 => ?_)
  obtain ⟨v7, rfl⟩ := e2
  obtain ⟨u7, w7⟩ := id v7
  refine V_aload_n hx dX2_clash_10 0 rfl ?_
  refine gf_X2_10 hx 0 (SW_tillx) rfl dX2_clash_11 ?_
  refine V_iload_n hx dX2_clash_14 1 rfl ?_
  refine V_iload_n hx dX2_clash_15 2 rfl ?_
  refine V_callNi hx (m_clashes l hk T hT (by omega) (by omega) (a := c) (b := d) (by omega) (by omega) (by omega) (by omega)) cw_X2_139 ⟨Nat.le_of_ble_eq_true rfl, Nat.le_of_ble_eq_true rfl, Nat.le_of_ble_eq_true rfl, Nat.le_of_ble_eq_true rfl⟩ rfl (ix 0 0) (SW_shop hk) rfl rfl (Nat.le_of_ble_eq_true rfl) dX2_clash_16 2 12 rfl rfl (fun z3 ws3 e3 => ?_)
  obtain ⟨rfl, rfl⟩ := e3
  exact hE _ _ _ _ _ _ dX2_clash_19 (bz_nz _) (Nat.le_of_ble_eq_true rfl) (Nat.le_of_ble_eq_true rfl) ⟨⟨v2, v7⟩, rfl, rfl⟩
set_option maxHeartbeats 4000000 in
set_option maxRecDepth 100000 in
theorem x_count (l : Launch) {g : GT} {ad : Nat → Nat} (hst : l.stackTraces = false) {P : Nat → TS} (T : TS) (hS : SHP T) {what : Int} (hwh : rg what) : MXI l yX2_count cX2_count 2 .int (rmX 8 1) g [.ref (ad 0), .int (iZ (what))] (SW g ad P 0 T) (fun z ws9 => (0 ≤ what ∧ what ≤ 6) ∧ z = cnV T what ∧ ws9 = SW g ad P 0 T) (fun E => E = eIO ∧ ¬ (0 ≤ what ∧ what ≤ 6)) := by
  refine MXI.of (own := RX2) (by decide) rfl rfl hst (Nat.le_of_ble_eq_true rfl) (fun x hx hz hTE hPX hE => ?_)
  have hk : 0 < 2 := by decide
  obtain ⟨hT, ⟨hn1, hn8⟩, ⟨hc0, hc6⟩, ⟨hl0, hl9⟩⟩ := id hS
  have hn0 : 0 ≤ T 0 0 := by omega
  refine V_lv (lv' := [(0, .ref (ad 0)), (1, .int (iZ (what)))]) rfl ?_
  refine V_iload_n hx dX2_count_0 1 rfl ?_
  refine V_iconst hx dX2_count_1 ?_
  refine V_bipush hx dX2_count_2 rfl ?_
  refine V_callXSv hx hz hPX (x_needWhat l hst (P := P) T hS (d := what) (lo := 0) (hi := 6) (by first | assumption | exact hT _ _ | exact ⟨by omega, by omega⟩) ⟨by decide, by decide⟩ ⟨by decide, by decide⟩) cw_X2_62 ⟨Nat.le_of_ble_eq_true rfl, Nat.le_of_ble_eq_true rfl, Nat.le_of_ble_eq_true rfl, Nat.le_of_ble_eq_true rfl⟩ rfl rfl (Nat.le_of_ble_eq_true rfl) dX2_count_4 1 6 rfl rfl (fun E he => he) (fun ws1 e1 => ?_)
  obtain ⟨v4, rfl⟩ := e1
  obtain ⟨u4, w4⟩ := id v4
  refine V_aload_n hx dX2_count_7 0 rfl ?_
  refine gf_X2_10 hx 0 (SW_tillx) rfl dX2_count_8 ?_
  refine V_iload_n hx dX2_count_11 1 rfl ?_
  refine V_callNi hx (m_countFact l hk T hT (by omega) (by omega) (by omega) (by omega) (what := what) (by omega) (by omega)) cw_X2_143 ⟨Nat.le_of_ble_eq_true rfl, Nat.le_of_ble_eq_true rfl, Nat.le_of_ble_eq_true rfl, Nat.le_of_ble_eq_true rfl⟩ rfl (ix 0 0) (SW_shop hk) rfl rfl (Nat.le_of_ble_eq_true rfl) dX2_count_12 1 6 rfl rfl (fun z2 ws2 e2 => ?_)
  obtain ⟨rfl, rfl⟩ := e2
  exact hE _ _ _ _ _ _ dX2_count_15 rfl (Nat.le_of_ble_eq_true rfl) (Nat.le_of_ble_eq_true rfl) ⟨v4, rfl, rfl⟩
theorem rg_bcT {T T0 : TS} (h : RG T) (h0 : RG T0) {q s d : Nat} : RG (bcT T T0 q s d) := by
  intro a b
  unfold bcT
  (repeat' split) <;> first | exact h0 _ _ | exact h _ _
theorem rg_bsC {T T0 : TS} (h : RG T) (h0 : RG T0) : ∀ n : Nat, RG (bsC T T0 n)
  | 0 => h
  | n + 1 => rg_bcT (rg_bsC h h0 n) h0
theorem rg_be {T T0 : TS} (h : RG T) (h0 : RG T0) : RG (beT T T0) := by
  have h1 : RG (bs1 (bs0 T T0) T0 8) := by
    intro a b
    unfold bs1
    split
    · exact h0 _ _
    · exact rg_pt (rg_pt (rg_pt h (h0 _ _)) (h0 _ _)) (h0 _ _) _ _
  intro a b
  unfold beT bs3
  split
  · exact h0 _ _
  · exact rg_bsC h1 h0 _ _ _
set_option maxHeartbeats 4000000 in
set_option maxRecDepth 100000 in
theorem x_alone (l : Launch) {g : GT} {ad : Nat → Nat} (hst : l.stackTraces = false) {P : Nat → TS} (T : TS) (hS : SHP T) {c d : Int} (hc : rg c) (hd : rg d) (hP1 : RG (P 1)) (hdn : ∀ c : Nat, (c : Int) < T 0 1 → T (7 + 8 * c) 2 = 0 ∨ T (7 + 8 * c) 2 = 1) (hA9 : 0 ≤ c → c < T 0 1 → ∀ T1 : TS, RG T1 → ∀ t : Nat, t ≤ 9 → RG (wal (beT T1 T) c.toNat t)) (hA : 0 ≤ c → c < T 0 1 → ∀ T1 : TS, RG T1 → ∀ t : Nat, t ≤ 8 → RG (wal (beT T1 T) c.toNat t) ∧ TKok (wal (beT T1 T) c.toNat t) (7 + 8 * c.toNat)) : MXI l yX2_alone cX2_alone 3 .int (rmX 8 2) g [.ref (ad 0), .int (iZ (c)), .int (iZ (d))] (SW g ad P 0 T) (fun z ws9 => ((0 ≤ c ∧ c < T 0 1) ∧ (0 ≤ d ∧ d < T 0 0)) ∧ (∃ T1 i, RG T1 ∧ i ≤ 9 ∧ (∀ j, j < i → awP (wal (beT T1 T) c.toNat j) c.toNat) ∧ (i = 9 ∨ ¬ awP (wal (beT T1 T) c.toNat i) c.toNat) ∧ z = wal (beT T1 T) c.toNat i 1 d.toNat) ∧ ∃ P9, RG (P9 1) ∧ ws9 = SW g ad P9 0 T) (fun E => E = eIO ∧ ¬ ((0 ≤ c ∧ c < T 0 1) ∧ (0 ≤ d ∧ d < T 0 0))) := by
  refine MXI.of (own := RX2) (by decide) rfl rfl hst (Nat.le_of_ble_eq_true rfl) (fun x hx hz hTE hPX hE => ?_)
  have hk : 0 < 2 := by decide
  obtain ⟨hT, ⟨hn1, hn8⟩, ⟨hc0, hc6⟩, ⟨hl0, hl9⟩⟩ := id hS
  have hn0 : 0 ≤ T 0 0 := by omega
  refine V_lv (lv' := [(0, .ref (ad 0)), (1, .int (iZ (c))), (2, .int (iZ (d)))]) rfl ?_
  refine V_aload_n hx dX2_alone_0 0 rfl ?_
  refine V_iload_n hx dX2_alone_1 1 rfl ?_
  refine V_callXv hx hz hPX (x_needClerk l hst (P := P) T hS (d := c) (by first | assumption | exact hT _ _ | exact ⟨by omega, by omega⟩)) cw_X2_59 ⟨Nat.le_of_ble_eq_true rfl, Nat.le_of_ble_eq_true rfl, Nat.le_of_ble_eq_true rfl, Nat.le_of_ble_eq_true rfl⟩ rfl 0 SW_tillx rfl rfl (Nat.le_of_ble_eq_true rfl) dX2_alone_2 1 6 rfl rfl (fun E he => ⟨he.1, by omega⟩) (fun ws1 e1 => ?_)
  obtain ⟨v2, rfl⟩ := e1
  obtain ⟨u2, w2⟩ := id v2
  refine V_aload_n hx dX2_alone_5 0 rfl ?_
  refine V_iload_n hx dX2_alone_6 2 rfl ?_
  refine V_callXv hx hz hPX (x_needDrawer l hst (P := P) T hS (d := d) (by first | assumption | exact hT _ _ | exact ⟨by omega, by omega⟩)) cw_X2_34 ⟨Nat.le_of_ble_eq_true rfl, Nat.le_of_ble_eq_true rfl, Nat.le_of_ble_eq_true rfl, Nat.le_of_ble_eq_true rfl⟩ rfl 0 SW_tillx rfl rfl (Nat.le_of_ble_eq_true rfl) dX2_alone_7 2 12 rfl rfl (fun E he => ⟨he.1, by omega⟩) (fun ws2 e2 => ?_)
  obtain ⟨v7, rfl⟩ := e2
  obtain ⟨u7, w7⟩ := id v7
  obtain ⟨P2, hP2⟩ : ∃ P2, P2 = ups P 0 T := ⟨_, rfl⟩
  have hP20 : P2 0 = T := by rw [hP2, ups_at]
  have hP21 : RG (P2 1) := by rw [hP2, ups_ne _ (by decide)]; exact hP1
  have hk : 1 < 2 := by decide
  have hk' : 0 < 2 := by decide
  have hne : (0 : Nat) ≠ 1 := by decide
  refine V_ws (ws' := SW g ad P2 1 (P2 1)) (by rw [hP2, ups_ne _ (by decide)]; exact SW_01) ?_
  refine V_aload_n hx dX2_alone_10 0 rfl ?_
  refine gf_X2_16 hx 0 (SW_tillx) rfl dX2_alone_11 ?_
  refine V_aload_n hx dX2_alone_14 0 rfl ?_
  refine gf_X2_10 hx 0 (SW_tillx) rfl dX2_alone_15 ?_
  refine V_callNv hx (m_sBecome l hk hk' hne (P := P2) (P2 1) (by rw [hP20]; omega) (by rw [hP20]; omega) (by rw [hP20]; exact hdn)) cw_X2_146 ⟨Nat.le_of_ble_eq_true rfl, Nat.le_of_ble_eq_true rfl, Nat.le_of_ble_eq_true rfl, Nat.le_of_ble_eq_true rfl⟩ rfl (ix 1 0) (SW_shop hk) rfl rfl (Nat.le_of_ble_eq_true rfl) dX2_alone_18 2 12 rfl rfl (fun ws3 e3 => ?_)
  subst e3
  refine V_ws (ws' := SW g ad P2 1 (beT (P2 1) T)) (by rw [hP20]) ?_
  refine V_aload_n hx dX2_alone_21 0 rfl ?_
  refine gf_X2_16 hx 0 (SW_tillx) rfl dX2_alone_22 ?_
  refine V_iload_n hx dX2_alone_25 1 rfl ?_
  refine V_callNv hx (m_workAlone l hk (P := P2) (beT (P2 1) T) (rg_be hP21 hT) (c := c) (by omega) (by omega) (fun t ht => hA (by omega) (by omega) (P2 1) hP21 t ht)) cw_X2_150 ⟨Nat.le_of_ble_eq_true rfl, Nat.le_of_ble_eq_true rfl, Nat.le_of_ble_eq_true rfl, Nat.le_of_ble_eq_true rfl⟩ rfl (ix 1 0) (SW_shop hk) rfl rfl (Nat.le_of_ble_eq_true rfl) dX2_alone_26 2 12 rfl rfl (fun ws9 e9 => ?_)
  obtain ⟨i, hi9, hi1, hi2, rfl⟩ := e9
  refine V_aload_n hx dX2_alone_29 0 rfl ?_
  refine gf_X2_16 hx 0 (SW_tillx) rfl dX2_alone_30 ?_
  refine gf_X2_39 hx (ix 1 0) (SW_shop hk) rfl dX2_alone_33 ?_
  refine V_iload_n hx dX2_alone_36 2 rfl ?_
  refine V_iald hx (by omega) (by omega) (by decide) (ix 1 1) (SW_8 hk (Or.inl rfl) (by decide)) (v := (wal (beT (P2 1) T) c.toNat i) 1 d.toNat) rfl dX2_alone_37 ?_
  exact hE _ _ _ _ _ _ dX2_alone_38 rfl (Nat.le_of_ble_eq_true rfl) (Nat.le_of_ble_eq_true rfl) ⟨⟨v2, v7⟩, ⟨P2 1, i, hP21, hi9, hi1, hi2, rfl⟩, ⟨ups P2 1 (wal (beT (P2 1) T) c.toNat i), by rw [ups_at]; exact hA9 (by omega) (by omega) (P2 1) hP21 i hi9, SW_1z hP20⟩⟩
