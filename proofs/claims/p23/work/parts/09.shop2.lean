/-! the class Shop, on: steps, turns, closings -/
theorem rdT_ne {T : TS} {q d a b : Nat} (h1 : a ≠ q + 5) (h2 : a ≠ q + 6) : rdT T q d a b = T a b := by
  unfold rdT
  (repeat' split) <;> first | rfl | (rw [pt_ne _ _ (Or.inl h2), pt_ne _ _ (Or.inl h1)])
theorem rg_rdT {T : TS} (h : RG T) {q d : Nat} : RG (rdT T q d) := by
  unfold rdT
  (repeat' split) <;> first | exact h | exact rg_pt (rg_pt h (h _ _)) (h _ _)
def VB (T : TS) (q : Nat) : Prop := ∀ d, d < 8 → (-1 ≤ T 1 d ∧ T 1 d ≤ 9999) ∧ (-1 ≤ T (q + 5) d ∧ T (q + 5) d ≤ 9999) ∧ (-1 ≤ T (q + 7) d ∧ T (q + 7) d ≤ 9999)
theorem vb_rdV {T : TS} {q d : Nat} (h : VB T q) (hd : d < 8) : -1 ≤ rdV T q d ∧ rdV T q d ≤ 9999 := by
  obtain ⟨h1, h2, h3⟩ := h d hd
  unfold rdV
  (repeat' split) <;> omega
theorem vb_rdT {T : TS} {q d : Nat} (hq : isQ q) (h : VB T q) (hd : d < 8) : VB (rdT T q d) q := by
  have hq7 := hq.1
  intro a ha
  have h1 := h a ha
  have h2 := h d hd
  unfold rdT
  (repeat' split) <;> first | exact h1 | (simp only [pt]; grind)
theorem hl_b (a : Int) : 0 ≤ hl a ∧ hl a ≤ 9999 := by unfold hl; (repeat' split) <;> omega
theorem clL_ne {T : TS} {q i : Nat} {z : Int} {a b : Nat} (h1 : a ≠ 1) (h2 : a ≠ 2) : clL T q i z a b = T a b := by
  unfold clL
  rw [if_neg (fun h => h1 h.1), if_neg (fun h => h2 h.1)]
theorem rg_clL {T : TS} (h : RG T) {q i : Nat} {z : Int} (hz : rg z) : RG (clL T q i z) := by
  intro a b
  unfold clL
  (repeat' split) <;> first | exact h _ _ | exact hz
theorem cyT_ne {T : TS} {q d e : Nat} {b9 : Int} {a b : Nat} (h1 : a ≠ q + 5) (h2 : a ≠ q + 6) (h3 : a ≠ q + 7) : cyT T q d e b9 a b = T a b := by
  unfold cyT
  split
  · exact rdT_ne h1 h2
  · rw [pt_ne _ _ (Or.inl h3), pt_ne _ _ (Or.inl h3), rdT_ne h1 h2, rdT_ne h1 h2]
theorem dsT_ne {T : TS} {q p a b : Nat} (h1 : a ≠ q + 5) (h2 : a ≠ q + 6) (h3 : a ≠ q + 7) : dsT T q p a b = T a b := by
  unfold dsT
  (repeat' split)
  · exact rdT_ne h1 h2
  · exact pt_ne _ _ (Or.inl h3)
  · rw [pt_ne _ _ (Or.inl h3), rdT_ne h1 h2]
  · exact cyT_ne h1 h2 h3
def TKok (T : TS) (q : Nat) : Prop := (0 ≤ T 0 0 ∧ T 0 0 ≤ 8) ∧ (0 ≤ T q 1 ∧ T q 0 ≤ 8) ∧ (T q 1 < T q 0 → (0 ≤ T (q + 2) (T q 1).toNat ∧ T (q + 2) (T q 1).toNat < 8) ∧ (0 ≤ T (q + 3) (T q 1).toNat ∧ T (q + 3) (T q 1).toNat < 8) ∧ (-999 ≤ T (q + 4) (T q 1).toNat ∧ T (q + 4) (T q 1).toNat ≤ 999)) ∧ VB T q ∧ (0 ≤ T q 3 ∧ T q 3 < 2147483647) ∧ (0 ≤ T 0 2 ∧ T 0 2 < 2147483647)
theorem sm_b {f : Nat → Int} (h : ∀ d, 0 ≤ f d ∧ f d ≤ 1) : ∀ n : Nat, 0 ≤ sm n f ∧ sm n f ≤ n
  | 0 => ⟨Int.le_refl 0, Int.le_refl 0⟩
  | n + 1 => by
    have h1 := sm_b h n
    have h2 := h n
    show 0 ≤ sm n f + f n ∧ sm n f + f n ≤ ((n + 1 : Nat) : Int)
    omega
theorem bz_b (c : Prop) : 0 ≤ bz c ∧ bz c ≤ 1 := by rcases bz_01 c with h | h <;> rw [h] <;> decide
theorem wrF_b (T : TS) (q : Nat) : 0 ≤ sm 8 (wrF T q) ∧ sm 8 (wrF T q) ≤ 8 := sm_b (fun d => bz_b _) 8
theorem wrF_cl {T : TS} {q i : Nat} {z z' : Int} (hq : isQ q) : wrF (pt (clL (pt T 0 2 z) q i z') q 2 1) q = wrF T q := by
  have hq7 := hq.1
  funext d
  unfold wrF
  rw [pt_ne _ _ (Or.inl (by omega)), clL_ne (by omega) (by omega), pt_ne _ _ (Or.inl (by omega))]
theorem rg_tkV (T : TS) (c : Nat) : rg (tkV T c) := by
  unfold tkV
  (repeat' split) <;> exact ⟨by decide, by decide⟩
set_option maxHeartbeats 4000000 in
set_option maxRecDepth 100000 in
theorem m_carry (l : Launch) {g : GT} {ad : Nat → Nat} {P : Nat → TS} {k : Nat} (hk : k < 2) (T : TS) (hT : RG T) {q : Nat} (hq : isQ q) (hv : VB T q) {d e b : Int} (hd0 : 0 ≤ d) (hd8 : d < 8) (he0 : 0 ≤ e) (he8 : e < 8) (hb0 : -999 ≤ b) (hb9 : b ≤ 999) : MV l yX1_carry cX1_carry 7 (rmN 2) g [.ref (ad (ix k 0)), .ref (ad (ix k q)), .int (iZ (d)), .int (iZ (e)), .int (iZ (b))] (SW g ad P k T) (fun ws9 => ws9 = SW g ad P k (cyT T q d.toNat e.toNat b)) := by
  refine MV.of (own := RX1) (by decide) rfl (Nat.le_of_ble_eq_true rfl) (fun x hx hE => ?_)
  have hq7 := hq.1
  have hq8 := hq.2
  refine V_lv (lv' := [(0, .ref (ad (ix k 0))), (1, .ref (ad (ix k q))), (2, .int (iZ (d))), (3, .int (iZ (e))), (4, .int (iZ (b)))]) rfl ?_
  refine V_aload_n hx dX1_carry_0 0 rfl ?_
  refine V_aload_n hx dX1_carry_1 1 rfl ?_
  refine V_iload_n hx dX1_carry_2 2 rfl ?_
  refine V_calli hx (m_read l hk T hT (q := q) hq (d := d) (by omega) (by omega)) cw_X1_91 (RMn (by decide) (by decide)) rfl (ix k 0) (SW_shop hk) rfl rfl (Nat.le_of_ble_eq_true rfl) dX1_carry_3 0 0 rfl rfl (fun z1 ws1 e1 => ?_)
  obtain ⟨rfl, rfl⟩ := e1
  have b1 := vb_rdV hv (d := d.toNat) (by omega)
  refine V_istore hx dX1_carry_6 [(5, .int (iZ (rdV T q d.toNat))), (0, .ref (ad (ix k 0))), (1, .ref (ad (ix k q))), (2, .int (iZ (d))), (3, .int (iZ (e))), (4, .int (iZ (b)))] (by decide) rfl ?_
  refine V_iload hx dX1_carry_8 0 rfl ?_
  refine V_iload hx dX1_carry_10 5 rfl ?_
  refine V_icmp_ge hx dX1_carry_12 16 (by decide) (by first | assumption | exact hT _ _ | exact ⟨by omega, by omega⟩) (by first | assumption | exact hT _ _ | exact ⟨by omega, by omega⟩) (fun h12 => ?_) (fun h12 => ?_)
  · refine V_aload_n hx dX1_carry_16 1 rfl ?_
    refine V_aload_n hx dX1_carry_17 2 rfl ?_
    refine V_iload_n hx dX1_carry_18 4 rfl ?_
    refine V_calli hx (m_read l hk (rdT T q d.toNat) (rg_rdT hT) (q := q) hq (d := e) (by omega) (by omega)) cw_X1_91 (RMn (by decide) (by decide)) rfl (ix k 0) (SW_shop hk) rfl rfl (Nat.le_of_ble_eq_true rfl) dX1_carry_19 0 0 rfl rfl (fun z2 ws2 e2 => ?_)
    obtain ⟨rfl, rfl⟩ := e2
    have b2 := vb_rdV (vb_rdT hq hv (d := d.toNat) (by omega)) (d := e.toNat) (by omega)
    refine V_istore hx dX1_carry_22 [(6, .int (iZ (rdV (rdT T q d.toNat) q e.toNat))), (5, .int (iZ (rdV T q d.toNat))), (0, .ref (ad (ix k 0))), (1, .ref (ad (ix k q))), (2, .int (iZ (d))), (3, .int (iZ (e))), (4, .int (iZ (b)))] (by decide) rfl ?_
    refine V_aload_n hx dX1_carry_24 3 rfl ?_
    refine gf_X1_95 hx (ix k q) (SW_clk hk hq) rfl dX1_carry_25 ?_
    refine V_iload_n hx dX1_carry_28 4 rfl ?_
    refine V_iload hx dX1_carry_29 1 rfl ?_
    refine V_iload hx dX1_carry_31 6 rfl ?_
    refine V_isub hx dX1_carry_33 ?_
    refine V_iast hx (by omega) (by omega) (by decide) (ix k (q + 7)) (SW_c8 hk hq 7 (by decide)) (SW g ad P k (pt (rdT (rdT T q d.toNat) q e.toNat) (q + 7) (d.toNat) ((rdV T q d.toNat) - b))) (SW_sc8 hq 7 (by decide)) dX1_carry_34 ?_
    refine V_aload_n hx dX1_carry_35 3 rfl ?_
    refine gf_X1_95 hx (ix k q) (SW_clk hk hq) rfl dX1_carry_36 ?_
    refine V_iload_n hx dX1_carry_39 5 rfl ?_
    refine V_iload hx dX1_carry_40 0 rfl ?_
    refine V_iload hx dX1_carry_42 6 rfl ?_
    refine V_iadd hx dX1_carry_44 ?_
    refine V_callSi hx (m_held l (P := P) (k := k) (pt (rdT (rdT T q d.toNat) q e.toNat) (q + 7) (d.toNat) ((rdV T q d.toNat) - b)) (a := (rdV (rdT T q d.toNat) q e.toNat) + b) (by first | assumption | exact hT _ _ | exact ⟨by omega, by omega⟩)) cw_X1_98 (RMn (by decide) (by decide)) rfl rfl (Nat.le_of_ble_eq_true rfl) dX1_carry_45 0 0 rfl rfl (fun z3 ws3 e3 => ?_)
    obtain ⟨rfl, rfl⟩ := e3
    refine V_iast hx (by omega) (by omega) (by decide) (ix k (q + 7)) (SW_c8 hk hq 7 (by decide)) (SW g ad P k (pt (pt (rdT (rdT T q d.toNat) q e.toNat) (q + 7) (d.toNat) ((rdV T q d.toNat) - b)) (q + 7) (e.toNat) (hl ((rdV (rdT T q d.toNat) q e.toNat) + b)))) (SW_sc8 hq 7 (by decide)) dX1_carry_48 ?_
    exact hE _ _ _ dX1_carry_49 (by rw [cyT, if_neg (by omega)])
  · exact hE _ _ _ dX1_carry_15 (by rw [cyT, if_pos (by omega)])
set_option maxHeartbeats 4000000 in
set_option maxRecDepth 100000 in
theorem m_doStep (l : Launch) {g : GT} {ad : Nat → Nat} {P : Nat → TS} {k : Nat} (hk : k < 2) (T : TS) (hT : RG T) {q : Nat} (hq : isQ q) (hv : VB T q) (hp0 : 0 ≤ T q 1) (hp8 : T q 1 < 8) (hd0 : 0 ≤ T (q + 2) (T q 1).toNat) (hd8 : T (q + 2) (T q 1).toNat < 8) (he0 : 0 ≤ T (q + 3) (T q 1).toNat) (he8 : T (q + 3) (T q 1).toNat < 8) (hb0 : -999 ≤ T (q + 4) (T q 1).toNat) (hb9 : T (q + 4) (T q 1).toNat ≤ 999) : MV l yX1_doStep cX1_doStep 4 (rmN 3) g [.ref (ad (ix k 0)), .ref (ad (ix k q))] (SW g ad P k T) (fun ws9 => ws9 = SW g ad P k (dsT T q (T q 1).toNat)) := by
  refine MV.of (own := RX1) (by decide) rfl (Nat.le_of_ble_eq_true rfl) (fun x hx hE => ?_)
  have hq7 := hq.1
  have hq8 := hq.2
  refine V_lv (lv' := [(0, .ref (ad (ix k 0))), (1, .ref (ad (ix k q)))]) rfl ?_
  refine V_aload_n hx dX1_doStep_0 1 rfl ?_
  refine gf_X1_82 hx (ix k q) (SW_clk hk hq) rfl dX1_doStep_1 ?_
  refine V_aload_n hx dX1_doStep_4 1 rfl ?_
  refine gf_X1_59 hx (ix k q) (SW_clk hk hq) rfl dX1_doStep_5 ?_
  refine V_iald hx (by omega) (by omega) (by decide) (ix k (q + 2)) (SW_c8 hk hq 2 (by decide)) (v := T (q + 2) ((T q 1).toNat)) rfl dX1_doStep_8 ?_
  refine V_istore_n hx dX1_doStep_9 [(2, .int (iZ (T (q + 2) ((T q 1).toNat)))), (0, .ref (ad (ix k 0))), (1, .ref (ad (ix k q)))] (by decide) rfl ?_
  refine V_aload_n hx dX1_doStep_10 2 rfl ?_
  refine gf_X1_85 hx (ix k q) (SW_clk hk hq) rfl dX1_doStep_11 ?_
  refine V_aload_n hx dX1_doStep_14 2 rfl ?_
  refine gf_X1_59 hx (ix k q) (SW_clk hk hq) rfl dX1_doStep_15 ?_
  refine V_iald hx (by omega) (by omega) (by decide) (ix k (q + 4)) (SW_c8 hk hq 4 (by decide)) (v := T (q + 4) ((T q 1).toNat)) rfl dX1_doStep_18 ?_
  refine V_istore_n hx dX1_doStep_19 [(3, .int (iZ (T (q + 4) ((T q 1).toNat)))), (2, .int (iZ (T (q + 2) ((T q 1).toNat)))), (0, .ref (ad (ix k 0))), (1, .ref (ad (ix k q)))] (by decide) rfl ?_
  refine V_aload_n hx dX1_doStep_20 3 rfl ?_
  refine gf_X1_88 hx (ix k q) (SW_clk hk hq) rfl dX1_doStep_21 ?_
  refine V_aload_n hx dX1_doStep_24 3 rfl ?_
  refine gf_X1_59 hx (ix k q) (SW_clk hk hq) rfl dX1_doStep_25 ?_
  refine V_iald hx (by omega) (by omega) (by decide) (ix k (q + 1)) (SW_c8 hk hq 1 (by decide)) (v := T (q + 1) ((T q 1).toNat)) rfl dX1_doStep_28 ?_
  by_cases h29_0 : T (q + 1) ((T q 1).toNat) = 0
  · refine V_tabIn hx dX1_doStep_29 (by first | assumption | exact hT _ _ | exact ⟨by omega, by omega⟩) (by omega) (by omega) (off := 27) (by rw [h29_0]; rfl) 56 (by decide) ?_
    refine V_aload_n hx dX1_doStep_56 2 rfl ?_
    refine V_aload_n hx dX1_doStep_57 3 rfl ?_
    refine V_iload_n hx dX1_doStep_58 1 rfl ?_
    refine V_calli hx (m_read l hk T hT (q := q) hq (d := T (q + 2) ((T q 1).toNat)) (by omega) (by omega)) cw_X1_91 (RMn (by decide) (by decide)) rfl (ix k 0) (SW_shop hk) rfl rfl (Nat.le_of_ble_eq_true rfl) dX1_doStep_59 0 0 rfl rfl (fun z1 ws1 e1 => ?_)
    obtain ⟨rfl, rfl⟩ := e1
    refine V_pop hx dX1_doStep_62 rfl ?_
    refine V_goto hx dX1_doStep_63 112 (by decide) ?_
    exact hE _ _ _ dX1_doStep_112 (congrArg (SW g ad P k) (by unfold dsT; first | rw [if_pos h29_0] | rw [if_neg h29_0, if_pos h29_1] | rw [if_neg h29_0, if_neg h29_1, if_pos h29_2] | rw [if_neg h29_0, if_neg h29_1, if_neg h29_2]))
  by_cases h29_1 : T (q + 1) ((T q 1).toNat) = 1
  · refine V_tabIn hx dX1_doStep_29 (by first | assumption | exact hT _ _ | exact ⟨by omega, by omega⟩) (by omega) (by omega) (off := 37) (by rw [h29_1]; rfl) 66 (by decide) ?_
    refine V_aload_n hx dX1_doStep_66 3 rfl ?_
    refine gf_X1_95 hx (ix k q) (SW_clk hk hq) rfl dX1_doStep_67 ?_
    refine V_iload_n hx dX1_doStep_70 1 rfl ?_
    refine V_iload_n hx dX1_doStep_71 0 rfl ?_
    refine V_iast hx (by omega) (by omega) (by decide) (ix k (q + 7)) (SW_c8 hk hq 7 (by decide)) (SW g ad P k (pt T (q + 7) ((T (q + 2) ((T q 1).toNat)).toNat) (T (q + 4) ((T q 1).toNat)))) (SW_sc8 hq 7 (by decide)) dX1_doStep_72 ?_
    refine V_goto hx dX1_doStep_73 112 (by decide) ?_
    exact hE _ _ _ dX1_doStep_112 (congrArg (SW g ad P k) (by unfold dsT; first | rw [if_pos h29_0] | rw [if_neg h29_0, if_pos h29_1] | rw [if_neg h29_0, if_neg h29_1, if_pos h29_2] | rw [if_neg h29_0, if_neg h29_1, if_neg h29_2]))
  by_cases h29_2 : T (q + 1) ((T q 1).toNat) = 2
  · refine V_tabIn hx dX1_doStep_29 (by first | assumption | exact hT _ _ | exact ⟨by omega, by omega⟩) (by omega) (by omega) (off := 47) (by rw [h29_2]; rfl) 76 (by decide) ?_
    refine V_aload_n hx dX1_doStep_76 3 rfl ?_
    refine gf_X1_95 hx (ix k q) (SW_clk hk hq) rfl dX1_doStep_77 ?_
    refine V_iload_n hx dX1_doStep_80 1 rfl ?_
    refine V_aload_n hx dX1_doStep_81 2 rfl ?_
    refine V_aload_n hx dX1_doStep_82 3 rfl ?_
    refine V_iload_n hx dX1_doStep_83 1 rfl ?_
    refine V_calli hx (m_read l hk T hT (q := q) hq (d := T (q + 2) ((T q 1).toNat)) (by omega) (by omega)) cw_X1_91 (RMn (by decide) (by decide)) rfl (ix k 0) (SW_shop hk) rfl rfl (Nat.le_of_ble_eq_true rfl) dX1_doStep_84 0 0 rfl rfl (fun z2 ws2 e2 => ?_)
    obtain ⟨rfl, rfl⟩ := e2
    have b1 := vb_rdV hv (d := (T (q + 2) (T q 1).toNat).toNat) (by omega)
    refine V_iload_n hx dX1_doStep_87 0 rfl ?_
    refine V_iadd hx dX1_doStep_88 ?_
    refine V_callSi hx (m_held l (P := P) (k := k) (rdT T q ((T (q + 2) ((T q 1).toNat)).toNat)) (a := (rdV T q ((T (q + 2) ((T q 1).toNat)).toNat)) + (T (q + 4) ((T q 1).toNat))) (by first | assumption | exact hT _ _ | exact ⟨by omega, by omega⟩)) cw_X1_98 (RMn (by decide) (by decide)) rfl rfl (Nat.le_of_ble_eq_true rfl) dX1_doStep_89 0 0 rfl rfl (fun z3 ws3 e3 => ?_)
    obtain ⟨rfl, rfl⟩ := e3
    refine V_iast hx (by omega) (by omega) (by decide) (ix k (q + 7)) (SW_c8 hk hq 7 (by decide)) (SW g ad P k (pt (rdT T q ((T (q + 2) ((T q 1).toNat)).toNat)) (q + 7) ((T (q + 2) ((T q 1).toNat)).toNat) (hl ((rdV T q ((T (q + 2) ((T q 1).toNat)).toNat)) + (T (q + 4) ((T q 1).toNat)))))) (SW_sc8 hq 7 (by decide)) dX1_doStep_92 ?_
    refine V_goto hx dX1_doStep_93 112 (by decide) ?_
    exact hE _ _ _ dX1_doStep_112 (congrArg (SW g ad P k) (by unfold dsT; first | rw [if_pos h29_0] | rw [if_neg h29_0, if_pos h29_1] | rw [if_neg h29_0, if_neg h29_1, if_pos h29_2] | rw [if_neg h29_0, if_neg h29_1, if_neg h29_2]))
  refine V_tabOut hx dX1_doStep_29 (by first | assumption | exact hT _ _ | exact ⟨by omega, by omega⟩) (by omega) 96 (by decide) ?_
  refine V_aload_n hx dX1_doStep_96 2 rfl ?_
  refine V_aload_n hx dX1_doStep_97 3 rfl ?_
  refine V_iload_n hx dX1_doStep_98 1 rfl ?_
  refine V_aload_n hx dX1_doStep_99 3 rfl ?_
  refine gf_X1_102 hx (ix k q) (SW_clk hk hq) rfl dX1_doStep_100 ?_
  refine V_aload_n hx dX1_doStep_103 3 rfl ?_
  refine gf_X1_59 hx (ix k q) (SW_clk hk hq) rfl dX1_doStep_104 ?_
  refine V_iald hx (by omega) (by omega) (by decide) (ix k (q + 3)) (SW_c8 hk hq 3 (by decide)) (v := T (q + 3) ((T q 1).toNat)) rfl dX1_doStep_107 ?_
  refine V_iload_n hx dX1_doStep_108 0 rfl ?_
  refine V_callv hx (m_carry l hk T hT (q := q) hq hv (d := T (q + 2) ((T q 1).toNat)) (e := T (q + 3) ((T q 1).toNat)) (b := T (q + 4) ((T q 1).toNat)) (by omega) (by omega) (by omega) (by omega) (by omega) (by omega)) cw_X1_105 (RMn (by decide) (by decide)) rfl (ix k 0) (SW_shop hk) rfl rfl (Nat.le_of_ble_eq_true rfl) dX1_doStep_109 0 0 rfl rfl (fun ws4 e4 => ?_)
  subst e4
  exact hE _ _ _ dX1_doStep_112 (congrArg (SW g ad P k) (by unfold dsT; first | rw [if_pos h29_0] | rw [if_neg h29_0, if_pos h29_1] | rw [if_neg h29_0, if_neg h29_1, if_pos h29_2] | rw [if_neg h29_0, if_neg h29_1, if_neg h29_2]))
set_option maxHeartbeats 4000000 in
set_option maxRecDepth 100000 in
theorem m_close (l : Launch) {g : GT} {ad : Nat → Nat} {P : Nat → TS} {k : Nat} (hk : k < 2) (T : TS) (hT : RG T) (hn0 : 0 ≤ T 0 0) (hn8 : T 0 0 ≤ 8) {c : Int} (hc0 : 0 ≤ c) (hc6 : c < 6) (hl0 : 0 ≤ T 0 2) (hl9 : T 0 2 < 2147483647) : MV l yX1_close cX1_close 4 (rmN 2) g [.ref (ad (ix k 0)), .int (iZ (c))] (SW g ad P k T) (fun ws9 => ws9 = SW g ad P k (clT T (7 + 8 * c.toNat) c)) := by
  refine MV.of (own := RX1) (by decide) rfl (Nat.le_of_ble_eq_true rfl) (fun x hx hE => ?_)
  have hnd : ((nd T : Nat) : Int) = T 0 0 := Int.toNat_of_nonneg (by omega)
  have hr2 : rg (T 0 2 + 1) := ⟨by omega, by omega⟩
  refine V_lv (lv' := [(0, .ref (ad (ix k 0))), (1, .int (iZ (c)))]) rfl ?_
  refine V_aload_n hx dX1_close_0 0 rfl ?_
  refine gf_X1_24 hx (ix k 0) (SW_shop hk) rfl dX1_close_1 ?_
  refine V_iload_n hx dX1_close_4 1 rfl ?_
  refine V_aald hx (by omega) (by omega) (by decide) (ix k 3) (SW_refs hk) (r := ad (ix k (7 + 8 * c.toNat))) rfl dX1_close_5 ?_
  refine V_astore_n hx dX1_close_6 [(2, .ref (ad (ix k (7 + 8 * c.toNat)))), (0, .ref (ad (ix k 0))), (1, .int (iZ (c)))] (by decide) rfl ?_
  refine V_aload_n hx dX1_close_7 1 rfl ?_
  refine V_dup hx dX1_close_8 rfl ?_
  refine gf_X1_41 hx (ix k 0) (SW_shop hk) rfl dX1_close_9 ?_
  refine V_iconst hx dX1_close_12 ?_
  refine V_iadd hx dX1_close_13 ?_
  refine pf_X1_41 hx (ix k 0) (SW_shop hk) (Nat.le_of_ble_eq_true rfl) (SW g ad P k (pt T (0) (2) ((T 0 2) + 1))) SW_ss2 dX1_close_14 ?_
  refine V_iconst hx dX1_close_17 ?_
  refine V_istore_n hx dX1_close_18 [(3, .int (iZ (0))), (2, .ref (ad (ix k (7 + 8 * c.toNat)))), (0, .ref (ad (ix k 0))), (1, .int (iZ (c)))] (by decide) rfl ?_
  have hL19 : ∀ (n : Nat) (i : Nat), nd T < i + n → i ≤ nd T → V x 0 0 (SW g ad P k (clL (pt T 0 2 (T 0 2 + 1)) (7 + 8 * c.toNat) i (T 0 2 + 1))) 19 [(3, .int (iZ ((i : Int)))), (0, .ref (ad (ix k 0))), (1, .int (iZ (c))), (2, .ref (ad (ix k (7 + 8 * c.toNat))))] [] := by
    intro n
    induction n with
    | zero =>
      intro i g1 g2 
      exact absurd g1 (by omega)
    | succ n ih =>
      intro i g1 g2 
      refine V_iload_n hx dX1_close_19 0 rfl ?_
      refine V_aload_n hx dX1_close_20 1 rfl ?_
      refine gf_X1_9 hx (ix k 0) (SW_shop hk) rfl dX1_close_21 ?_
      refine V_top (b := T 0 0) (by rw [clL_ne (by omega) (by omega), pt_ne _ _ (Or.inr (by omega))]) ?_
      refine V_icmp_ge hx dX1_close_24 63 (by decide) ⟨by omega, by omega⟩ (by first | assumption | exact hT _ _ | exact ⟨by omega, by omega⟩) (fun h24 => ?_) (fun h24 => ?_)
      · refine V_aload_n hx dX1_close_63 3 rfl ?_
        refine V_iconst hx dX1_close_64 ?_
        refine pf_X1_128 hx rfl rfl (ix k (7 + 8 * c.toNat)) (SW_clk hk (isQ_c (by omega))) (Nat.le_of_ble_eq_true rfl) (SW g ad P k (pt (clL (pt T 0 2 (T 0 2 + 1)) (7 + 8 * c.toNat) i (T 0 2 + 1)) (7 + 8 * c.toNat) (2) (1))) (SW_sq2 (isQ_c (by omega))) dX1_close_65 ?_
        refine V_aload_n hx dX1_close_68 1 rfl ?_
        refine V_iload_n hx dX1_close_69 2 rfl ?_
        refine V_aload_n hx dX1_close_70 3 rfl ?_
        refine V_callNi hx (m_countWritten l hk (pt (clL (pt T 0 2 (T 0 2 + 1)) (7 + 8 * c.toNat) i (T 0 2 + 1)) (7 + 8 * c.toNat) (2) (1)) (rg_pt (rg_clL (rg_pt hT (by first | assumption | exact hT _ _ | exact ⟨by omega, by omega⟩)) (by first | assumption | exact ⟨by omega, by omega⟩)) (by first | assumption | exact hT _ _ | exact ⟨by omega, by omega⟩)) (q := 7 + 8 * c.toNat) (isQ_c (by omega))) cw_X1_132 (RMn (by decide) (by decide)) rfl (ix k (7 + 8 * c.toNat)) (SW_clk hk (isQ_c (by omega))) rfl rfl (Nat.le_of_ble_eq_true rfl) dX1_close_71 0 0 rfl rfl (fun z1 ws1 e1 => ?_)
        obtain ⟨rfl, rfl⟩ := e1
        refine V_top (b := sm 8 (wrF T (7 + 8 * c.toNat))) (by rw [wrF_cl (isQ_c (by omega))]) ?_
        refine V_callv hx (m_keepClosing l hk (pt (clL (pt T 0 2 (T 0 2 + 1)) (7 + 8 * c.toNat) i (T 0 2 + 1)) (7 + 8 * c.toNat) (2) (1)) (rg_pt (rg_clL (rg_pt hT (by first | assumption | exact hT _ _ | exact ⟨by omega, by omega⟩)) (by first | assumption | exact ⟨by omega, by omega⟩)) (by first | assumption | exact hT _ _ | exact ⟨by omega, by omega⟩)) (by rw [pt_ne _ _ (Or.inl (by omega)), clL_ne (by omega) (by omega), pt_ne _ _ (Or.inr (by omega))]; first | omega | assumption) (by rw [pt_ne _ _ (Or.inl (by omega)), clL_ne (by omega) (by omega), pt_ne _ _ (Or.inr (by omega))]; first | omega | assumption) (c := c) (w := sm 8 (wrF T (7 + 8 * c.toNat))) (by first | assumption | exact hT _ _ | exact ⟨by omega, by omega⟩) ⟨by have := wrF_b T (7 + 8 * c.toNat); omega, by have := wrF_b T (7 + 8 * c.toNat); omega⟩) cw_X1_51 (RMn (by decide) (by decide)) rfl (ix k 0) (SW_shop hk) rfl rfl (Nat.le_of_ble_eq_true rfl) dX1_close_74 0 0 rfl rfl (fun ws2 e2 => ?_)
        subst e2
        exact hE _ _ _ dX1_close_77 (congrArg (SW g ad P k) (by rw [show i = nd T by omega]; rfl))
      · refine V_aload_n hx dX1_close_27 3 rfl ?_
        refine V_iload_n hx dX1_close_28 0 rfl ?_
        refine V_callNi hx (m_hasWritten l hk (clL (pt T 0 2 (T 0 2 + 1)) (7 + 8 * c.toNat) i (T 0 2 + 1)) (rg_clL (rg_pt hT (by first | assumption | exact hT _ _ | exact ⟨by omega, by omega⟩)) (by first | assumption | exact ⟨by omega, by omega⟩)) (q := 7 + 8 * c.toNat) (isQ_c (by omega)) (d := (i : Int)) (by omega) (by omega)) cw_X1_109 (RMn (by decide) (by decide)) rfl (ix k (7 + 8 * c.toNat)) (SW_clk hk (isQ_c (by omega))) rfl rfl (Nat.le_of_ble_eq_true rfl) dX1_close_29 0 0 rfl rfl (fun z3 ws3 e3 => ?_)
        obtain ⟨rfl, rfl⟩ := e3
        refine V_top (b := bz (T (7 + 8 * c.toNat + 7) i ≠ -1)) (by rw [clL_ne (by omega) (by omega), pt_ne _ _ (Or.inl (by omega))] <;> rfl) ?_
        refine V_ifb_eq hx dX1_close_32 57 (by decide) (fun h32 => ?_) (fun h32 => ?_)
        · refine V_iincN hx dX1_close_57 0 rfl [(3, .int (iZ (((i + 1 : Nat) : Int)))), (0, .ref (ad (ix k 0))), (1, .int (iZ (c))), (2, .ref (ad (ix k (7 + 8 * c.toNat))))] (by decide) rfl ?_
          refine V_goto hx dX1_close_60 19 (by decide) ?_
          refine V_ws (ws' := SW g ad P k (clL (pt T 0 2 (T 0 2 + 1)) (7 + 8 * c.toNat) (i + 1) (T 0 2 + 1))) (congrArg (SW g ad P k) (by funext a b; simp only [pt, clL]; (repeat' split) <;> first | rfl | omega | grind)) ?_
          exact V_sub [0, 1, 2, 3] rfl (ih (i + 1) (by omega) (by omega))
        · refine V_aload_n hx dX1_close_35 1 rfl ?_
          refine gf_X1_15 hx (ix k 0) (SW_shop hk) rfl dX1_close_36 ?_
          refine V_iload_n hx dX1_close_39 0 rfl ?_
          refine V_aload_n hx dX1_close_40 3 rfl ?_
          refine gf_X1_95 hx (ix k (7 + 8 * c.toNat)) (SW_clk hk (isQ_c (by omega))) rfl dX1_close_41 ?_
          refine V_iload_n hx dX1_close_44 0 rfl ?_
          refine V_iald hx (by omega) (by omega) (by decide) (ix k (7 + 8 * c.toNat + 7)) (SW_c8 hk (isQ_c (by omega)) 7 (by decide)) (v := T (7 + 8 * c.toNat + 7) i) (by show iZ _ = iZ _; rw [clL_ne (by omega) (by omega), pt_ne _ _ (Or.inl (by omega))] <;> rfl) dX1_close_45 ?_
          refine V_iast hx (by omega) (by omega) (by decide) (ix k 1) (SW_8 hk (Or.inl rfl) (by decide)) (SW g ad P k (pt (clL (pt T 0 2 (T 0 2 + 1)) (7 + 8 * c.toNat) i (T 0 2 + 1)) (1) (i) (T (7 + 8 * c.toNat + 7) i))) (SW_s8 (Or.inl rfl) (by decide)) dX1_close_46 ?_
          refine V_aload_n hx dX1_close_47 1 rfl ?_
          refine gf_X1_19 hx (ix k 0) (SW_shop hk) rfl dX1_close_48 ?_
          refine V_iload_n hx dX1_close_51 0 rfl ?_
          refine V_aload_n hx dX1_close_52 1 rfl ?_
          refine gf_X1_41 hx (ix k 0) (SW_shop hk) rfl dX1_close_53 ?_
          refine V_top (b := T 0 2 + 1) (by rw [pt_ne _ _ (Or.inl (by omega)), clL_ne (by omega) (by omega), pt_at]) ?_
          refine V_iast hx (by omega) (by omega) (by decide) (ix k 2) (SW_8 hk (Or.inr (Or.inl rfl)) (by decide)) (SW g ad P k (pt (pt (clL (pt T 0 2 (T 0 2 + 1)) (7 + 8 * c.toNat) i (T 0 2 + 1)) (1) (i) (T (7 + 8 * c.toNat + 7) i)) (2) (i) (T 0 2 + 1))) (SW_s8 (Or.inr (Or.inl rfl)) (by decide)) dX1_close_56 ?_
          refine V_iincN hx dX1_close_57 0 rfl [(3, .int (iZ (((i + 1 : Nat) : Int)))), (0, .ref (ad (ix k 0))), (1, .int (iZ (c))), (2, .ref (ad (ix k (7 + 8 * c.toNat))))] (by decide) rfl ?_
          refine V_goto hx dX1_close_60 19 (by decide) ?_
          refine V_ws (ws' := SW g ad P k (clL (pt T 0 2 (T 0 2 + 1)) (7 + 8 * c.toNat) (i + 1) (T 0 2 + 1))) (congrArg (SW g ad P k) (by funext a b; simp only [pt, clL]; (repeat' split) <;> first | rfl | omega | grind)) ?_
          exact V_sub [0, 1, 2, 3] rfl (ih (i + 1) (by omega) (by omega))
  refine V_ws (ws' := SW g ad P k (clL (pt T 0 2 (T 0 2 + 1)) (7 + 8 * c.toNat) 0 (T 0 2 + 1))) (congrArg (SW g ad P k) (by funext a b; simp only [pt, clL]; (repeat' split) <;> first | rfl | omega | grind)) ?_
  exact V_sub [0, 2, 3, 1] rfl (hL19 (nd T + 1) 0 (by omega) (by omega))
theorem soT_pt {T : TS} : True := trivial
set_option maxHeartbeats 4000000 in
set_option maxRecDepth 100000 in
theorem m_takeTurn (l : Launch) {g : GT} {ad : Nat → Nat} {P : Nat → TS} {k : Nat} (hk : k < 2) (T : TS) (hT : RG T) {c : Int} (hc0 : 0 ≤ c) (hc6 : c < 6) (hk0 : TKok T (7 + 8 * c.toNat)) : MI l yX1_takeTurn cX1_takeTurn 3 .int (rmN 4) g [.ref (ad (ix k 0)), .int (iZ (c))] (SW g ad P k T) (fun z ws9 => z = tkV T c.toNat ∧ ws9 = SW g ad P k (tkT T c.toNat)) := by
  refine MI.of (own := RX1) (by decide) rfl (Nat.le_of_ble_eq_true rfl) (fun x hx hE => ?_)
  obtain ⟨⟨kn0, kn8⟩, ⟨kp0, ks8⟩, kst, kv4, ⟨kl0, kl9⟩, ⟨kc0, kc9⟩⟩ := id hk0
  refine V_lv (lv' := [(0, .ref (ad (ix k 0))), (1, .int (iZ (c)))]) rfl ?_
  refine V_aload_n hx dX1_takeTurn_0 0 rfl ?_
  refine gf_X1_24 hx (ix k 0) (SW_shop hk) rfl dX1_takeTurn_1 ?_
  refine V_iload_n hx dX1_takeTurn_4 1 rfl ?_
  refine V_aald hx (by omega) (by omega) (by decide) (ix k 3) (SW_refs hk) (r := ad (ix k (7 + 8 * c.toNat))) rfl dX1_takeTurn_5 ?_
  refine V_astore_n hx dX1_takeTurn_6 [(2, .ref (ad (ix k (7 + 8 * c.toNat)))), (0, .ref (ad (ix k 0))), (1, .int (iZ (c)))] (by decide) rfl ?_
  refine V_aload_n hx dX1_takeTurn_7 0 rfl ?_
  refine gf_X1_59 hx (ix k (7 + 8 * c.toNat)) (SW_clk hk (isQ_c (by omega))) rfl dX1_takeTurn_8 ?_
  refine V_aload_n hx dX1_takeTurn_11 0 rfl ?_
  refine gf_X1_62 hx (ix k (7 + 8 * c.toNat)) (SW_clk hk (isQ_c (by omega))) rfl dX1_takeTurn_12 ?_
  refine V_icmp_ge hx dX1_takeTurn_15 35 (by decide) (by first | assumption | exact hT _ _ | exact ⟨by omega, by omega⟩) (by first | assumption | exact hT _ _ | exact ⟨by omega, by omega⟩) (fun h15 => ?_) (fun h15 => ?_)
  · refine V_aload_n hx dX1_takeTurn_35 1 rfl ?_
    refine V_aload_n hx dX1_takeTurn_36 0 rfl ?_
    refine V_calli hx (m_isOutdated l hk T hT (q := 7 + 8 * c.toNat) (isQ_c (by omega)) (by omega) (by omega)) cw_X1_68 (RMn (by decide) (by decide)) rfl (ix k 0) (SW_shop hk) rfl rfl (Nat.le_of_ble_eq_true rfl) dX1_takeTurn_37 0 0 rfl rfl (fun z1 ws1 e1 => ?_)
    obtain ⟨rfl, rfl⟩ := e1
    refine V_ifb_eq hx dX1_takeTurn_40 59 (by decide) (fun h40 => ?_) (fun h40 => ?_)
    · refine V_aload_n hx dX1_takeTurn_59 1 rfl ?_
      refine V_iload_n hx dX1_takeTurn_60 2 rfl ?_
      refine V_callv hx (m_close l hk T hT (by omega) (by omega) (c := c) (by omega) (by omega) (by omega) (by omega)) cw_X1_78 (RMn (by decide) (by decide)) rfl (ix k 0) (SW_shop hk) rfl rfl (Nat.le_of_ble_eq_true rfl) dX1_takeTurn_61 0 0 rfl rfl (fun ws2 e2 => ?_)
      subst e2
      refine V_iconst hx dX1_takeTurn_64 ?_
      exact hE _ _ _ _ dX1_takeTurn_65 rfl ⟨by unfold tkV; first | rw [if_pos (by omega)] | rw [if_neg (by omega), if_pos (bz_t h40)] | rw [if_neg (by omega), if_neg (fun h9 => h40 (Classical.byContradiction (fun h8 => by rw [bz_f h8] at h9; exact absurd h9 (by decide))))], congrArg (SW g ad P k) (by unfold tkT; first | rw [if_pos (by omega)] | rw [if_neg (by omega), if_pos (bz_t h40)] | (rw [if_neg (by omega), if_neg (fun h9 => h40 (Classical.byContradiction (fun h8 => by rw [bz_f h8] at h9; exact absurd h9 (by decide)))), show ((c.toNat : Nat) : Int) = c by omega]))⟩
    · refine V_aload_n hx dX1_takeTurn_43 0 rfl ?_
      refine V_dup hx dX1_takeTurn_44 rfl ?_
      refine gf_X1_72 hx (ix k (7 + 8 * c.toNat)) (SW_clk hk (isQ_c (by omega))) rfl dX1_takeTurn_45 ?_
      refine V_iconst hx dX1_takeTurn_48 ?_
      refine V_iadd hx dX1_takeTurn_49 ?_
      refine pf_X1_72 hx (ix k (7 + 8 * c.toNat)) (SW_clk hk (isQ_c (by omega))) (Nat.le_of_ble_eq_true rfl) (SW g ad P k (pt T (7 + 8 * c.toNat) (3) ((T (7 + 8 * c.toNat) 3) + 1))) (SW_sq3 (isQ_c (by omega))) dX1_takeTurn_50 ?_
      refine V_aload_n hx dX1_takeTurn_53 0 rfl ?_
      refine V_callNv hx (m_startOver l hk (pt T (7 + 8 * c.toNat) (3) ((T (7 + 8 * c.toNat) 3) + 1)) (q := 7 + 8 * c.toNat) (isQ_c (by omega))) cw_X1_75 (RMn (by decide) (by decide)) rfl (ix k (7 + 8 * c.toNat)) (SW_clk hk (isQ_c (by omega))) rfl rfl (Nat.le_of_ble_eq_true rfl) dX1_takeTurn_54 0 0 rfl rfl (fun ws3 e3 => ?_)
      subst e3
      refine V_iconst hx dX1_takeTurn_57 ?_
      exact hE _ _ _ _ dX1_takeTurn_58 rfl ⟨by unfold tkV; first | rw [if_pos (by omega)] | rw [if_neg (by omega), if_pos (bz_t h40)] | rw [if_neg (by omega), if_neg (fun h9 => h40 (Classical.byContradiction (fun h8 => by rw [bz_f h8] at h9; exact absurd h9 (by decide))))], congrArg (SW g ad P k) (by unfold tkT; first | rw [if_pos (by omega)] | rw [if_neg (by omega), if_pos (bz_t h40)] | (rw [if_neg (by omega), if_neg (fun h9 => h40 (Classical.byContradiction (fun h8 => by rw [bz_f h8] at h9; exact absurd h9 (by decide)))), show ((c.toNat : Nat) : Int) = c by omega]))⟩
  · obtain ⟨⟨ke1, ke2⟩, ⟨ke3, ke4⟩, ⟨ke5, ke6⟩⟩ := kst (by omega)
    refine V_aload_n hx dX1_takeTurn_18 1 rfl ?_
    refine V_aload_n hx dX1_takeTurn_19 0 rfl ?_
    refine V_callv hx (m_doStep l hk T hT (q := 7 + 8 * c.toNat) (isQ_c (by omega)) kv4 (by omega) (by omega) (by omega) (by omega) (by omega) (by omega) (by omega) (by omega)) cw_X1_65 (RMn (by decide) (by decide)) rfl (ix k 0) (SW_shop hk) rfl rfl (Nat.le_of_ble_eq_true rfl) dX1_takeTurn_20 0 0 rfl rfl (fun ws4 e4 => ?_)
    subst e4
    refine V_aload_n hx dX1_takeTurn_23 0 rfl ?_
    refine V_dup hx dX1_takeTurn_24 rfl ?_
    refine gf_X1_59 hx (ix k (7 + 8 * c.toNat)) (SW_clk hk (isQ_c (by omega))) rfl dX1_takeTurn_25 ?_
    refine V_top (b := T (7 + 8 * c.toNat) 1) (by rw [dsT_ne (by omega) (by omega) (by omega)]) ?_
    refine V_iconst hx dX1_takeTurn_28 ?_
    refine V_iadd hx dX1_takeTurn_29 ?_
    refine pf_X1_59 hx (ix k (7 + 8 * c.toNat)) (SW_clk hk (isQ_c (by omega))) (Nat.le_of_ble_eq_true rfl) (SW g ad P k (pt (dsT T (7 + 8 * c.toNat) (T (7 + 8 * c.toNat) 1).toNat) (7 + 8 * c.toNat) (1) ((T (7 + 8 * c.toNat) 1) + 1))) (SW_sq1 (isQ_c (by omega))) dX1_takeTurn_30 ?_
    refine V_iconst hx dX1_takeTurn_33 ?_
    exact hE _ _ _ _ dX1_takeTurn_34 rfl ⟨by unfold tkV; first | rw [if_pos (by omega)] | rw [if_neg (by omega), if_pos (bz_t h40)] | rw [if_neg (by omega), if_neg (fun h9 => h40 (Classical.byContradiction (fun h8 => by rw [bz_f h8] at h9; exact absurd h9 (by decide))))], congrArg (SW g ad P k) (by unfold tkT; first | rw [if_pos (by omega)] | rw [if_neg (by omega), if_pos (bz_t h40)] | (rw [if_neg (by omega), if_neg (fun h9 => h40 (Classical.byContradiction (fun h8 => by rw [bz_f h8] at h9; exact absurd h9 (by decide)))), show ((c.toNat : Nat) : Int) = c by omega]))⟩
