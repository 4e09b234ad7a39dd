/-! the class Shop: rounds, and what is told -/
def awP (T : TS) (c : Nat) : Prop := T (7 + 8 * c) 2 = 0 ∧ 0 < T (7 + 8 * c) 0
noncomputable def gr (T : TS) : Nat → TS × Int
  | 0 => (T, 0)
  | c + 1 => if (gr T c).1 (7 + 8 * c) 2 = 0 ∧ 0 < (gr T c).1 (7 + 8 * c) 0 then (tkT (gr T c).1 c, (gr T c).2 + bz (tkV (gr T c).1 c = 1)) else gr T c
theorem gr_no {T : TS} {c : Nat} (h : ¬ ((gr T c).1 (7 + 8 * c) 2 = 0 ∧ 0 < (gr T c).1 (7 + 8 * c) 0)) : gr T (c + 1) = gr T c := by rw [gr, if_neg h]
theorem gr_yes {T : TS} {c : Nat} (h : (gr T c).1 (7 + 8 * c) 2 = 0 ∧ 0 < (gr T c).1 (7 + 8 * c) 0) : gr T (c + 1) = (tkT (gr T c).1 c, (gr T c).2 + bz (tkV (gr T c).1 c = 1)) := by rw [gr, if_pos h]
def GRok (T : TS) : Prop := RG T ∧ (0 ≤ T 0 1 ∧ T 0 1 ≤ 6) ∧ (∀ c : Nat, (gr T c).1 0 1 = T 0 1) ∧ ∀ c : Nat, (c : Int) < T 0 1 → RG (gr T c).1 ∧ TKok (gr T c).1 (7 + 8 * c)
noncomputable def grs (T : TS) : Nat → TS × Int
  | 0 => (T, 0)
  | r + 1 => ((gr (grs T r).1 (nc (grs T r).1)).1, (grs T r).2 + (gr (grs T r).1 (nc (grs T r).1)).2)
noncomputable def wal (T : TS) (c : Nat) : Nat → TS
  | 0 => soT T (7 + 8 * c) 8
  | t + 1 => tkT (wal T c t) c
def clP (T : TS) (a b : Nat) : Prop := a ≠ b ∧ T (7 + 8 * a) 2 = 0 ∧ T (7 + 8 * b) 2 = 0 ∧ ∃ d, d < nd T ∧ T (7 + 8 * a + 7) d ≠ -1 ∧ T (7 + 8 * b + 5) d ≠ -1
noncomputable def clF (T : TS) (a : Nat) (b : Nat) : Int := bz (clP T a b)
def kpV (T : TS) : Int := if 10 < T 0 2 then 10 else T 0 2
def cfV (T : TS) (b what : Int) : Int := if what = 0 then T 4 b.toNat else if what = 1 then T 5 b.toNat else T 6 b.toNat
noncomputable def loF (T : TS) (c : Nat) : Int := bz (T (7 + 8 * c) 2 = 0 ∧ odP T (7 + 8 * c) (nd T))
noncomputable def dnF (T : TS) (c : Nat) : Int := bz (T (7 + 8 * c) 2 ≠ 0)
def ltF (T : TS) (c : Nat) : Int := T (7 + 8 * c) 3
noncomputable def reF (T : TS) (d : Nat) (c : Nat) : Int := bz (T (7 + 8 * c) 2 = 0 ∧ T (7 + 8 * c + 5) d ≠ -1)
noncomputable def wtF (T : TS) (d : Nat) (c : Nat) : Int := bz (T (7 + 8 * c) 2 = 0 ∧ T (7 + 8 * c + 7) d ≠ -1)
noncomputable def cnV (T : TS) (what : Int) : Int := if what = 0 then T 0 0 else if what = 1 then T 0 1 else if what = 2 then sm (nc T) (dnF T) else if what = 3 then T 0 2 else if what = 4 then sm (nc T) (ltF T) else if what = 5 then sm (nd T) (T 1) else sm (nc T) (loF T)
noncomputable def drV (T : TS) (d what : Int) : Int := if what = 0 then T 1 d.toNat else if what = 1 then T 2 d.toNat else if what = 2 then sm (nc T) (reF T d.toNat) else sm (nc T) (wtF T d.toNat)
noncomputable def ckV (T : TS) (c what : Int) : Int := if what = 0 then T (7 + 8 * c.toNat) 0 else if what = 1 then T (7 + 8 * c.toNat) 1 else if what = 2 then bz (T (7 + 8 * c.toNat) 2 ≠ 0) else if what = 3 then T (7 + 8 * c.toNat) 3 else if what = 4 then sm 8 (rmF T (7 + 8 * c.toNat)) else if what = 5 then sm 8 (wrF T (7 + 8 * c.toNat)) else loF T c.toNat
def bs0 (T T0 : TS) : TS := pt (pt (pt T 0 0 (T0 0 0)) 0 1 (T0 0 1)) 0 2 (T0 0 2)
def bs1 (T T0 : TS) (i : Nat) : TS := fun a b => if (a = 1 ∨ a = 2) ∧ b < i then T0 a b else T a b
def bsC (T T0 : TS) : Nat → TS
  | 0 => T
  | c + 1 => bcT (bsC T T0 c) T0 (7 + 8 * c) 8 8
def bs3 (T T0 : TS) (i : Nat) : TS := fun a b => if (a = 4 ∨ a = 5 ∨ a = 6) ∧ b < i then T0 a b else T a b
def beT (T T0 : TS) : TS := bs3 (bsC (bs1 (bs0 T T0) T0 8) T0 (nc T0)) T0 10
theorem bs1_ne {T T0 : TS} {i a b : Nat} (h1 : a ≠ 1) (h2 : a ≠ 2) : bs1 T T0 i a b = T a b := by
  unfold bs1
  rw [if_neg (by omega)]
theorem bcT_ne {T T0 : TS} {q s d a b : Nat} (h : a < q ∨ q + 7 < a) : bcT T T0 q s d a b = T a b := by
  unfold bcT
  rw [if_neg (by omega), if_neg (by omega), if_neg (by omega)]
theorem bsC_ne {T T0 : TS} {a b : Nat} (h : a < 7) : ∀ n : Nat, bsC T T0 n a b = T a b
  | 0 => rfl
  | n + 1 => by
    show bcT (bsC T T0 n) T0 (7 + 8 * n) 8 8 a b = T a b
    rw [bcT_ne (by omega), bsC_ne h n]
set_option maxHeartbeats 4000000 in
set_option maxRecDepth 100000 in
theorem m_sumLost (l : Launch) {g : GT} {ad : Nat → Nat} {P : Nat → TS} {k : Nat} (hk : k < 2) (T : TS) (hT : RG T) (hc0 : 0 ≤ T 0 1) (hc6 : T 0 1 ≤ 6) : MI l yX1_sumLost cX1_sumLost 3 .int (rmN 0) g [.ref (ad (ix k 0))] (SW g ad P k T) (fun z ws9 => z = sm (nc T) (ltF T) ∧ ws9 = SW g ad P k T) := by
  refine MI.of (own := RX1) (by decide) rfl (Nat.le_of_ble_eq_true rfl) (fun x hx hE => ?_)
  have hnc : ((nc T : Nat) : Int) = T 0 1 := Int.toNat_of_nonneg (by omega)
  refine V_lv (lv' := [(0, .ref (ad (ix k 0)))]) rfl ?_
  refine V_iconst hx dX1_sumLost_0 ?_
  refine V_istore_n hx dX1_sumLost_1 [(1, .int (iZ (0))), (0, .ref (ad (ix k 0)))] (by decide) rfl ?_
  refine V_iconst hx dX1_sumLost_2 ?_
  refine V_istore_n hx dX1_sumLost_3 [(2, .int (iZ (0))), (1, .int (iZ (0))), (0, .ref (ad (ix k 0)))] (by decide) rfl ?_
  have hL4 : ∀ (n : Nat) (i : Nat), nc T < i + n → i ≤ nc T → V x 0 0 (SW g ad P k T) 4 [(2, .int (iZ ((i : Int)))), (1, .int (iZ (sm i (ltF T)))), (0, .ref (ad (ix k 0)))] [] := by
    intro n
    induction n with
    | zero =>
      intro i g1 g2 
      exact absurd g1 (by omega)
    | succ n ih =>
      intro i g1 g2 
      refine V_iload_n hx dX1_sumLost_4 0 rfl ?_
      refine V_aload_n hx dX1_sumLost_5 2 rfl ?_
      refine gf_X1_38 hx (ix k 0) (SW_shop hk) rfl dX1_sumLost_6 ?_
      refine V_icmp_ge hx dX1_sumLost_9 30 (by decide) ⟨by omega, by omega⟩ (by first | assumption | exact hT _ _ | exact ⟨by omega, by omega⟩) (fun h9 => ?_) (fun h9 => ?_)
      · refine V_iload_n hx dX1_sumLost_30 1 rfl ?_
        exact hE _ _ _ _ dX1_sumLost_31 rfl ⟨by rw [show i = nc T by omega], rfl⟩
      · refine V_iload_n hx dX1_sumLost_12 1 rfl ?_
        refine V_aload_n hx dX1_sumLost_13 2 rfl ?_
        refine gf_X1_24 hx (ix k 0) (SW_shop hk) rfl dX1_sumLost_14 ?_
        refine V_iload_n hx dX1_sumLost_17 0 rfl ?_
        refine V_aald hx (by omega) (by omega) (by decide) (ix k 3) (SW_refs hk) (r := ad (ix k (7 + 8 * i))) rfl dX1_sumLost_18 ?_
        refine gf_X1_72 hx (ix k (7 + 8 * i)) (SW_clk hk (isQ_c (by omega))) rfl dX1_sumLost_19 ?_
        refine V_iadd hx dX1_sumLost_22 ?_
        refine V_istore_n hx dX1_sumLost_23 [(1, .int (iZ ((sm i (ltF T)) + (T (7 + 8 * i) 3)))), (2, .int (iZ ((i : Int)))), (0, .ref (ad (ix k 0)))] (by decide) rfl ?_
        refine V_iincN hx dX1_sumLost_24 1 rfl [(2, .int (iZ (((i + 1 : Nat) : Int)))), (1, .int (iZ ((sm i (ltF T)) + (T (7 + 8 * i) 3)))), (0, .ref (ad (ix k 0)))] (by decide) rfl ?_
        refine V_goto hx dX1_sumLost_27 4 (by decide) ?_
        refine V_sub (lv' := [(2, .int (iZ (((i + 1 : Nat) : Int)))), (1, .int (iZ ((sm i (ltF T)) + (T (7 + 8 * i) 3)))), (0, .ref (ad (ix k 0)))]) [0, 1, 2] rfl ?_
        refine V_lv (lv' := [(2, .int (iZ ((i + 1 : Nat) : Int))), (1, .int (iZ (sm (i + 1) (ltF T)))), (0, .ref (ad (ix k 0)))]) rfl ?_
        exact ih (i + 1) (by omega) (by omega)
  refine V_ws (ws' := SW g ad P k T) rfl ?_
  exact V_sub [0, 1, 2] rfl (hL4 (nc T + 1) 0 (by omega) (by omega))
set_option maxHeartbeats 4000000 in
set_option maxRecDepth 100000 in
theorem m_countDone (l : Launch) {g : GT} {ad : Nat → Nat} {P : Nat → TS} {k : Nat} (hk : k < 2) (T : TS) (hT : RG T) (hc0 : 0 ≤ T 0 1) (hc6 : T 0 1 ≤ 6) : MI l yX1_countDone cX1_countDone 3 .int (rmN 0) g [.ref (ad (ix k 0))] (SW g ad P k T) (fun z ws9 => z = sm (nc T) (dnF T) ∧ ws9 = SW g ad P k T) := by
  refine MI.of (own := RX1) (by decide) rfl (Nat.le_of_ble_eq_true rfl) (fun x hx hE => ?_)
  have hnc : ((nc T : Nat) : Int) = T 0 1 := Int.toNat_of_nonneg (by omega)
  refine V_lv (lv' := [(0, .ref (ad (ix k 0)))]) rfl ?_
  refine V_iconst hx dX1_countDone_0 ?_
  refine V_istore_n hx dX1_countDone_1 [(1, .int (iZ (0))), (0, .ref (ad (ix k 0)))] (by decide) rfl ?_
  refine V_iconst hx dX1_countDone_2 ?_
  refine V_istore_n hx dX1_countDone_3 [(2, .int (iZ (0))), (1, .int (iZ (0))), (0, .ref (ad (ix k 0)))] (by decide) rfl ?_
  have hL4 : ∀ (n : Nat) (i : Nat), nc T < i + n → i ≤ nc T → V x 0 0 (SW g ad P k T) 4 [(2, .int (iZ ((i : Int)))), (1, .int (iZ (sm i (dnF T)))), (0, .ref (ad (ix k 0)))] [] := by
    intro n
    induction n with
    | zero =>
      intro i g1 g2 
      exact absurd g1 (by omega)
    | succ n ih =>
      intro i g1 g2 
      refine V_iload_n hx dX1_countDone_4 0 rfl ?_
      refine V_aload_n hx dX1_countDone_5 2 rfl ?_
      refine gf_X1_38 hx (ix k 0) (SW_shop hk) rfl dX1_countDone_6 ?_
      refine V_icmp_ge hx dX1_countDone_9 38 (by decide) ⟨by omega, by omega⟩ (by first | assumption | exact hT _ _ | exact ⟨by omega, by omega⟩) (fun h9 => ?_) (fun h9 => ?_)
      · refine V_iload_n hx dX1_countDone_38 1 rfl ?_
        exact hE _ _ _ _ dX1_countDone_39 rfl ⟨by rw [show i = nc T by omega], rfl⟩
      · refine V_iload_n hx dX1_countDone_12 1 rfl ?_
        refine V_aload_n hx dX1_countDone_13 2 rfl ?_
        refine gf_X1_24 hx (ix k 0) (SW_shop hk) rfl dX1_countDone_14 ?_
        refine V_iload_n hx dX1_countDone_17 0 rfl ?_
        refine V_aald hx (by omega) (by omega) (by decide) (ix k 3) (SW_refs hk) (r := ad (ix k (7 + 8 * i))) rfl dX1_countDone_18 ?_
        refine gf_X1_128 hx (ix k (7 + 8 * i)) (SW_clk hk (isQ_c (by omega))) rfl dX1_countDone_19 ?_
        refine V_if_eq hx dX1_countDone_22 29 (by decide) (by first | assumption | exact hT _ _ | exact ⟨by omega, by omega⟩) (fun h22 => ?_) (fun h22 => ?_)
        · refine V_iconst hx dX1_countDone_29 ?_
          refine V_iadd hx dX1_countDone_30 ?_
          refine V_istore_n hx dX1_countDone_31 [(1, .int (iZ ((sm i (dnF T)) + 0))), (2, .int (iZ ((i : Int)))), (0, .ref (ad (ix k 0)))] (by decide) rfl ?_
          refine V_iincN hx dX1_countDone_32 1 rfl [(2, .int (iZ (((i + 1 : Nat) : Int)))), (1, .int (iZ ((sm i (dnF T)) + 0))), (0, .ref (ad (ix k 0)))] (by decide) rfl ?_
          refine V_goto hx dX1_countDone_35 4 (by decide) ?_
          refine V_sub (lv' := [(2, .int (iZ (((i + 1 : Nat) : Int)))), (1, .int (iZ ((sm i (dnF T)) + 0))), (0, .ref (ad (ix k 0)))]) [0, 1, 2] rfl ?_
          refine V_lv (lv' := [(2, .int (iZ ((i + 1 : Nat) : Int))), (1, .int (iZ (sm (i + 1) (dnF T)))), (0, .ref (ad (ix k 0)))]) (by simp only [sm, dnF, bz_f (show ¬ (T (7 + 8 * i) 2 ≠ 0) from fun h9 => h9 h22)]) ?_
          exact ih (i + 1) (by omega) (by omega)
        · refine V_iconst hx dX1_countDone_25 ?_
          refine V_goto hx dX1_countDone_26 30 (by decide) ?_
          refine V_iadd hx dX1_countDone_30 ?_
          refine V_istore_n hx dX1_countDone_31 [(1, .int (iZ ((sm i (dnF T)) + 1))), (2, .int (iZ ((i : Int)))), (0, .ref (ad (ix k 0)))] (by decide) rfl ?_
          refine V_iincN hx dX1_countDone_32 1 rfl [(2, .int (iZ (((i + 1 : Nat) : Int)))), (1, .int (iZ ((sm i (dnF T)) + 1))), (0, .ref (ad (ix k 0)))] (by decide) rfl ?_
          refine V_goto hx dX1_countDone_35 4 (by decide) ?_
          refine V_sub (lv' := [(2, .int (iZ (((i + 1 : Nat) : Int)))), (1, .int (iZ ((sm i (dnF T)) + 1))), (0, .ref (ad (ix k 0)))]) [0, 1, 2] rfl ?_
          refine V_lv (lv' := [(2, .int (iZ ((i + 1 : Nat) : Int))), (1, .int (iZ (sm (i + 1) (dnF T)))), (0, .ref (ad (ix k 0)))]) (by simp only [sm, dnF, bz_t h22]) ?_
          exact ih (i + 1) (by omega) (by omega)
  refine V_ws (ws' := SW g ad P k T) rfl ?_
  exact V_sub [0, 1, 2] rfl (hL4 (nc T + 1) 0 (by omega) (by omega))
set_option maxHeartbeats 4000000 in
set_option maxRecDepth 100000 in
theorem m_wouldLose (l : Launch) {g : GT} {ad : Nat → Nat} {P : Nat → TS} {k : Nat} (hk : k < 2) (T : TS) (hT : RG T) {q : Nat} (hq : isQ q) (hn0 : 0 ≤ T 0 0) (hn8 : T 0 0 ≤ 8) : MI l yX1_wouldLose cX1_wouldLose 2 .boolean (rmN 2) g [.ref (ad (ix k 0)), .ref (ad (ix k q))] (SW g ad P k T) (fun z ws9 => z = bz (T q 2 = 0 ∧ odP T q (nd T)) ∧ ws9 = SW g ad P k T) := by
  refine MI.of (own := RX1) (by decide) rfl (Nat.le_of_ble_eq_true rfl) (fun x hx hE => ?_)
  have hq7 := hq.1
  have hq8 := hq.2
  refine V_lv (lv' := [(0, .ref (ad (ix k 0))), (1, .ref (ad (ix k q)))]) rfl ?_
  refine V_aload_n hx dX1_wouldLose_0 1 rfl ?_
  refine gf_X1_128 hx (ix k q) (SW_clk hk hq) rfl dX1_wouldLose_1 ?_
  refine V_if_ne hx dX1_wouldLose_4 19 (by decide) (by first | assumption | exact hT _ _ | exact ⟨by omega, by omega⟩) (fun h4 => ?_) (fun h4 => ?_)
  · refine V_iconst hx dX1_wouldLose_19 ?_
    exact hE _ _ _ _ dX1_wouldLose_20 rfl ⟨(bz_f (by first | exact (fun h9 => h12 h9.2) | exact (fun h9 => h4 h9.1))).symm, rfl⟩
  · refine V_aload_n hx dX1_wouldLose_7 0 rfl ?_
    refine V_aload_n hx dX1_wouldLose_8 1 rfl ?_
    refine V_calli hx (m_isOutdated l hk T hT (q := q) hq (by omega) (by omega)) cw_X1_68 (RMn (by decide) (by decide)) rfl (ix k 0) (SW_shop hk) rfl rfl (Nat.le_of_ble_eq_true rfl) dX1_wouldLose_9 0 0 rfl rfl (fun z1 ws1 e1 => ?_)
    obtain ⟨rfl, rfl⟩ := e1
    refine V_ifb_eq hx dX1_wouldLose_12 19 (by decide) (fun h12 => ?_) (fun h12 => ?_)
    · refine V_iconst hx dX1_wouldLose_19 ?_
      exact hE _ _ _ _ dX1_wouldLose_20 rfl ⟨(bz_f (by first | exact (fun h9 => h12 h9.2) | exact (fun h9 => h4 h9.1))).symm, rfl⟩
    · refine V_iconst hx dX1_wouldLose_15 ?_
      refine V_goto hx dX1_wouldLose_16 20 (by decide) ?_
      exact hE _ _ _ _ dX1_wouldLose_20 rfl ⟨(bz_t ⟨by omega, h12⟩).symm, rfl⟩
set_option maxHeartbeats 4000000 in
set_option maxRecDepth 100000 in
theorem m_countLosers (l : Launch) {g : GT} {ad : Nat → Nat} {P : Nat → TS} {k : Nat} (hk : k < 2) (T : TS) (hT : RG T) (hn0 : 0 ≤ T 0 0) (hn8 : T 0 0 ≤ 8) (hc0 : 0 ≤ T 0 1) (hc6 : T 0 1 ≤ 6) : MI l yX1_countLosers cX1_countLosers 3 .int (rmN 3) g [.ref (ad (ix k 0))] (SW g ad P k T) (fun z ws9 => z = sm (nc T) (loF T) ∧ ws9 = SW g ad P k T) := by
  refine MI.of (own := RX1) (by decide) rfl (Nat.le_of_ble_eq_true rfl) (fun x hx hE => ?_)
  have hnc : ((nc T : Nat) : Int) = T 0 1 := Int.toNat_of_nonneg (by omega)
  refine V_lv (lv' := [(0, .ref (ad (ix k 0)))]) rfl ?_
  refine V_iconst hx dX1_countLosers_0 ?_
  refine V_istore_n hx dX1_countLosers_1 [(1, .int (iZ (0))), (0, .ref (ad (ix k 0)))] (by decide) rfl ?_
  refine V_iconst hx dX1_countLosers_2 ?_
  refine V_istore_n hx dX1_countLosers_3 [(2, .int (iZ (0))), (1, .int (iZ (0))), (0, .ref (ad (ix k 0)))] (by decide) rfl ?_
  have hL4 : ∀ (n : Nat) (i : Nat), nc T < i + n → i ≤ nc T → V x 0 0 (SW g ad P k T) 4 [(2, .int (iZ ((i : Int)))), (1, .int (iZ (sm i (loF T)))), (0, .ref (ad (ix k 0)))] [] := by
    intro n
    induction n with
    | zero =>
      intro i g1 g2 
      exact absurd g1 (by omega)
    | succ n ih =>
      intro i g1 g2 
      refine V_iload_n hx dX1_countLosers_4 0 rfl ?_
      refine V_aload_n hx dX1_countLosers_5 2 rfl ?_
      refine gf_X1_38 hx (ix k 0) (SW_shop hk) rfl dX1_countLosers_6 ?_
      refine V_icmp_ge hx dX1_countLosers_9 39 (by decide) ⟨by omega, by omega⟩ (by first | assumption | exact hT _ _ | exact ⟨by omega, by omega⟩) (fun h9 => ?_) (fun h9 => ?_)
      · refine V_iload_n hx dX1_countLosers_39 1 rfl ?_
        exact hE _ _ _ _ dX1_countLosers_40 rfl ⟨by rw [show i = nc T by omega], rfl⟩
      · refine V_iload_n hx dX1_countLosers_12 1 rfl ?_
        refine V_aload_n hx dX1_countLosers_13 2 rfl ?_
        refine V_aload_n hx dX1_countLosers_14 2 rfl ?_
        refine gf_X1_24 hx (ix k 0) (SW_shop hk) rfl dX1_countLosers_15 ?_
        refine V_iload_n hx dX1_countLosers_18 0 rfl ?_
        refine V_aald hx (by omega) (by omega) (by decide) (ix k 3) (SW_refs hk) (r := ad (ix k (7 + 8 * i))) rfl dX1_countLosers_19 ?_
        refine V_calli hx (m_wouldLose l hk T hT (q := 7 + 8 * i) (isQ_c (by omega)) (by omega) (by omega)) cw_X1_167 (RMn (by decide) (by decide)) rfl (ix k 0) (SW_shop hk) rfl rfl (Nat.le_of_ble_eq_true rfl) dX1_countLosers_20 0 0 rfl rfl (fun z1 ws1 e1 => ?_)
        obtain ⟨rfl, rfl⟩ := e1
        refine V_ifb_eq hx dX1_countLosers_23 30 (by decide) (fun h23 => ?_) (fun h23 => ?_)
        · refine V_iconst hx dX1_countLosers_30 ?_
          refine V_iadd hx dX1_countLosers_31 ?_
          refine V_istore_n hx dX1_countLosers_32 [(1, .int (iZ ((sm i (loF T)) + 0))), (2, .int (iZ ((i : Int)))), (0, .ref (ad (ix k 0)))] (by decide) rfl ?_
          refine V_iincN hx dX1_countLosers_33 1 rfl [(2, .int (iZ (((i + 1 : Nat) : Int)))), (1, .int (iZ ((sm i (loF T)) + 0))), (0, .ref (ad (ix k 0)))] (by decide) rfl ?_
          refine V_goto hx dX1_countLosers_36 4 (by decide) ?_
          refine V_sub (lv' := [(2, .int (iZ (((i + 1 : Nat) : Int)))), (1, .int (iZ ((sm i (loF T)) + 0))), (0, .ref (ad (ix k 0)))]) [0, 1, 2] rfl ?_
          refine V_lv (lv' := [(2, .int (iZ ((i + 1 : Nat) : Int))), (1, .int (iZ (sm (i + 1) (loF T)))), (0, .ref (ad (ix k 0)))]) (by simp only [sm, loF, bz_f h23]) ?_
          exact ih (i + 1) (by omega) (by omega)
        · refine V_iconst hx dX1_countLosers_26 ?_
          refine V_goto hx dX1_countLosers_27 31 (by decide) ?_
          refine V_iadd hx dX1_countLosers_31 ?_
          refine V_istore_n hx dX1_countLosers_32 [(1, .int (iZ ((sm i (loF T)) + 1))), (2, .int (iZ ((i : Int)))), (0, .ref (ad (ix k 0)))] (by decide) rfl ?_
          refine V_iincN hx dX1_countLosers_33 1 rfl [(2, .int (iZ (((i + 1 : Nat) : Int)))), (1, .int (iZ ((sm i (loF T)) + 1))), (0, .ref (ad (ix k 0)))] (by decide) rfl ?_
          refine V_goto hx dX1_countLosers_36 4 (by decide) ?_
          refine V_sub (lv' := [(2, .int (iZ (((i + 1 : Nat) : Int)))), (1, .int (iZ ((sm i (loF T)) + 1))), (0, .ref (ad (ix k 0)))]) [0, 1, 2] rfl ?_
          refine V_lv (lv' := [(2, .int (iZ ((i + 1 : Nat) : Int))), (1, .int (iZ (sm (i + 1) (loF T)))), (0, .ref (ad (ix k 0)))]) (by simp only [sm, loF, bz_t h23]) ?_
          exact ih (i + 1) (by omega) (by omega)
  refine V_ws (ws' := SW g ad P k T) rfl ?_
  exact V_sub [0, 1, 2] rfl (hL4 (nc T + 1) 0 (by omega) (by omega))
set_option maxHeartbeats 4000000 in
set_option maxRecDepth 100000 in
theorem m_countRememberers (l : Launch) {g : GT} {ad : Nat → Nat} {P : Nat → TS} {k : Nat} (hk : k < 2) (T : TS) (hT : RG T) (hc0 : 0 ≤ T 0 1) (hc6 : T 0 1 ≤ 6) {d : Int} (hd0 : 0 ≤ d) (hd8 : d < 8) : MI l yX1_countRememberers cX1_countRememberers 4 .int (rmN 1) g [.ref (ad (ix k 0)), .int (iZ (d))] (SW g ad P k T) (fun z ws9 => z = sm (nc T) (reF T d.toNat) ∧ ws9 = SW g ad P k T) := by
  refine MI.of (own := RX1) (by decide) rfl (Nat.le_of_ble_eq_true rfl) (fun x hx hE => ?_)
  have hnc : ((nc T : Nat) : Int) = T 0 1 := Int.toNat_of_nonneg (by omega)
  refine V_lv (lv' := [(0, .ref (ad (ix k 0))), (1, .int (iZ (d)))]) rfl ?_
  refine V_iconst hx dX1_countRememberers_0 ?_
  refine V_istore_n hx dX1_countRememberers_1 [(2, .int (iZ (0))), (0, .ref (ad (ix k 0))), (1, .int (iZ (d)))] (by decide) rfl ?_
  refine V_iconst hx dX1_countRememberers_2 ?_
  refine V_istore_n hx dX1_countRememberers_3 [(3, .int (iZ (0))), (2, .int (iZ (0))), (0, .ref (ad (ix k 0))), (1, .int (iZ (d)))] (by decide) rfl ?_
  have hL4 : ∀ (n : Nat) (i : Nat), nc T < i + n → i ≤ nc T → V x 0 0 (SW g ad P k T) 4 [(3, .int (iZ ((i : Int)))), (2, .int (iZ (sm i (reF T d.toNat)))), (0, .ref (ad (ix k 0))), (1, .int (iZ (d)))] [] := by
    intro n
    induction n with
    | zero =>
      intro i g1 g2 
      exact absurd g1 (by omega)
    | succ n ih =>
      intro i g1 g2 
      refine V_iload_n hx dX1_countRememberers_4 0 rfl ?_
      refine V_aload_n hx dX1_countRememberers_5 2 rfl ?_
      refine gf_X1_38 hx (ix k 0) (SW_shop hk) rfl dX1_countRememberers_6 ?_
      refine V_icmp_ge hx dX1_countRememberers_9 51 (by decide) ⟨by omega, by omega⟩ (by first | assumption | exact hT _ _ | exact ⟨by omega, by omega⟩) (fun h9 => ?_) (fun h9 => ?_)
      · refine V_iload_n hx dX1_countRememberers_51 1 rfl ?_
        exact hE _ _ _ _ dX1_countRememberers_52 rfl ⟨by rw [show i = nc T by omega], rfl⟩
      · refine V_iload_n hx dX1_countRememberers_12 1 rfl ?_
        refine V_aload_n hx dX1_countRememberers_13 2 rfl ?_
        refine gf_X1_24 hx (ix k 0) (SW_shop hk) rfl dX1_countRememberers_14 ?_
        refine V_iload_n hx dX1_countRememberers_17 0 rfl ?_
        refine V_aald hx (by omega) (by omega) (by decide) (ix k 3) (SW_refs hk) (r := ad (ix k (7 + 8 * i))) rfl dX1_countRememberers_18 ?_
        refine gf_X1_128 hx (ix k (7 + 8 * i)) (SW_clk hk (isQ_c (by omega))) rfl dX1_countRememberers_19 ?_
        refine V_if_ne hx dX1_countRememberers_22 42 (by decide) (by first | assumption | exact hT _ _ | exact ⟨by omega, by omega⟩) (fun h22 => ?_) (fun h22 => ?_)
        · refine V_iconst hx dX1_countRememberers_42 ?_
          refine V_iadd hx dX1_countRememberers_43 ?_
          refine V_istore_n hx dX1_countRememberers_44 [(2, .int (iZ ((sm i (reF T d.toNat)) + 0))), (3, .int (iZ ((i : Int)))), (0, .ref (ad (ix k 0))), (1, .int (iZ (d)))] (by decide) rfl ?_
          refine V_iincN hx dX1_countRememberers_45 1 rfl [(3, .int (iZ (((i + 1 : Nat) : Int)))), (2, .int (iZ ((sm i (reF T d.toNat)) + 0))), (0, .ref (ad (ix k 0))), (1, .int (iZ (d)))] (by decide) rfl ?_
          refine V_goto hx dX1_countRememberers_48 4 (by decide) ?_
          refine V_sub (lv' := [(3, .int (iZ (((i + 1 : Nat) : Int)))), (2, .int (iZ ((sm i (reF T d.toNat)) + 0))), (0, .ref (ad (ix k 0))), (1, .int (iZ (d)))]) [0, 1, 2, 3] rfl ?_
          refine V_lv (lv' := [(3, .int (iZ ((i + 1 : Nat) : Int))), (2, .int (iZ (sm (i + 1) (reF T d.toNat)))), (0, .ref (ad (ix k 0))), (1, .int (iZ (d)))]) (by first | simp only [sm, reF, bz_f (fun h9 : _ ∧ _ => h35 h9.2)] | simp only [sm, reF, bz_f (fun h9 : _ ∧ _ => h22 h9.1)]) ?_
          exact ih (i + 1) (by omega) (by omega)
        · refine V_aload_n hx dX1_countRememberers_25 2 rfl ?_
          refine gf_X1_24 hx (ix k 0) (SW_shop hk) rfl dX1_countRememberers_26 ?_
          refine V_iload_n hx dX1_countRememberers_29 0 rfl ?_
          refine V_aald hx (by omega) (by omega) (by decide) (ix k 3) (SW_refs hk) (r := ad (ix k (7 + 8 * i))) rfl dX1_countRememberers_30 ?_
          refine V_iload_n hx dX1_countRememberers_31 3 rfl ?_
          refine V_callNi hx (m_remembers l hk T hT (q := 7 + 8 * i) (isQ_c (by omega)) (d := d) (by omega) (by omega)) cw_X1_113 (RMn (by decide) (by decide)) rfl (ix k (7 + 8 * i)) (SW_clk hk (isQ_c (by omega))) rfl rfl (Nat.le_of_ble_eq_true rfl) dX1_countRememberers_32 0 0 rfl rfl (fun z1 ws1 e1 => ?_)
          obtain ⟨rfl, rfl⟩ := e1
          refine V_ifb_eq hx dX1_countRememberers_35 42 (by decide) (fun h35 => ?_) (fun h35 => ?_)
          · refine V_iconst hx dX1_countRememberers_42 ?_
            refine V_iadd hx dX1_countRememberers_43 ?_
            refine V_istore_n hx dX1_countRememberers_44 [(2, .int (iZ ((sm i (reF T d.toNat)) + 0))), (3, .int (iZ ((i : Int)))), (0, .ref (ad (ix k 0))), (1, .int (iZ (d)))] (by decide) rfl ?_
            refine V_iincN hx dX1_countRememberers_45 1 rfl [(3, .int (iZ (((i + 1 : Nat) : Int)))), (2, .int (iZ ((sm i (reF T d.toNat)) + 0))), (0, .ref (ad (ix k 0))), (1, .int (iZ (d)))] (by decide) rfl ?_
            refine V_goto hx dX1_countRememberers_48 4 (by decide) ?_
            refine V_sub (lv' := [(3, .int (iZ (((i + 1 : Nat) : Int)))), (2, .int (iZ ((sm i (reF T d.toNat)) + 0))), (0, .ref (ad (ix k 0))), (1, .int (iZ (d)))]) [0, 1, 2, 3] rfl ?_
            refine V_lv (lv' := [(3, .int (iZ ((i + 1 : Nat) : Int))), (2, .int (iZ (sm (i + 1) (reF T d.toNat)))), (0, .ref (ad (ix k 0))), (1, .int (iZ (d)))]) (by first | simp only [sm, reF, bz_f (fun h9 : _ ∧ _ => h35 h9.2)] | simp only [sm, reF, bz_f (fun h9 : _ ∧ _ => h22 h9.1)]) ?_
            exact ih (i + 1) (by omega) (by omega)
          · refine V_iconst hx dX1_countRememberers_38 ?_
            refine V_goto hx dX1_countRememberers_39 43 (by decide) ?_
            refine V_iadd hx dX1_countRememberers_43 ?_
            refine V_istore_n hx dX1_countRememberers_44 [(2, .int (iZ ((sm i (reF T d.toNat)) + 1))), (3, .int (iZ ((i : Int)))), (0, .ref (ad (ix k 0))), (1, .int (iZ (d)))] (by decide) rfl ?_
            refine V_iincN hx dX1_countRememberers_45 1 rfl [(3, .int (iZ (((i + 1 : Nat) : Int)))), (2, .int (iZ ((sm i (reF T d.toNat)) + 1))), (0, .ref (ad (ix k 0))), (1, .int (iZ (d)))] (by decide) rfl ?_
            refine V_goto hx dX1_countRememberers_48 4 (by decide) ?_
            refine V_sub (lv' := [(3, .int (iZ (((i + 1 : Nat) : Int)))), (2, .int (iZ ((sm i (reF T d.toNat)) + 1))), (0, .ref (ad (ix k 0))), (1, .int (iZ (d)))]) [0, 1, 2, 3] rfl ?_
            refine V_lv (lv' := [(3, .int (iZ ((i + 1 : Nat) : Int))), (2, .int (iZ (sm (i + 1) (reF T d.toNat)))), (0, .ref (ad (ix k 0))), (1, .int (iZ (d)))]) (by simp only [sm, reF, bz_t (And.intro h22 h35)]) ?_
            exact ih (i + 1) (by omega) (by omega)
  refine V_ws (ws' := SW g ad P k T) rfl ?_
  exact V_sub [0, 1, 2, 3] rfl (hL4 (nc T + 1) 0 (by omega) (by omega))
set_option maxHeartbeats 4000000 in
set_option maxRecDepth 100000 in
theorem m_countWriters (l : Launch) {g : GT} {ad : Nat → Nat} {P : Nat → TS} {k : Nat} (hk : k < 2) (T : TS) (hT : RG T) (hc0 : 0 ≤ T 0 1) (hc6 : T 0 1 ≤ 6) {d : Int} (hd0 : 0 ≤ d) (hd8 : d < 8) : MI l yX1_countWriters cX1_countWriters 4 .int (rmN 1) g [.ref (ad (ix k 0)), .int (iZ (d))] (SW g ad P k T) (fun z ws9 => z = sm (nc T) (wtF T d.toNat) ∧ ws9 = SW g ad P k T) := by
  refine MI.of (own := RX1) (by decide) rfl (Nat.le_of_ble_eq_true rfl) (fun x hx hE => ?_)
  have hnc : ((nc T : Nat) : Int) = T 0 1 := Int.toNat_of_nonneg (by omega)
  refine V_lv (lv' := [(0, .ref (ad (ix k 0))), (1, .int (iZ (d)))]) rfl ?_
  refine V_iconst hx dX1_countWriters_0 ?_
  refine V_istore_n hx dX1_countWriters_1 [(2, .int (iZ (0))), (0, .ref (ad (ix k 0))), (1, .int (iZ (d)))] (by decide) rfl ?_
  refine V_iconst hx dX1_countWriters_2 ?_
  refine V_istore_n hx dX1_countWriters_3 [(3, .int (iZ (0))), (2, .int (iZ (0))), (0, .ref (ad (ix k 0))), (1, .int (iZ (d)))] (by decide) rfl ?_
  have hL4 : ∀ (n : Nat) (i : Nat), nc T < i + n → i ≤ nc T → V x 0 0 (SW g ad P k T) 4 [(3, .int (iZ ((i : Int)))), (2, .int (iZ (sm i (wtF T d.toNat)))), (0, .ref (ad (ix k 0))), (1, .int (iZ (d)))] [] := by
    intro n
    induction n with
    | zero =>
      intro i g1 g2 
      exact absurd g1 (by omega)
    | succ n ih =>
      intro i g1 g2 
      refine V_iload_n hx dX1_countWriters_4 0 rfl ?_
      refine V_aload_n hx dX1_countWriters_5 2 rfl ?_
      refine gf_X1_38 hx (ix k 0) (SW_shop hk) rfl dX1_countWriters_6 ?_
      refine V_icmp_ge hx dX1_countWriters_9 51 (by decide) ⟨by omega, by omega⟩ (by first | assumption | exact hT _ _ | exact ⟨by omega, by omega⟩) (fun h9 => ?_) (fun h9 => ?_)
      · refine V_iload_n hx dX1_countWriters_51 1 rfl ?_
        exact hE _ _ _ _ dX1_countWriters_52 rfl ⟨by rw [show i = nc T by omega], rfl⟩
      · refine V_iload_n hx dX1_countWriters_12 1 rfl ?_
        refine V_aload_n hx dX1_countWriters_13 2 rfl ?_
        refine gf_X1_24 hx (ix k 0) (SW_shop hk) rfl dX1_countWriters_14 ?_
        refine V_iload_n hx dX1_countWriters_17 0 rfl ?_
        refine V_aald hx (by omega) (by omega) (by decide) (ix k 3) (SW_refs hk) (r := ad (ix k (7 + 8 * i))) rfl dX1_countWriters_18 ?_
        refine gf_X1_128 hx (ix k (7 + 8 * i)) (SW_clk hk (isQ_c (by omega))) rfl dX1_countWriters_19 ?_
        refine V_if_ne hx dX1_countWriters_22 42 (by decide) (by first | assumption | exact hT _ _ | exact ⟨by omega, by omega⟩) (fun h22 => ?_) (fun h22 => ?_)
        · refine V_iconst hx dX1_countWriters_42 ?_
          refine V_iadd hx dX1_countWriters_43 ?_
          refine V_istore_n hx dX1_countWriters_44 [(2, .int (iZ ((sm i (wtF T d.toNat)) + 0))), (3, .int (iZ ((i : Int)))), (0, .ref (ad (ix k 0))), (1, .int (iZ (d)))] (by decide) rfl ?_
          refine V_iincN hx dX1_countWriters_45 1 rfl [(3, .int (iZ (((i + 1 : Nat) : Int)))), (2, .int (iZ ((sm i (wtF T d.toNat)) + 0))), (0, .ref (ad (ix k 0))), (1, .int (iZ (d)))] (by decide) rfl ?_
          refine V_goto hx dX1_countWriters_48 4 (by decide) ?_
          refine V_sub (lv' := [(3, .int (iZ (((i + 1 : Nat) : Int)))), (2, .int (iZ ((sm i (wtF T d.toNat)) + 0))), (0, .ref (ad (ix k 0))), (1, .int (iZ (d)))]) [0, 1, 2, 3] rfl ?_
          refine V_lv (lv' := [(3, .int (iZ ((i + 1 : Nat) : Int))), (2, .int (iZ (sm (i + 1) (wtF T d.toNat)))), (0, .ref (ad (ix k 0))), (1, .int (iZ (d)))]) (by first | simp only [sm, wtF, bz_f (fun h9 : _ ∧ _ => h35 h9.2)] | simp only [sm, wtF, bz_f (fun h9 : _ ∧ _ => h22 h9.1)]) ?_
          exact ih (i + 1) (by omega) (by omega)
        · refine V_aload_n hx dX1_countWriters_25 2 rfl ?_
          refine gf_X1_24 hx (ix k 0) (SW_shop hk) rfl dX1_countWriters_26 ?_
          refine V_iload_n hx dX1_countWriters_29 0 rfl ?_
          refine V_aald hx (by omega) (by omega) (by decide) (ix k 3) (SW_refs hk) (r := ad (ix k (7 + 8 * i))) rfl dX1_countWriters_30 ?_
          refine V_iload_n hx dX1_countWriters_31 3 rfl ?_
          refine V_callNi hx (m_hasWritten l hk T hT (q := 7 + 8 * i) (isQ_c (by omega)) (d := d) (by omega) (by omega)) cw_X1_109 (RMn (by decide) (by decide)) rfl (ix k (7 + 8 * i)) (SW_clk hk (isQ_c (by omega))) rfl rfl (Nat.le_of_ble_eq_true rfl) dX1_countWriters_32 0 0 rfl rfl (fun z1 ws1 e1 => ?_)
          obtain ⟨rfl, rfl⟩ := e1
          refine V_ifb_eq hx dX1_countWriters_35 42 (by decide) (fun h35 => ?_) (fun h35 => ?_)
          · refine V_iconst hx dX1_countWriters_42 ?_
            refine V_iadd hx dX1_countWriters_43 ?_
            refine V_istore_n hx dX1_countWriters_44 [(2, .int (iZ ((sm i (wtF T d.toNat)) + 0))), (3, .int (iZ ((i : Int)))), (0, .ref (ad (ix k 0))), (1, .int (iZ (d)))] (by decide) rfl ?_
            refine V_iincN hx dX1_countWriters_45 1 rfl [(3, .int (iZ (((i + 1 : Nat) : Int)))), (2, .int (iZ ((sm i (wtF T d.toNat)) + 0))), (0, .ref (ad (ix k 0))), (1, .int (iZ (d)))] (by decide) rfl ?_
            refine V_goto hx dX1_countWriters_48 4 (by decide) ?_
            refine V_sub (lv' := [(3, .int (iZ (((i + 1 : Nat) : Int)))), (2, .int (iZ ((sm i (wtF T d.toNat)) + 0))), (0, .ref (ad (ix k 0))), (1, .int (iZ (d)))]) [0, 1, 2, 3] rfl ?_
            refine V_lv (lv' := [(3, .int (iZ ((i + 1 : Nat) : Int))), (2, .int (iZ (sm (i + 1) (wtF T d.toNat)))), (0, .ref (ad (ix k 0))), (1, .int (iZ (d)))]) (by first | simp only [sm, wtF, bz_f (fun h9 : _ ∧ _ => h35 h9.2)] | simp only [sm, wtF, bz_f (fun h9 : _ ∧ _ => h22 h9.1)]) ?_
            exact ih (i + 1) (by omega) (by omega)
          · refine V_iconst hx dX1_countWriters_38 ?_
            refine V_goto hx dX1_countWriters_39 43 (by decide) ?_
            refine V_iadd hx dX1_countWriters_43 ?_
            refine V_istore_n hx dX1_countWriters_44 [(2, .int (iZ ((sm i (wtF T d.toNat)) + 1))), (3, .int (iZ ((i : Int)))), (0, .ref (ad (ix k 0))), (1, .int (iZ (d)))] (by decide) rfl ?_
            refine V_iincN hx dX1_countWriters_45 1 rfl [(3, .int (iZ (((i + 1 : Nat) : Int)))), (2, .int (iZ ((sm i (wtF T d.toNat)) + 1))), (0, .ref (ad (ix k 0))), (1, .int (iZ (d)))] (by decide) rfl ?_
            refine V_goto hx dX1_countWriters_48 4 (by decide) ?_
            refine V_sub (lv' := [(3, .int (iZ (((i + 1 : Nat) : Int)))), (2, .int (iZ ((sm i (wtF T d.toNat)) + 1))), (0, .ref (ad (ix k 0))), (1, .int (iZ (d)))]) [0, 1, 2, 3] rfl ?_
            refine V_lv (lv' := [(3, .int (iZ ((i + 1 : Nat) : Int))), (2, .int (iZ (sm (i + 1) (wtF T d.toNat)))), (0, .ref (ad (ix k 0))), (1, .int (iZ (d)))]) (by simp only [sm, wtF, bz_t (And.intro h22 h35)]) ?_
            exact ih (i + 1) (by omega) (by omega)
  refine V_ws (ws' := SW g ad P k T) rfl ?_
  exact V_sub [0, 1, 2, 3] rfl (hL4 (nc T + 1) 0 (by omega) (by omega))
set_option maxHeartbeats 4000000 in
set_option maxRecDepth 100000 in
theorem m_kept (l : Launch) {g : GT} {ad : Nat → Nat} {P : Nat → TS} {k : Nat} (hk : k < 2) (T : TS) (hT : RG T) : MI l yX1_closingsKept cX1_closingsKept 1 .int (rmN 1) g [.ref (ad (ix k 0))] (SW g ad P k T) (fun z ws9 => z = kpV T ∧ ws9 = SW g ad P k T) := by
  refine MI.of (own := RX1) (by decide) rfl (Nat.le_of_ble_eq_true rfl) (fun x hx hE => ?_)
  refine V_lv (lv' := [(0, .ref (ad (ix k 0)))]) rfl ?_
  refine V_aload_n hx dX1_closingsKept_0 0 rfl ?_
  refine gf_X1_41 hx (ix k 0) (SW_shop hk) rfl dX1_closingsKept_1 ?_
  refine V_bipush hx dX1_closingsKept_4 rfl ?_
  refine V_min hx qm1 qm2 q12 qm3 (by first | assumption | exact hT _ _ | exact ⟨by omega, by omega⟩) ⟨by decide, by decide⟩ (by decide) (Nat.le_of_ble_eq_true rfl) (Nat.zero_le _) (Nat.zero_le _) dX1_closingsKept_6 ?_
  exact hE _ _ _ _ dX1_closingsKept_9 rfl ⟨rfl, rfl⟩
set_option maxHeartbeats 4000000 in
set_option maxRecDepth 100000 in
theorem m_closingFact (l : Launch) {g : GT} {ad : Nat → Nat} {P : Nat → TS} {k : Nat} (hk : k < 2) (T : TS) (hT : RG T) {b : Int} (hb0 : 0 ≤ b) (hb9 : b < 10) {what : Int} (hw0 : 0 ≤ what) (hw9 : what < 2147483648) : MI l yX1_closingFact cX1_closingFact 3 .int (rmN 0) g [.ref (ad (ix k 0)), .int (iZ (b)), .int (iZ (what))] (SW g ad P k T) (fun z ws9 => z = cfV T b what ∧ ws9 = SW g ad P k T) := by
  refine MI.of (own := RX1) (by decide) rfl (Nat.le_of_ble_eq_true rfl) (fun x hx hE => ?_)
  refine V_lv (lv' := [(0, .ref (ad (ix k 0))), (1, .int (iZ (b))), (2, .int (iZ (what)))]) rfl ?_
  refine V_iload_n hx dX1_closingFact_0 2 rfl ?_
  by_cases h1_0 : what = 0
  · refine V_lookup hx dX1_closingFact_1 rfl (by first | assumption | exact hT _ _ | exact ⟨by omega, by omega⟩) (off := 27) (by rw [h1_0]; rfl) 28 (by decide) ?_
    refine V_aload_n hx dX1_closingFact_28 0 rfl ?_
    refine gf_X1_29 hx (ix k 0) (SW_shop hk) rfl dX1_closingFact_29 ?_
    refine V_iload_n hx dX1_closingFact_32 1 rfl ?_
    refine V_iald hx (by omega) (by omega) (by decide) (ix k 4) (SW_10 hk (by decide)) (v := T 4 b.toNat) rfl dX1_closingFact_33 ?_
    exact hE _ _ _ _ dX1_closingFact_34 rfl ⟨by unfold cfV; simp [*], rfl⟩
  by_cases h1_1 : what = 1
  · refine V_lookup hx dX1_closingFact_1 rfl (by first | assumption | exact hT _ _ | exact ⟨by omega, by omega⟩) (off := 34) (by rw [h1_1]; rfl) 35 (by decide) ?_
    refine V_aload_n hx dX1_closingFact_35 0 rfl ?_
    refine gf_X1_32 hx (ix k 0) (SW_shop hk) rfl dX1_closingFact_36 ?_
    refine V_iload_n hx dX1_closingFact_39 1 rfl ?_
    refine V_iald hx (by omega) (by omega) (by decide) (ix k 5) (SW_10 hk (by decide)) (v := T 5 b.toNat) rfl dX1_closingFact_40 ?_
    exact hE _ _ _ _ dX1_closingFact_41 rfl ⟨by unfold cfV; simp [*], rfl⟩
  refine V_lookup hx dX1_closingFact_1 rfl (by first | assumption | exact hT _ _ | exact ⟨by omega, by omega⟩) (off := 41) (by simp [Op.lookupswitch.offset, Ne.symm h1_0, Ne.symm h1_1]) 42 (by decide) ?_
  refine V_aload_n hx dX1_closingFact_42 0 rfl ?_
  refine gf_X1_35 hx (ix k 0) (SW_shop hk) rfl dX1_closingFact_43 ?_
  refine V_iload_n hx dX1_closingFact_46 1 rfl ?_
  refine V_iald hx (by omega) (by omega) (by decide) (ix k 6) (SW_10 hk (by decide)) (v := T 6 b.toNat) rfl dX1_closingFact_47 ?_
  exact hE _ _ _ _ dX1_closingFact_48 rfl ⟨by unfold cfV; simp [*], rfl⟩
set_option maxHeartbeats 4000000 in
set_option maxRecDepth 100000 in
theorem m_countFact (l : Launch) {g : GT} {ad : Nat → Nat} {P : Nat → TS} {k : Nat} (hk : k < 2) (T : TS) (hT : RG T) (hn0 : 0 ≤ T 0 0) (hn8 : T 0 0 ≤ 8) (hc0 : 0 ≤ T 0 1) (hc6 : T 0 1 ≤ 6) {what : Int} (hw0 : 0 ≤ what) (hw9 : what < 2147483648) : MI l yX1_countFact cX1_countFact 2 .int (rmN 4) g [.ref (ad (ix k 0)), .int (iZ (what))] (SW g ad P k T) (fun z ws9 => z = cnV T what ∧ ws9 = SW g ad P k T) := by
  refine MI.of (own := RX1) (by decide) rfl (Nat.le_of_ble_eq_true rfl) (fun x hx hE => ?_)
  refine V_lv (lv' := [(0, .ref (ad (ix k 0))), (1, .int (iZ (what)))]) rfl ?_
  refine V_iload_n hx dX1_countFact_0 1 rfl ?_
  by_cases h1_0 : what = 0
  · refine V_tabIn hx dX1_countFact_1 (by first | assumption | exact hT _ _ | exact ⟨by omega, by omega⟩) (by omega) (by omega) (off := 39) (by rw [h1_0]; rfl) 40 (by decide) ?_
    refine V_aload_n hx dX1_countFact_40 0 rfl ?_
    refine gf_X1_9 hx (ix k 0) (SW_shop hk) rfl dX1_countFact_41 ?_
    exact hE _ _ _ _ dX1_countFact_44 rfl ⟨by unfold cnV; simp [*], rfl⟩
  by_cases h1_1 : what = 1
  · refine V_tabIn hx dX1_countFact_1 (by first | assumption | exact hT _ _ | exact ⟨by omega, by omega⟩) (by omega) (by omega) (off := 44) (by rw [h1_1]; rfl) 45 (by decide) ?_
    refine V_aload_n hx dX1_countFact_45 0 rfl ?_
    refine gf_X1_38 hx (ix k 0) (SW_shop hk) rfl dX1_countFact_46 ?_
    exact hE _ _ _ _ dX1_countFact_49 rfl ⟨by unfold cnV; simp [*], rfl⟩
  by_cases h1_2 : what = 2
  · refine V_tabIn hx dX1_countFact_1 (by first | assumption | exact hT _ _ | exact ⟨by omega, by omega⟩) (by omega) (by omega) (off := 49) (by rw [h1_2]; rfl) 50 (by decide) ?_
    refine V_aload_n hx dX1_countFact_50 0 rfl ?_
    refine V_calli hx (m_countDone l hk T hT (by omega) (by omega)) cw_X1_149 (RMn (by decide) (by decide)) rfl (ix k 0) (SW_shop hk) rfl rfl (Nat.le_of_ble_eq_true rfl) dX1_countFact_51 0 0 rfl rfl (fun z1 ws1 e1 => ?_)
    obtain ⟨rfl, rfl⟩ := e1
    exact hE _ _ _ _ dX1_countFact_54 rfl ⟨by unfold cnV; simp [*], rfl⟩
  by_cases h1_3 : what = 3
  · refine V_tabIn hx dX1_countFact_1 (by first | assumption | exact hT _ _ | exact ⟨by omega, by omega⟩) (by omega) (by omega) (off := 54) (by rw [h1_3]; rfl) 55 (by decide) ?_
    refine V_aload_n hx dX1_countFact_55 0 rfl ?_
    refine gf_X1_41 hx (ix k 0) (SW_shop hk) rfl dX1_countFact_56 ?_
    exact hE _ _ _ _ dX1_countFact_59 rfl ⟨by unfold cnV; simp [*], rfl⟩
  by_cases h1_4 : what = 4
  · refine V_tabIn hx dX1_countFact_1 (by first | assumption | exact hT _ _ | exact ⟨by omega, by omega⟩) (by omega) (by omega) (off := 59) (by rw [h1_4]; rfl) 60 (by decide) ?_
    refine V_aload_n hx dX1_countFact_60 0 rfl ?_
    refine V_calli hx (m_sumLost l hk T hT (by omega) (by omega)) cw_X1_152 (RMn (by decide) (by decide)) rfl (ix k 0) (SW_shop hk) rfl rfl (Nat.le_of_ble_eq_true rfl) dX1_countFact_61 0 0 rfl rfl (fun z2 ws2 e2 => ?_)
    obtain ⟨rfl, rfl⟩ := e2
    exact hE _ _ _ _ dX1_countFact_64 rfl ⟨by unfold cnV; simp [*], rfl⟩
  by_cases h1_5 : what = 5
  · refine V_tabIn hx dX1_countFact_1 (by first | assumption | exact hT _ _ | exact ⟨by omega, by omega⟩) (by omega) (by omega) (off := 64) (by rw [h1_5]; rfl) 65 (by decide) ?_
    refine V_aload_n hx dX1_countFact_65 0 rfl ?_
    refine V_calli hx (m_sumAmounts l hk T hT (by first | omega | exact hn0) (by first | omega | exact hn8)) cw_X1_55 (RMn (by decide) (by decide)) rfl (ix k 0) (SW_shop hk) rfl rfl (Nat.le_of_ble_eq_true rfl) dX1_countFact_66 0 0 rfl rfl (fun z3 ws3 e3 => ?_)
    obtain ⟨rfl, rfl⟩ := e3
    exact hE _ _ _ _ dX1_countFact_69 rfl ⟨by unfold cnV; simp [*], rfl⟩
  refine V_tabOut hx dX1_countFact_1 (by first | assumption | exact hT _ _ | exact ⟨by omega, by omega⟩) (by omega) 70 (by decide) ?_
  refine V_aload_n hx dX1_countFact_70 0 rfl ?_
  refine V_calli hx (m_countLosers l hk T hT (by omega) (by omega) (by omega) (by omega)) cw_X1_155 (RMn (by decide) (by decide)) rfl (ix k 0) (SW_shop hk) rfl rfl (Nat.le_of_ble_eq_true rfl) dX1_countFact_71 0 0 rfl rfl (fun z4 ws4 e4 => ?_)
  obtain ⟨rfl, rfl⟩ := e4
  exact hE _ _ _ _ dX1_countFact_74 rfl ⟨by unfold cnV; simp [*], rfl⟩
set_option maxHeartbeats 4000000 in
set_option maxRecDepth 100000 in
theorem m_drawerFact (l : Launch) {g : GT} {ad : Nat → Nat} {P : Nat → TS} {k : Nat} (hk : k < 2) (T : TS) (hT : RG T) (hc0 : 0 ≤ T 0 1) (hc6 : T 0 1 ≤ 6) {d : Int} (hd0 : 0 ≤ d) (hd8 : d < 8) {what : Int} (hw0 : 0 ≤ what) (hw9 : what < 2147483648) : MI l yX1_drawerFact cX1_drawerFact 3 .int (rmN 2) g [.ref (ad (ix k 0)), .int (iZ (d)), .int (iZ (what))] (SW g ad P k T) (fun z ws9 => z = drV T d what ∧ ws9 = SW g ad P k T) := by
  refine MI.of (own := RX1) (by decide) rfl (Nat.le_of_ble_eq_true rfl) (fun x hx hE => ?_)
  refine V_lv (lv' := [(0, .ref (ad (ix k 0))), (1, .int (iZ (d))), (2, .int (iZ (what)))]) rfl ?_
  refine V_iload_n hx dX1_drawerFact_0 2 rfl ?_
  by_cases h1_0 : what = 0
  · refine V_tabIn hx dX1_drawerFact_1 (by first | assumption | exact hT _ _ | exact ⟨by omega, by omega⟩) (by omega) (by omega) (off := 27) (by rw [h1_0]; rfl) 28 (by decide) ?_
    refine V_aload_n hx dX1_drawerFact_28 0 rfl ?_
    refine gf_X1_15 hx (ix k 0) (SW_shop hk) rfl dX1_drawerFact_29 ?_
    refine V_iload_n hx dX1_drawerFact_32 1 rfl ?_
    refine V_iald hx (by omega) (by omega) (by decide) (ix k 1) (SW_8 hk (Or.inl rfl) (by decide)) (v := T 1 d.toNat) rfl dX1_drawerFact_33 ?_
    exact hE _ _ _ _ dX1_drawerFact_34 rfl ⟨by unfold drV; simp [*], rfl⟩
  by_cases h1_1 : what = 1
  · refine V_tabIn hx dX1_drawerFact_1 (by first | assumption | exact hT _ _ | exact ⟨by omega, by omega⟩) (by omega) (by omega) (off := 34) (by rw [h1_1]; rfl) 35 (by decide) ?_
    refine V_aload_n hx dX1_drawerFact_35 0 rfl ?_
    refine gf_X1_19 hx (ix k 0) (SW_shop hk) rfl dX1_drawerFact_36 ?_
    refine V_iload_n hx dX1_drawerFact_39 1 rfl ?_
    refine V_iald hx (by omega) (by omega) (by decide) (ix k 2) (SW_8 hk (Or.inr (Or.inl rfl)) (by decide)) (v := T 2 d.toNat) rfl dX1_drawerFact_40 ?_
    exact hE _ _ _ _ dX1_drawerFact_41 rfl ⟨by unfold drV; simp [*], rfl⟩
  by_cases h1_2 : what = 2
  · refine V_tabIn hx dX1_drawerFact_1 (by first | assumption | exact hT _ _ | exact ⟨by omega, by omega⟩) (by omega) (by omega) (off := 41) (by rw [h1_2]; rfl) 42 (by decide) ?_
    refine V_aload_n hx dX1_drawerFact_42 0 rfl ?_
    refine V_iload_n hx dX1_drawerFact_43 1 rfl ?_
    refine V_calli hx (m_countRememberers l hk T hT (by omega) (by omega) (d := d) (by omega) (by omega)) cw_X1_158 (RMn (by decide) (by decide)) rfl (ix k 0) (SW_shop hk) rfl rfl (Nat.le_of_ble_eq_true rfl) dX1_drawerFact_44 0 0 rfl rfl (fun z1 ws1 e1 => ?_)
    obtain ⟨rfl, rfl⟩ := e1
    exact hE _ _ _ _ dX1_drawerFact_47 rfl ⟨by unfold drV; simp [*], rfl⟩
  refine V_tabOut hx dX1_drawerFact_1 (by first | assumption | exact hT _ _ | exact ⟨by omega, by omega⟩) (by omega) 48 (by decide) ?_
  refine V_aload_n hx dX1_drawerFact_48 0 rfl ?_
  refine V_iload_n hx dX1_drawerFact_49 1 rfl ?_
  refine V_calli hx (m_countWriters l hk T hT (by omega) (by omega) (d := d) (by omega) (by omega)) cw_X1_161 (RMn (by decide) (by decide)) rfl (ix k 0) (SW_shop hk) rfl rfl (Nat.le_of_ble_eq_true rfl) dX1_drawerFact_50 0 0 rfl rfl (fun z2 ws2 e2 => ?_)
  obtain ⟨rfl, rfl⟩ := e2
  exact hE _ _ _ _ dX1_drawerFact_53 rfl ⟨by unfold drV; simp [*], rfl⟩
set_option maxHeartbeats 4000000 in
set_option maxRecDepth 100000 in
theorem m_clerkFact (l : Launch) {g : GT} {ad : Nat → Nat} {P : Nat → TS} {k : Nat} (hk : k < 2) (T : TS) (hT : RG T) (hn0 : 0 ≤ T 0 0) (hn8 : T 0 0 ≤ 8) {c : Int} (ha0 : 0 ≤ c) (ha6 : c < 6) {what : Int} (hw0 : 0 ≤ what) (hw9 : what < 2147483648) : MI l yX1_clerkFact cX1_clerkFact 4 .int (rmN 3) g [.ref (ad (ix k 0)), .int (iZ (c)), .int (iZ (what))] (SW g ad P k T) (fun z ws9 => z = ckV T c what ∧ ws9 = SW g ad P k T) := by
  refine MI.of (own := RX1) (by decide) rfl (Nat.le_of_ble_eq_true rfl) (fun x hx hE => ?_)
  refine V_lv (lv' := [(0, .ref (ad (ix k 0))), (1, .int (iZ (c))), (2, .int (iZ (what)))]) rfl ?_
  refine V_aload_n hx dX1_clerkFact_0 0 rfl ?_
  refine gf_X1_24 hx (ix k 0) (SW_shop hk) rfl dX1_clerkFact_1 ?_
  refine V_iload_n hx dX1_clerkFact_4 1 rfl ?_
  refine V_aald hx (by omega) (by omega) (by decide) (ix k 3) (SW_refs hk) (r := ad (ix k (7 + 8 * c.toNat))) rfl dX1_clerkFact_5 ?_
  refine V_astore_n hx dX1_clerkFact_6 [(3, .ref (ad (ix k (7 + 8 * c.toNat)))), (0, .ref (ad (ix k 0))), (1, .int (iZ (c))), (2, .int (iZ (what)))] (by decide) rfl ?_
  refine V_iload_n hx dX1_clerkFact_7 3 rfl ?_
  by_cases h8_0 : what = 0
  · refine V_tabIn hx dX1_clerkFact_8 (by first | assumption | exact hT _ _ | exact ⟨by omega, by omega⟩) (by omega) (by omega) (off := 40) (by rw [h8_0]; rfl) 48 (by decide) ?_
    refine V_aload_n hx dX1_clerkFact_48 0 rfl ?_
    refine gf_X1_62 hx (ix k (7 + 8 * c.toNat)) (SW_clk hk (isQ_c (by omega))) rfl dX1_clerkFact_49 ?_
    exact hE _ _ _ _ dX1_clerkFact_52 rfl ⟨by unfold ckV; simp only [*]; first | (simp; done) | (simp; exact (bz_t (by first | assumption | omega)).symm) | (simp; exact (bz_f (by first | assumption | omega)).symm) | (unfold loF; simp; exact (bz_t (by first | assumption | omega)).symm) | (unfold loF; simp; exact (bz_f (by first | assumption | omega)).symm), rfl⟩
  by_cases h8_1 : what = 1
  · refine V_tabIn hx dX1_clerkFact_8 (by first | assumption | exact hT _ _ | exact ⟨by omega, by omega⟩) (by omega) (by omega) (off := 45) (by rw [h8_1]; rfl) 53 (by decide) ?_
    refine V_aload_n hx dX1_clerkFact_53 0 rfl ?_
    refine gf_X1_59 hx (ix k (7 + 8 * c.toNat)) (SW_clk hk (isQ_c (by omega))) rfl dX1_clerkFact_54 ?_
    exact hE _ _ _ _ dX1_clerkFact_57 rfl ⟨by unfold ckV; simp only [*]; first | (simp; done) | (simp; exact (bz_t (by first | assumption | omega)).symm) | (simp; exact (bz_f (by first | assumption | omega)).symm) | (unfold loF; simp; exact (bz_t (by first | assumption | omega)).symm) | (unfold loF; simp; exact (bz_f (by first | assumption | omega)).symm), rfl⟩
  by_cases h8_2 : what = 2
  · refine V_tabIn hx dX1_clerkFact_8 (by first | assumption | exact hT _ _ | exact ⟨by omega, by omega⟩) (by omega) (by omega) (off := 50) (by rw [h8_2]; rfl) 58 (by decide) ?_
    refine V_aload_n hx dX1_clerkFact_58 0 rfl ?_
    refine gf_X1_128 hx (ix k (7 + 8 * c.toNat)) (SW_clk hk (isQ_c (by omega))) rfl dX1_clerkFact_59 ?_
    refine V_if_eq hx dX1_clerkFact_62 69 (by decide) (by first | assumption | exact hT _ _ | exact ⟨by omega, by omega⟩) (fun h62 => ?_) (fun h62 => ?_)
    · refine V_iconst hx dX1_clerkFact_69 ?_
      exact hE _ _ _ _ dX1_clerkFact_70 rfl ⟨by unfold ckV; rw [if_neg (by omega), if_neg (by omega), if_pos (by omega)]; first | exact (bz_t h62).symm | exact (bz_f (fun h9 => h9 h62)).symm, rfl⟩
    · refine V_iconst hx dX1_clerkFact_65 ?_
      refine V_goto hx dX1_clerkFact_66 70 (by decide) ?_
      exact hE _ _ _ _ dX1_clerkFact_70 rfl ⟨by unfold ckV; rw [if_neg (by omega), if_neg (by omega), if_pos (by omega)]; first | exact (bz_t h62).symm | exact (bz_f (fun h9 => h9 h62)).symm, rfl⟩
  by_cases h8_3 : what = 3
  · refine V_tabIn hx dX1_clerkFact_8 (by first | assumption | exact hT _ _ | exact ⟨by omega, by omega⟩) (by omega) (by omega) (off := 63) (by rw [h8_3]; rfl) 71 (by decide) ?_
    refine V_aload_n hx dX1_clerkFact_71 0 rfl ?_
    refine gf_X1_72 hx (ix k (7 + 8 * c.toNat)) (SW_clk hk (isQ_c (by omega))) rfl dX1_clerkFact_72 ?_
    exact hE _ _ _ _ dX1_clerkFact_75 rfl ⟨by unfold ckV; simp only [*]; first | (simp; done) | (simp; exact (bz_t (by first | assumption | omega)).symm) | (simp; exact (bz_f (by first | assumption | omega)).symm) | (unfold loF; simp; exact (bz_t (by first | assumption | omega)).symm) | (unfold loF; simp; exact (bz_f (by first | assumption | omega)).symm), rfl⟩
  by_cases h8_4 : what = 4
  · refine V_tabIn hx dX1_clerkFact_8 (by first | assumption | exact hT _ _ | exact ⟨by omega, by omega⟩) (by omega) (by omega) (off := 68) (by rw [h8_4]; rfl) 76 (by decide) ?_
    refine V_aload_n hx dX1_clerkFact_76 0 rfl ?_
    refine V_callNi hx (m_countRemembered l hk T hT (q := 7 + 8 * c.toNat) (isQ_c (by omega))) cw_X1_164 (RMn (by decide) (by decide)) rfl (ix k (7 + 8 * c.toNat)) (SW_clk hk (isQ_c (by omega))) rfl rfl (Nat.le_of_ble_eq_true rfl) dX1_clerkFact_77 0 0 rfl rfl (fun z1 ws1 e1 => ?_)
    obtain ⟨rfl, rfl⟩ := e1
    exact hE _ _ _ _ dX1_clerkFact_80 rfl ⟨by unfold ckV; simp only [*]; first | (simp; done) | (simp; exact (bz_t (by first | assumption | omega)).symm) | (simp; exact (bz_f (by first | assumption | omega)).symm) | (unfold loF; simp; exact (bz_t (by first | assumption | omega)).symm) | (unfold loF; simp; exact (bz_f (by first | assumption | omega)).symm), rfl⟩
  by_cases h8_5 : what = 5
  · refine V_tabIn hx dX1_clerkFact_8 (by first | assumption | exact hT _ _ | exact ⟨by omega, by omega⟩) (by omega) (by omega) (off := 73) (by rw [h8_5]; rfl) 81 (by decide) ?_
    refine V_aload_n hx dX1_clerkFact_81 0 rfl ?_
    refine V_callNi hx (m_countWritten l hk T hT (q := 7 + 8 * c.toNat) (isQ_c (by omega))) cw_X1_132 (RMn (by decide) (by decide)) rfl (ix k (7 + 8 * c.toNat)) (SW_clk hk (isQ_c (by omega))) rfl rfl (Nat.le_of_ble_eq_true rfl) dX1_clerkFact_82 0 0 rfl rfl (fun z2 ws2 e2 => ?_)
    obtain ⟨rfl, rfl⟩ := e2
    exact hE _ _ _ _ dX1_clerkFact_85 rfl ⟨by unfold ckV; simp only [*]; first | (simp; done) | (simp; exact (bz_t (by first | assumption | omega)).symm) | (simp; exact (bz_f (by first | assumption | omega)).symm) | (unfold loF; simp; exact (bz_t (by first | assumption | omega)).symm) | (unfold loF; simp; exact (bz_f (by first | assumption | omega)).symm), rfl⟩
  refine V_tabOut hx dX1_clerkFact_8 (by first | assumption | exact hT _ _ | exact ⟨by omega, by omega⟩) (by omega) 86 (by decide) ?_
  refine V_aload_n hx dX1_clerkFact_86 1 rfl ?_
  refine V_aload_n hx dX1_clerkFact_87 0 rfl ?_
  refine V_calli hx (m_wouldLose l hk T hT (q := 7 + 8 * c.toNat) (isQ_c (by omega)) (by omega) (by omega)) cw_X1_167 (RMn (by decide) (by decide)) rfl (ix k 0) (SW_shop hk) rfl rfl (Nat.le_of_ble_eq_true rfl) dX1_clerkFact_88 0 0 rfl rfl (fun z3 ws3 e3 => ?_)
  obtain ⟨rfl, rfl⟩ := e3
  refine V_ifb_eq hx dX1_clerkFact_91 98 (by decide) (fun h91 => ?_) (fun h91 => ?_)
  · refine V_iconst hx dX1_clerkFact_98 ?_
    exact hE _ _ _ _ dX1_clerkFact_99 rfl ⟨by unfold ckV; simp only [*]; first | (simp; done) | (simp; exact (bz_t (by first | assumption | omega)).symm) | (simp; exact (bz_f (by first | assumption | omega)).symm) | (unfold loF; simp; exact (bz_t (by first | assumption | omega)).symm) | (unfold loF; simp; exact (bz_f (by first | assumption | omega)).symm), rfl⟩
  · refine V_iconst hx dX1_clerkFact_94 ?_
    refine V_goto hx dX1_clerkFact_95 99 (by decide) ?_
    exact hE _ _ _ _ dX1_clerkFact_99 rfl ⟨by unfold ckV; simp only [*]; first | (simp; done) | (simp; exact (bz_t (by first | assumption | omega)).symm) | (simp; exact (bz_f (by first | assumption | omega)).symm) | (unfold loF; simp; exact (bz_t (by first | assumption | omega)).symm) | (unfold loF; simp; exact (bz_f (by first | assumption | omega)).symm), rfl⟩
set_option maxHeartbeats 4000000 in
set_option maxRecDepth 100000 in
theorem m_isAny (l : Launch) {g : GT} {ad : Nat → Nat} {P : Nat → TS} {k : Nat} (hk : k < 2) (T : TS) (hT : RG T) (hc0 : 0 ≤ T 0 1) (hc6 : T 0 1 ≤ 6) : MI l yX1_isAnyAtWork cX1_isAnyAtWork 2 .boolean (rmN 1) g [.ref (ad (ix k 0))] (SW g ad P k T) (fun z ws9 => z = bz (∃ c, c < nc T ∧ awP T c) ∧ ws9 = SW g ad P k T) := by
  refine MI.of (own := RX1) (by decide) rfl (Nat.le_of_ble_eq_true rfl) (fun x hx hE => ?_)
  have hnc : ((nc T : Nat) : Int) = T 0 1 := Int.toNat_of_nonneg (by omega)
  refine V_lv (lv' := [(0, .ref (ad (ix k 0)))]) rfl ?_
  refine V_iconst hx dX1_isAnyAtWork_0 ?_
  refine V_istore_n hx dX1_isAnyAtWork_1 [(1, .int (iZ (0))), (0, .ref (ad (ix k 0)))] (by decide) rfl ?_
  have hL2 : ∀ (n : Nat) (i : Nat), nc T < i + n → i ≤ nc T → (∀ c, c < i → ¬ awP T c) → V x 0 0 (SW g ad P k T) 2 [(1, .int (iZ ((i : Int)))), (0, .ref (ad (ix k 0)))] [] := by
    intro n
    induction n with
    | zero =>
      intro i g1 g2 g3
      exact absurd g1 (by omega)
    | succ n ih =>
      intro i g1 g2 g3
      refine V_iload_n hx dX1_isAnyAtWork_2 0 rfl ?_
      refine V_aload_n hx dX1_isAnyAtWork_3 1 rfl ?_
      refine gf_X1_38 hx (ix k 0) (SW_shop hk) rfl dX1_isAnyAtWork_4 ?_
      refine V_icmp_ge hx dX1_isAnyAtWork_7 30 (by decide) ⟨by omega, by omega⟩ (by first | assumption | exact hT _ _ | exact ⟨by omega, by omega⟩) (fun h7 => ?_) (fun h7 => ?_)
      · refine V_iconst hx dX1_isAnyAtWork_30 ?_
        exact hE _ _ _ _ dX1_isAnyAtWork_31 rfl ⟨(bz_f (fun h9 => h9.elim (fun d h8 => g3 d (by omega) h8.2))).symm, rfl⟩
      · refine V_aload_n hx dX1_isAnyAtWork_10 1 rfl ?_
        refine gf_X1_24 hx (ix k 0) (SW_shop hk) rfl dX1_isAnyAtWork_11 ?_
        refine V_iload_n hx dX1_isAnyAtWork_14 0 rfl ?_
        refine V_aald hx (by omega) (by omega) (by decide) (ix k 3) (SW_refs hk) (r := ad (ix k (7 + 8 * i))) rfl dX1_isAnyAtWork_15 ?_
        refine V_callNi hx (m_isAtWork l hk T hT (q := 7 + 8 * i) (isQ_c (by omega))) cw_X1_138 (RMn (by decide) (by decide)) rfl (ix k (7 + 8 * i)) (SW_clk hk (isQ_c (by omega))) rfl rfl (Nat.le_of_ble_eq_true rfl) dX1_isAnyAtWork_16 0 0 rfl rfl (fun z1 ws1 e1 => ?_)
        obtain ⟨rfl, rfl⟩ := e1
        refine V_ifb_eq hx dX1_isAnyAtWork_19 24 (by decide) (fun h19 => ?_) (fun h19 => ?_)
        · refine V_iincN hx dX1_isAnyAtWork_24 0 rfl [(1, .int (iZ (((i + 1 : Nat) : Int)))), (0, .ref (ad (ix k 0)))] (by decide) rfl ?_
          refine V_goto hx dX1_isAnyAtWork_27 2 (by decide) ?_
          exact V_sub [0, 1] rfl (ih (i + 1) (by omega) (by omega) (lt_s g3 h19))
        · refine V_iconst hx dX1_isAnyAtWork_22 ?_
          exact hE _ _ _ _ dX1_isAnyAtWork_23 rfl ⟨(bz_t ⟨i, by omega, h19⟩).symm, rfl⟩
  refine V_ws (ws' := SW g ad P k T) rfl ?_
  exact V_sub [0, 1] rfl (hL2 (nc T + 1) 0 (by omega) (by omega) (fun d h9 => absurd h9 (Nat.not_lt_zero d)))
set_option maxHeartbeats 4000000 in
set_option maxRecDepth 100000 in
theorem m_clashes (l : Launch) {g : GT} {ad : Nat → Nat} {P : Nat → TS} {k : Nat} (hk : k < 2) (T : TS) (hT : RG T) (hn0 : 0 ≤ T 0 0) (hn8 : T 0 0 ≤ 8) {a b : Int} (ha0 : 0 ≤ a) (ha6 : a < 6) (hb0 : 0 ≤ b) (hb6 : b < 6) : MI l yX1_clashes cX1_clashes 6 .boolean (rmN 1) g [.ref (ad (ix k 0)), .int (iZ (a)), .int (iZ (b))] (SW g ad P k T) (fun z ws9 => z = bz (clP T a.toNat b.toNat) ∧ ws9 = SW g ad P k T) := by
  refine MI.of (own := RX1) (by decide) rfl (Nat.le_of_ble_eq_true rfl) (fun x hx hE => ?_)
  have hnd : ((nd T : Nat) : Int) = T 0 0 := Int.toNat_of_nonneg (by omega)
  refine V_lv (lv' := [(0, .ref (ad (ix k 0))), (1, .int (iZ (a))), (2, .int (iZ (b)))]) rfl ?_
  refine V_aload_n hx dX1_clashes_0 0 rfl ?_
  refine gf_X1_24 hx (ix k 0) (SW_shop hk) rfl dX1_clashes_1 ?_
  refine V_iload_n hx dX1_clashes_4 1 rfl ?_
  refine V_aald hx (by omega) (by omega) (by decide) (ix k 3) (SW_refs hk) (r := ad (ix k (7 + 8 * a.toNat))) rfl dX1_clashes_5 ?_
  refine V_astore_n hx dX1_clashes_6 [(3, .ref (ad (ix k (7 + 8 * a.toNat)))), (0, .ref (ad (ix k 0))), (1, .int (iZ (a))), (2, .int (iZ (b)))] (by decide) rfl ?_
  refine V_aload_n hx dX1_clashes_7 1 rfl ?_
  refine gf_X1_24 hx (ix k 0) (SW_shop hk) rfl dX1_clashes_8 ?_
  refine V_iload_n hx dX1_clashes_11 3 rfl ?_
  refine V_aald hx (by omega) (by omega) (by decide) (ix k 3) (SW_refs hk) (r := ad (ix k (7 + 8 * b.toNat))) rfl dX1_clashes_12 ?_
  refine V_astore hx dX1_clashes_13 [(4, .ref (ad (ix k (7 + 8 * b.toNat)))), (3, .ref (ad (ix k (7 + 8 * a.toNat)))), (0, .ref (ad (ix k 0))), (1, .int (iZ (a))), (2, .int (iZ (b)))] (by decide) rfl ?_
  refine V_iload_n hx dX1_clashes_15 3 rfl ?_
  refine V_iload_n hx dX1_clashes_16 4 rfl ?_
  refine V_icmp_eq hx dX1_clashes_17 35 (by decide) (by first | assumption | exact hT _ _ | exact ⟨by omega, by omega⟩) (by first | assumption | exact hT _ _ | exact ⟨by omega, by omega⟩) (fun h17 => ?_) (fun h17 => ?_)
  · refine V_iconst hx dX1_clashes_35 ?_
    exact hE _ _ _ _ dX1_clashes_36 rfl ⟨(bz_f (fun h9 => by obtain ⟨h1, h2, h3, -⟩ := h9; omega)).symm, rfl⟩
  · refine V_aload_n hx dX1_clashes_20 1 rfl ?_
    refine gf_X1_128 hx (ix k (7 + 8 * a.toNat)) (SW_clk hk (isQ_c (by omega))) rfl dX1_clashes_21 ?_
    refine V_if_ne hx dX1_clashes_24 35 (by decide) (by first | assumption | exact hT _ _ | exact ⟨by omega, by omega⟩) (fun h24 => ?_) (fun h24 => ?_)
    · refine V_iconst hx dX1_clashes_35 ?_
      exact hE _ _ _ _ dX1_clashes_36 rfl ⟨(bz_f (fun h9 => by obtain ⟨h1, h2, h3, -⟩ := h9; omega)).symm, rfl⟩
    · refine V_aload hx dX1_clashes_27 0 rfl ?_
      refine gf_X1_128 hx (ix k (7 + 8 * b.toNat)) (SW_clk hk (isQ_c (by omega))) rfl dX1_clashes_29 ?_
      refine V_if_eq hx dX1_clashes_32 37 (by decide) (by first | assumption | exact hT _ _ | exact ⟨by omega, by omega⟩) (fun h32 => ?_) (fun h32 => ?_)
      · refine V_iconst hx dX1_clashes_37 ?_
        refine V_istore hx dX1_clashes_38 [(5, .int (iZ (0))), (4, .ref (ad (ix k (7 + 8 * b.toNat)))), (3, .ref (ad (ix k (7 + 8 * a.toNat)))), (0, .ref (ad (ix k 0))), (1, .int (iZ (a))), (2, .int (iZ (b)))] (by decide) rfl ?_
        have hL40 : ∀ (n : Nat) (i : Nat), nd T < i + n → i ≤ nd T → (∀ d, d < i → ¬ (T (7 + 8 * a.toNat + 7) d ≠ -1 ∧ T (7 + 8 * b.toNat + 5) d ≠ -1)) → V x 0 0 (SW g ad P k T) 40 [(5, .int (iZ ((i : Int)))), (0, .ref (ad (ix k 0))), (1, .int (iZ (a))), (2, .int (iZ (b))), (3, .ref (ad (ix k (7 + 8 * a.toNat)))), (4, .ref (ad (ix k (7 + 8 * b.toNat))))] [] := by
          intro n
          induction n with
          | zero =>
            intro i g1 g2 g3
            exact absurd g1 (by omega)
          | succ n ih =>
            intro i g1 g2 g3
            refine V_iload hx dX1_clashes_40 0 rfl ?_
            refine V_aload_n hx dX1_clashes_42 1 rfl ?_
            refine gf_X1_9 hx (ix k 0) (SW_shop hk) rfl dX1_clashes_43 ?_
            refine V_icmp_ge hx dX1_clashes_46 76 (by decide) ⟨by omega, by omega⟩ (by first | assumption | exact hT _ _ | exact ⟨by omega, by omega⟩) (fun h46 => ?_) (fun h46 => ?_)
            · refine V_iconst hx dX1_clashes_76 ?_
              exact hE _ _ _ _ dX1_clashes_77 rfl ⟨(bz_f (fun h9 => by obtain ⟨-, -, -, d, h1, h2, h3⟩ := h9; exact g3 d (by omega) ⟨h2, h3⟩)).symm, rfl⟩
            · refine V_aload_n hx dX1_clashes_49 4 rfl ?_
              refine V_iload hx dX1_clashes_50 0 rfl ?_
              refine V_callNi hx (m_hasWritten l hk T hT (q := 7 + 8 * a.toNat) (isQ_c (by omega)) (d := (i : Int)) (by omega) (by omega)) cw_X1_109 (RMn (by decide) (by decide)) rfl (ix k (7 + 8 * a.toNat)) (SW_clk hk (isQ_c (by omega))) rfl rfl (Nat.le_of_ble_eq_true rfl) dX1_clashes_52 0 0 rfl rfl (fun z1 ws1 e1 => ?_)
              obtain ⟨rfl, rfl⟩ := e1
              refine V_top (b := bz (T (7 + 8 * a.toNat + 7) i ≠ -1)) rfl ?_
              refine V_ifb_eq hx dX1_clashes_55 70 (by decide) (fun h55 => ?_) (fun h55 => ?_)
              · refine V_iincN hx dX1_clashes_70 0 rfl [(5, .int (iZ (((i + 1 : Nat) : Int)))), (0, .ref (ad (ix k 0))), (1, .int (iZ (a))), (2, .int (iZ (b))), (3, .ref (ad (ix k (7 + 8 * a.toNat)))), (4, .ref (ad (ix k (7 + 8 * b.toNat))))] (by decide) rfl ?_
                refine V_goto hx dX1_clashes_73 40 (by decide) ?_
                exact V_sub [0, 1, 2, 3, 4, 5] rfl (ih (i + 1) (by omega) (by omega) (lt_s g3 (by first | exact (fun h9 => h65 h9.2) | exact (fun h9 => h55 h9.1))))
              · refine V_aload hx dX1_clashes_58 5 rfl ?_
                refine V_iload hx dX1_clashes_60 0 rfl ?_
                refine V_callNi hx (m_remembers l hk T hT (q := 7 + 8 * b.toNat) (isQ_c (by omega)) (d := (i : Int)) (by omega) (by omega)) cw_X1_113 (RMn (by decide) (by decide)) rfl (ix k (7 + 8 * b.toNat)) (SW_clk hk (isQ_c (by omega))) rfl rfl (Nat.le_of_ble_eq_true rfl) dX1_clashes_62 0 0 rfl rfl (fun z2 ws2 e2 => ?_)
                obtain ⟨rfl, rfl⟩ := e2
                refine V_top (b := bz (T (7 + 8 * b.toNat + 5) i ≠ -1)) rfl ?_
                refine V_ifb_eq hx dX1_clashes_65 70 (by decide) (fun h65 => ?_) (fun h65 => ?_)
                · refine V_iincN hx dX1_clashes_70 0 rfl [(5, .int (iZ (((i + 1 : Nat) : Int)))), (0, .ref (ad (ix k 0))), (1, .int (iZ (a))), (2, .int (iZ (b))), (3, .ref (ad (ix k (7 + 8 * a.toNat)))), (4, .ref (ad (ix k (7 + 8 * b.toNat))))] (by decide) rfl ?_
                  refine V_goto hx dX1_clashes_73 40 (by decide) ?_
                  exact V_sub [0, 1, 2, 3, 4, 5] rfl (ih (i + 1) (by omega) (by omega) (lt_s g3 (by first | exact (fun h9 => h65 h9.2) | exact (fun h9 => h55 h9.1))))
                · refine V_iconst hx dX1_clashes_68 ?_
                  exact hE _ _ _ _ dX1_clashes_69 rfl ⟨(bz_t ⟨by omega, by omega, by omega, i, by omega, h55, h65⟩).symm, rfl⟩
        refine V_ws (ws' := SW g ad P k T) rfl ?_
        exact V_sub [0, 3, 4, 5, 2, 1] rfl (hL40 (nd T + 1) 0 (by omega) (by omega) (fun d h9 => absurd h9 (Nat.not_lt_zero d)))
      · refine V_iconst hx dX1_clashes_35 ?_
        exact hE _ _ _ _ dX1_clashes_36 rfl ⟨(bz_f (fun h9 => by obtain ⟨h1, h2, h3, -⟩ := h9; omega)).symm, rfl⟩
set_option maxHeartbeats 4000000 in
set_option maxRecDepth 100000 in
theorem m_goRound (l : Launch) {g : GT} {ad : Nat → Nat} {P : Nat → TS} {k : Nat} (hk : k < 2) (T : TS) (hG : GRok T) : MI l yX1_goRound cX1_goRound 3 .int (rmN 5) g [.ref (ad (ix k 0))] (SW g ad P k T) (fun z ws9 => z = (gr T (nc T)).2 ∧ ws9 = SW g ad P k ((gr T (nc T)).1)) := by
  refine MI.of (own := RX1) (by decide) rfl (Nat.le_of_ble_eq_true rfl) (fun x hx hE => ?_)
  obtain ⟨hT, ⟨hc0, hc6⟩, hN, hGi⟩ := id hG
  have hnc : ((nc T : Nat) : Int) = T 0 1 := Int.toNat_of_nonneg (by omega)
  refine V_lv (lv' := [(0, .ref (ad (ix k 0)))]) rfl ?_
  refine V_iconst hx dX1_goRound_0 ?_
  refine V_istore_n hx dX1_goRound_1 [(1, .int (iZ (0))), (0, .ref (ad (ix k 0)))] (by decide) rfl ?_
  refine V_iconst hx dX1_goRound_2 ?_
  refine V_istore_n hx dX1_goRound_3 [(2, .int (iZ (0))), (1, .int (iZ (0))), (0, .ref (ad (ix k 0)))] (by decide) rfl ?_
  have hL4 : ∀ (n : Nat) (i : Nat), nc T < i + n → i ≤ nc T → V x 0 0 (SW g ad P k ((gr T i).1)) 4 [(2, .int (iZ ((i : Int)))), (1, .int (iZ ((gr T i).2))), (0, .ref (ad (ix k 0)))] [] := by
    intro n
    induction n with
    | zero =>
      intro i g1 g2 
      exact absurd g1 (by omega)
    | succ n ih =>
      intro i g1 g2 
      have hNi := hN i
      refine V_iload_n hx dX1_goRound_4 0 rfl ?_
      refine V_aload_n hx dX1_goRound_5 2 rfl ?_
      refine gf_X1_38 hx (ix k 0) (SW_shop hk) rfl dX1_goRound_6 ?_
      refine V_icmp_ge hx dX1_goRound_9 42 (by decide) ⟨by omega, by omega⟩ ⟨by omega, by omega⟩ (fun h9 => ?_) (fun h9 => ?_)
      · refine V_iload_n hx dX1_goRound_42 1 rfl ?_
        exact hE _ _ _ _ dX1_goRound_43 rfl (by rw [show i = nc T by omega]; exact ⟨rfl, rfl⟩)
      · obtain ⟨hTi, hki⟩ := hGi i (by omega)
        refine V_aload_n hx dX1_goRound_12 2 rfl ?_
        refine gf_X1_24 hx (ix k 0) (SW_shop hk) rfl dX1_goRound_13 ?_
        refine V_iload_n hx dX1_goRound_16 0 rfl ?_
        refine V_aald hx (by omega) (by omega) (by decide) (ix k 3) (SW_refs hk) (r := ad (ix k (7 + 8 * i))) rfl dX1_goRound_17 ?_
        refine V_callNi hx (m_isAtWork l hk ((gr T i).1) hTi (q := 7 + 8 * i) (isQ_c (by omega))) cw_X1_138 (RMn (by decide) (by decide)) rfl (ix k (7 + 8 * i)) (SW_clk hk (isQ_c (by omega))) rfl rfl (Nat.le_of_ble_eq_true rfl) dX1_goRound_18 0 0 rfl rfl (fun z1 ws1 e1 => ?_)
        obtain ⟨rfl, rfl⟩ := e1
        refine V_ifb_eq hx dX1_goRound_21 36 (by decide) (fun h21 => ?_) (fun h21 => ?_)
        · refine V_iincN hx dX1_goRound_36 0 rfl [(2, .int (iZ (((i + 1 : Nat) : Int)))), (1, .int (iZ ((gr T i).2))), (0, .ref (ad (ix k 0)))] (by decide) rfl ?_
          refine V_goto hx dX1_goRound_39 4 (by decide) ?_
          refine V_ws (ws' := SW g ad P k ((gr T (i + 1)).1)) (by rw [gr_no h21]) ?_
          refine V_sub (lv' := [(2, .int (iZ (((i + 1 : Nat) : Int)))), (1, .int (iZ ((gr T i).2))), (0, .ref (ad (ix k 0)))]) [0, 1, 2] rfl ?_
          refine V_lv (lv' := [(2, .int (iZ ((i + 1 : Nat) : Int))), (1, .int (iZ ((gr T (i + 1)).2))), (0, .ref (ad (ix k 0)))]) (by rw [gr_no h21]) ?_
          exact ih (i + 1) (by omega) (by omega)
        · refine V_aload_n hx dX1_goRound_24 2 rfl ?_
          refine V_iload_n hx dX1_goRound_25 0 rfl ?_
          refine V_calli hx (m_takeTurn l hk ((gr T i).1) hTi (c := (i : Int)) (by omega) (by omega) hki) cw_X1_142 (RMn (by decide) (by decide)) rfl (ix k 0) (SW_shop hk) rfl rfl (Nat.le_of_ble_eq_true rfl) dX1_goRound_26 0 0 rfl rfl (fun z2 ws2 e2 => ?_)
          obtain ⟨rfl, rfl⟩ := e2
          refine V_top (b := tkV ((gr T i).1) i) rfl ?_
          refine V_ws (ws' := SW g ad P k (tkT ((gr T i).1) i)) rfl ?_
          refine V_iconst hx dX1_goRound_29 ?_
          refine V_icmp_ne hx dX1_goRound_30 36 (by decide) (rg_tkV _ _) ⟨by decide, by decide⟩ (fun h30 => ?_) (fun h30 => ?_)
          · refine V_iincN hx dX1_goRound_36 0 rfl [(2, .int (iZ (((i + 1 : Nat) : Int)))), (1, .int (iZ ((gr T i).2))), (0, .ref (ad (ix k 0)))] (by decide) rfl ?_
            refine V_goto hx dX1_goRound_39 4 (by decide) ?_
            refine V_ws (ws' := SW g ad P k ((gr T (i + 1)).1)) (by rw [gr_yes h21]) ?_
            refine V_sub (lv' := [(2, .int (iZ (((i + 1 : Nat) : Int)))), (1, .int (iZ ((gr T i).2))), (0, .ref (ad (ix k 0)))]) [0, 1, 2] rfl ?_
            refine V_lv (lv' := [(2, .int (iZ ((i + 1 : Nat) : Int))), (1, .int (iZ ((gr T (i + 1)).2))), (0, .ref (ad (ix k 0)))]) (by rw [gr_yes h21, bz_f h30, Int.add_zero]) ?_
            exact ih (i + 1) (by omega) (by omega)
          · refine V_iinc hx dX1_goRound_33 1 rfl [(1, .int (iZ ((gr T i).2 + (1)))), (2, .int (iZ ((i : Int)))), (0, .ref (ad (ix k 0)))] (by decide) rfl ?_
            refine V_iincN hx dX1_goRound_36 1 rfl [(2, .int (iZ (((i + 1 : Nat) : Int)))), (1, .int (iZ ((gr T i).2 + (1)))), (0, .ref (ad (ix k 0)))] (by decide) rfl ?_
            refine V_goto hx dX1_goRound_39 4 (by decide) ?_
            refine V_ws (ws' := SW g ad P k ((gr T (i + 1)).1)) (by rw [gr_yes h21]) ?_
            refine V_sub (lv' := [(2, .int (iZ (((i + 1 : Nat) : Int)))), (1, .int (iZ ((gr T i).2 + (1)))), (0, .ref (ad (ix k 0)))]) [0, 1, 2] rfl ?_
            refine V_lv (lv' := [(2, .int (iZ ((i + 1 : Nat) : Int))), (1, .int (iZ ((gr T (i + 1)).2))), (0, .ref (ad (ix k 0)))]) (by rw [gr_yes h21, bz_t h30]) ?_
            exact ih (i + 1) (by omega) (by omega)
  refine V_ws (ws' := SW g ad P k ((gr T 0).1)) rfl ?_
  exact V_sub [0, 1, 2] rfl (hL4 (nc T + 1) 0 (by omega) (by omega))
set_option maxHeartbeats 4000000 in
set_option maxRecDepth 100000 in
theorem m_goRounds (l : Launch) {g : GT} {ad : Nat → Nat} {P : Nat → TS} {k : Nat} (hk : k < 2) (T : TS) {r : Int} (hr0 : 0 ≤ r) (hr9 : r ≤ 50) (hG : ∀ j : Nat, (j : Int) < r → GRok (grs T j).1) : MI l yX1_goRounds cX1_goRounds 4 .int (rmN 6) g [.ref (ad (ix k 0)), .int (iZ (r))] (SW g ad P k T) (fun z ws9 => z = (grs T r.toNat).2 ∧ ws9 = SW g ad P k ((grs T r.toNat).1)) := by
  refine MI.of (own := RX1) (by decide) rfl (Nat.le_of_ble_eq_true rfl) (fun x hx hE => ?_)
  refine V_lv (lv' := [(0, .ref (ad (ix k 0))), (1, .int (iZ (r)))]) rfl ?_
  refine V_iconst hx dX1_goRounds_0 ?_
  refine V_istore_n hx dX1_goRounds_1 [(2, .int (iZ (0))), (0, .ref (ad (ix k 0))), (1, .int (iZ (r)))] (by decide) rfl ?_
  refine V_iconst hx dX1_goRounds_2 ?_
  refine V_istore_n hx dX1_goRounds_3 [(3, .int (iZ (0))), (2, .int (iZ (0))), (0, .ref (ad (ix k 0))), (1, .int (iZ (r)))] (by decide) rfl ?_
  have hL4 : ∀ (n : Nat) (i : Nat), r.toNat < i + n → i ≤ r.toNat → V x 0 0 (SW g ad P k ((grs T i).1)) 4 [(3, .int (iZ ((i : Int)))), (2, .int (iZ ((grs T i).2))), (0, .ref (ad (ix k 0))), (1, .int (iZ (r)))] [] := by
    intro n
    induction n with
    | zero =>
      intro i g1 g2 
      exact absurd g1 (by omega)
    | succ n ih =>
      intro i g1 g2 
      refine V_iload_n hx dX1_goRounds_4 0 rfl ?_
      refine V_iload_n hx dX1_goRounds_5 3 rfl ?_
      refine V_icmp_ge hx dX1_goRounds_6 22 (by decide) ⟨by omega, by omega⟩ ⟨by omega, by omega⟩ (fun h6 => ?_) (fun h6 => ?_)
      · refine V_iload_n hx dX1_goRounds_22 1 rfl ?_
        exact hE _ _ _ _ dX1_goRounds_23 rfl (by rw [show i = r.toNat by omega]; exact ⟨rfl, rfl⟩)
      · have hGr := hG i (by omega)
        refine V_iload_n hx dX1_goRounds_9 1 rfl ?_
        refine V_aload_n hx dX1_goRounds_10 2 rfl ?_
        refine V_calli hx (m_goRound l hk ((grs T i).1) hGr) cw_X1_135 (RMn (by decide) (by decide)) rfl (ix k 0) (SW_shop hk) rfl rfl (Nat.le_of_ble_eq_true rfl) dX1_goRounds_11 0 0 rfl rfl (fun z1 ws1 e1 => ?_)
        obtain ⟨rfl, rfl⟩ := e1
        refine V_iadd hx dX1_goRounds_14 ?_
        refine V_istore_n hx dX1_goRounds_15 [(2, .int (iZ (((grs T i).2) + ((gr ((grs T i).1) (nc ((grs T i).1))).2)))), (3, .int (iZ ((i : Int)))), (0, .ref (ad (ix k 0))), (1, .int (iZ (r)))] (by decide) rfl ?_
        refine V_iincN hx dX1_goRounds_16 1 rfl [(3, .int (iZ (((i + 1 : Nat) : Int)))), (2, .int (iZ (((grs T i).2) + ((gr ((grs T i).1) (nc ((grs T i).1))).2)))), (0, .ref (ad (ix k 0))), (1, .int (iZ (r)))] (by decide) rfl ?_
        refine V_goto hx dX1_goRounds_19 4 (by decide) ?_
        refine V_ws (ws' := SW g ad P k ((grs T (i + 1)).1)) rfl ?_
        refine V_sub (lv' := [(3, .int (iZ (((i + 1 : Nat) : Int)))), (2, .int (iZ (((grs T i).2) + ((gr ((grs T i).1) (nc ((grs T i).1))).2)))), (0, .ref (ad (ix k 0))), (1, .int (iZ (r)))]) [0, 1, 2, 3] rfl ?_
        refine V_lv (lv' := [(3, .int (iZ ((i + 1 : Nat) : Int))), (2, .int (iZ ((grs T (i + 1)).2))), (0, .ref (ad (ix k 0))), (1, .int (iZ r))]) rfl ?_
        exact ih (i + 1) (by omega) (by omega)
  refine V_ws (ws' := SW g ad P k ((grs T 0).1)) rfl ?_
  exact V_sub [0, 1, 2, 3] rfl (hL4 (r.toNat + 1) 0 (by omega) (by omega))
set_option maxHeartbeats 4000000 in
set_option maxRecDepth 100000 in
theorem m_workAlone (l : Launch) {g : GT} {ad : Nat → Nat} {P : Nat → TS} {k : Nat} (hk : k < 2) (T : TS) (hT : RG T) {c : Int} (hc0 : 0 ≤ c) (hc6 : c < 6) (hG : ∀ t : Nat, t ≤ 8 → RG (wal T c.toNat t) ∧ TKok (wal T c.toNat t) (7 + 8 * c.toNat)) : MV l yX1_workAlone cX1_workAlone 4 (rmN 5) g [.ref (ad (ix k 0)), .int (iZ (c))] (SW g ad P k T) (fun ws9 => ∃ i, i ≤ 9 ∧ (∀ j, j < i → awP (wal T c.toNat j) c.toNat) ∧ (i = 9 ∨ ¬ awP (wal T c.toNat i) c.toNat) ∧ ws9 = SW g ad P k (wal T c.toNat i)) := by
  refine MV.of (own := RX1) (by decide) rfl (Nat.le_of_ble_eq_true rfl) (fun x hx hE => ?_)
  refine V_lv (lv' := [(0, .ref (ad (ix k 0))), (1, .int (iZ (c)))]) rfl ?_
  refine V_aload_n hx dX1_workAlone_0 0 rfl ?_
  refine gf_X1_24 hx (ix k 0) (SW_shop hk) rfl dX1_workAlone_1 ?_
  refine V_iload_n hx dX1_workAlone_4 1 rfl ?_
  refine V_aald hx (by omega) (by omega) (by decide) (ix k 3) (SW_refs hk) (r := ad (ix k (7 + 8 * c.toNat))) rfl dX1_workAlone_5 ?_
  refine V_astore_n hx dX1_workAlone_6 [(2, .ref (ad (ix k (7 + 8 * c.toNat)))), (0, .ref (ad (ix k 0))), (1, .int (iZ (c)))] (by decide) rfl ?_
  refine V_aload_n hx dX1_workAlone_7 0 rfl ?_
  refine V_callNv hx (m_startOver l hk T (q := 7 + 8 * c.toNat) (isQ_c (by omega))) cw_X1_75 (RMn (by decide) (by decide)) rfl (ix k (7 + 8 * c.toNat)) (SW_clk hk (isQ_c (by omega))) rfl rfl (Nat.le_of_ble_eq_true rfl) dX1_workAlone_8 0 0 rfl rfl (fun ws1 e1 => ?_)
  subst e1
  refine V_iconst hx dX1_workAlone_11 ?_
  refine V_istore_n hx dX1_workAlone_12 [(3, .int (iZ (0))), (2, .ref (ad (ix k (7 + 8 * c.toNat)))), (0, .ref (ad (ix k 0))), (1, .int (iZ (c)))] (by decide) rfl ?_
  have hL13 : ∀ (n : Nat) (i : Nat), 9 < i + n → i ≤ 9 → (∀ j, j < i → awP (wal T c.toNat j) c.toNat) → V x 0 0 (SW g ad P k (wal T c.toNat i)) 13 [(3, .int (iZ ((i : Int)))), (0, .ref (ad (ix k 0))), (1, .int (iZ (c))), (2, .ref (ad (ix k (7 + 8 * c.toNat))))] [] := by
    intro n
    induction n with
    | zero =>
      intro i g1 g2 g3
      exact absurd g1 (by omega)
    | succ n ih =>
      intro i g1 g2 g3
      refine V_iload_n hx dX1_workAlone_13 0 rfl ?_
      refine V_bipush hx dX1_workAlone_14 rfl ?_
      refine V_icmp_gt hx dX1_workAlone_16 38 (by decide) ⟨by omega, by omega⟩ ⟨by decide, by decide⟩ (fun h16 => ?_) (fun h16 => ?_)
      · exact hE _ _ _ dX1_workAlone_38 (by first | exact ⟨i, g2, g3, Or.inr h23, rfl⟩ | exact ⟨i, g2, g3, Or.inl (by omega), rfl⟩)
      · obtain ⟨hTi, hki⟩ := hG i (by omega)
        refine V_aload_n hx dX1_workAlone_19 3 rfl ?_
        refine V_callNi hx (m_isAtWork l hk (wal T c.toNat i) hTi (q := 7 + 8 * c.toNat) (isQ_c (by omega))) cw_X1_138 (RMn (by decide) (by decide)) rfl (ix k (7 + 8 * c.toNat)) (SW_clk hk (isQ_c (by omega))) rfl rfl (Nat.le_of_ble_eq_true rfl) dX1_workAlone_20 0 0 rfl rfl (fun z2 ws2 e2 => ?_)
        obtain ⟨rfl, rfl⟩ := e2
        refine V_ifb_eq hx dX1_workAlone_23 38 (by decide) (fun h23 => ?_) (fun h23 => ?_)
        · exact hE _ _ _ dX1_workAlone_38 (by first | exact ⟨i, g2, g3, Or.inr h23, rfl⟩ | exact ⟨i, g2, g3, Or.inl (by omega), rfl⟩)
        · refine V_aload_n hx dX1_workAlone_26 1 rfl ?_
          refine V_iload_n hx dX1_workAlone_27 2 rfl ?_
          refine V_calli hx (m_takeTurn l hk (wal T c.toNat i) hTi (c := c) (by omega) (by omega) hki) cw_X1_142 (RMn (by decide) (by decide)) rfl (ix k 0) (SW_shop hk) rfl rfl (Nat.le_of_ble_eq_true rfl) dX1_workAlone_28 0 0 rfl rfl (fun z3 ws3 e3 => ?_)
          obtain ⟨rfl, rfl⟩ := e3
          refine V_pop hx dX1_workAlone_31 rfl ?_
          refine V_iincN hx dX1_workAlone_32 0 rfl [(3, .int (iZ (((i + 1 : Nat) : Int)))), (0, .ref (ad (ix k 0))), (1, .int (iZ (c))), (2, .ref (ad (ix k (7 + 8 * c.toNat))))] (by decide) rfl ?_
          refine V_goto hx dX1_workAlone_35 13 (by decide) ?_
          refine V_ws (ws' := SW g ad P k (wal T c.toNat (i + 1))) rfl ?_
          exact V_sub [0, 1, 2, 3] rfl (ih (i + 1) (by omega) (by omega) (lt_s g3 h23))
  refine V_ws (ws' := SW g ad P k (wal T c.toNat 0)) rfl ?_
  exact V_sub [0, 2, 3, 1] rfl (hL13 (9 + 1) 0 (by omega) (by omega) (fun d h9 => absurd h9 (Nat.not_lt_zero d)))
set_option maxHeartbeats 4000000 in
set_option maxRecDepth 100000 in
theorem m_sBecome (l : Launch) {g : GT} {ad : Nat → Nat} {P : Nat → TS} {k k' : Nat} (hk : k < 2) (hk' : k' < 2) (hne : k' ≠ k) (T : TS) (hc0 : 0 ≤ P k' 0 1) (hc6 : P k' 0 1 ≤ 6) (hdn : ∀ c : Nat, (c : Int) < P k' 0 1 → P k' (7 + 8 * c) 2 = 0 ∨ P k' (7 + 8 * c) 2 = 1) : MV l yX1_become cX1_become 3 (rmN 1) g [.ref (ad (ix k 0)), .ref (ad (ix k' 0))] (SW g ad P k T) (fun ws9 => ws9 = SW g ad P k (beT T (P k'))) := by
  refine MV.of (own := RX1) (by decide) rfl (Nat.le_of_ble_eq_true rfl) (fun x hx hE => ?_)
  have hnc : ((nc (P k') : Nat) : Int) = P k' 0 1 := Int.toNat_of_nonneg (by omega)
  refine V_lv (lv' := [(0, .ref (ad (ix k 0))), (1, .ref (ad (ix k' 0)))]) rfl ?_
  refine V_aload_n hx dX1_become_0 0 rfl ?_
  refine V_aload_n hx dX1_become_1 1 rfl ?_
  refine gf_X1_9 hx (ix k' 0) (SW_shop' hk' hne) rfl dX1_become_2 ?_
  refine pf_X1_9 hx (ix k 0) (SW_shop hk) (Nat.le_of_ble_eq_true rfl) (SW g ad P k (pt T (0) (0) (P k' 0 0))) SW_ss0 dX1_become_5 ?_
  refine V_aload_n hx dX1_become_8 0 rfl ?_
  refine V_aload_n hx dX1_become_9 1 rfl ?_
  refine gf_X1_38 hx (ix k' 0) (SW_shop' hk' hne) rfl dX1_become_10 ?_
  refine pf_X1_38 hx (ix k 0) (SW_shop hk) (Nat.le_of_ble_eq_true rfl) (SW g ad P k (pt (pt T (0) (0) (P k' 0 0)) (0) (1) (P k' 0 1))) SW_ss1 dX1_become_13 ?_
  refine V_aload_n hx dX1_become_16 0 rfl ?_
  refine V_aload_n hx dX1_become_17 1 rfl ?_
  refine gf_X1_41 hx (ix k' 0) (SW_shop' hk' hne) rfl dX1_become_18 ?_
  refine pf_X1_41 hx (ix k 0) (SW_shop hk) (Nat.le_of_ble_eq_true rfl) (SW g ad P k (pt (pt (pt T (0) (0) (P k' 0 0)) (0) (1) (P k' 0 1)) (0) (2) (P k' 0 2))) SW_ss2 dX1_become_21 ?_
  refine V_iconst hx dX1_become_24 ?_
  refine V_istore_n hx dX1_become_25 [(2, .int (iZ (0))), (0, .ref (ad (ix k 0))), (1, .ref (ad (ix k' 0)))] (by decide) rfl ?_
  have hL26 : ∀ (n : Nat) (i : Nat), 8 < i + n → i ≤ 8 → V x 0 0 (SW g ad P k (bs1 (bs0 T (P k')) (P k') i)) 26 [(2, .int (iZ ((i : Int)))), (0, .ref (ad (ix k 0))), (1, .ref (ad (ix k' 0)))] [] := by
    intro n
    induction n with
    | zero =>
      intro i g1 g2 
      exact absurd g1 (by omega)
    | succ n ih =>
      intro i g1 g2 
      refine V_iload_n hx dX1_become_26 0 rfl ?_
      refine V_bipush hx dX1_become_27 rfl ?_
      refine V_icmp_ge hx dX1_become_29 62 (by decide) ⟨by omega, by omega⟩ ⟨by decide, by decide⟩ (fun h29 => ?_) (fun h29 => ?_)
      · refine V_iconst hx dX1_become_62 ?_
        refine V_istore_n hx dX1_become_63 [(2, .int (iZ (0))), (0, .ref (ad (ix k 0))), (1, .ref (ad (ix k' 0)))] (by decide) rfl ?_
        have hL64 : ∀ (n : Nat) (i : Nat), nc (P k') < i + n → i ≤ nc (P k') → V x 0 0 (SW g ad P k (bsC (bs1 (bs0 T (P k')) (P k') 8) (P k') i)) 64 [(2, .int (iZ ((i : Int)))), (0, .ref (ad (ix k 0))), (1, .ref (ad (ix k' 0)))] [] := by
          intro n
          induction n with
          | zero =>
            intro i g1 g2 
            exact absurd g1 (by omega)
          | succ n ih =>
            intro i g1 g2 
            have e01 : bsC (bs1 (bs0 T (P k')) (P k') 8) (P k') i 0 1 = P k' 0 1 := by rw [bsC_ne (by omega), bs1_ne (by omega) (by omega)]; rfl
            refine V_iload_n hx dX1_become_64 0 rfl ?_
            refine V_aload_n hx dX1_become_65 1 rfl ?_
            refine gf_X1_38 hx (ix k 0) (SW_shop hk) rfl dX1_become_66 ?_
            refine V_icmp_ge hx dX1_become_69 93 (by decide) ⟨by omega, by omega⟩ ⟨by omega, by omega⟩ (fun h69 => ?_) (fun h69 => ?_)
            · refine V_iconst hx dX1_become_93 ?_
              refine V_istore_n hx dX1_become_94 [(2, .int (iZ (0))), (0, .ref (ad (ix k 0))), (1, .ref (ad (ix k' 0)))] (by decide) rfl ?_
              have hL95 : ∀ (n : Nat) (i : Nat), 10 < i + n → i ≤ 10 → V x 0 0 (SW g ad P k (bs3 (bsC (bs1 (bs0 T (P k')) (P k') 8) (P k') (nc (P k'))) (P k') i)) 95 [(2, .int (iZ ((i : Int)))), (0, .ref (ad (ix k 0))), (1, .ref (ad (ix k' 0)))] [] := by
                intro n
                induction n with
                | zero =>
                  intro i g1 g2 
                  exact absurd g1 (by omega)
                | succ n ih =>
                  intro i g1 g2 
                  refine V_iload_n hx dX1_become_95 0 rfl ?_
                  refine V_bipush hx dX1_become_96 rfl ?_
                  refine V_icmp_ge hx dX1_become_98 143 (by decide) ⟨by omega, by omega⟩ ⟨by decide, by decide⟩ (fun h98 => ?_) (fun h98 => ?_)
                  · exact hE _ _ _ dX1_become_143 (by rw [show i = 10 by omega]; rfl)
                  · refine V_aload_n hx dX1_become_101 1 rfl ?_
                    refine gf_X1_29 hx (ix k 0) (SW_shop hk) rfl dX1_become_102 ?_
                    refine V_iload_n hx dX1_become_105 0 rfl ?_
                    refine V_aload_n hx dX1_become_106 2 rfl ?_
                    refine gf_X1_29 hx (ix k' 0) (SW_shop' hk' hne) rfl dX1_become_107 ?_
                    refine V_iload_n hx dX1_become_110 0 rfl ?_
                    refine V_iald hx (by omega) (by omega) (by decide) (ix k' 4) (SW_10' hk' hne (by decide)) (v := P k' 4 i) rfl dX1_become_111 ?_
                    refine V_iast hx (by omega) (by omega) (by decide) (ix k 4) (SW_10 hk (by decide)) (SW g ad P k (pt (bs3 (bsC (bs1 (bs0 T (P k')) (P k') 8) (P k') (nc (P k'))) (P k') i) (4) (i) (P k' 4 i))) (SW_s10 (by decide)) dX1_become_112 ?_
                    refine V_aload_n hx dX1_become_113 1 rfl ?_
                    refine gf_X1_32 hx (ix k 0) (SW_shop hk) rfl dX1_become_114 ?_
                    refine V_iload_n hx dX1_become_117 0 rfl ?_
                    refine V_aload_n hx dX1_become_118 2 rfl ?_
                    refine gf_X1_32 hx (ix k' 0) (SW_shop' hk' hne) rfl dX1_become_119 ?_
                    refine V_iload_n hx dX1_become_122 0 rfl ?_
                    refine V_iald hx (by omega) (by omega) (by decide) (ix k' 5) (SW_10' hk' hne (by decide)) (v := P k' 5 i) rfl dX1_become_123 ?_
                    refine V_iast hx (by omega) (by omega) (by decide) (ix k 5) (SW_10 hk (by decide)) (SW g ad P k (pt (pt (bs3 (bsC (bs1 (bs0 T (P k')) (P k') 8) (P k') (nc (P k'))) (P k') i) (4) (i) (P k' 4 i)) (5) (i) (P k' 5 i))) (SW_s10 (by decide)) dX1_become_124 ?_
                    refine V_aload_n hx dX1_become_125 1 rfl ?_
                    refine gf_X1_35 hx (ix k 0) (SW_shop hk) rfl dX1_become_126 ?_
                    refine V_iload_n hx dX1_become_129 0 rfl ?_
                    refine V_aload_n hx dX1_become_130 2 rfl ?_
                    refine gf_X1_35 hx (ix k' 0) (SW_shop' hk' hne) rfl dX1_become_131 ?_
                    refine V_iload_n hx dX1_become_134 0 rfl ?_
                    refine V_iald hx (by omega) (by omega) (by decide) (ix k' 6) (SW_10' hk' hne (by decide)) (v := P k' 6 i) rfl dX1_become_135 ?_
                    refine V_iast hx (by omega) (by omega) (by decide) (ix k 6) (SW_10 hk (by decide)) (SW g ad P k (pt (pt (pt (bs3 (bsC (bs1 (bs0 T (P k')) (P k') 8) (P k') (nc (P k'))) (P k') i) (4) (i) (P k' 4 i)) (5) (i) (P k' 5 i)) (6) (i) (P k' 6 i))) (SW_s10 (by decide)) dX1_become_136 ?_
                    refine V_iincN hx dX1_become_137 0 rfl [(2, .int (iZ (((i + 1 : Nat) : Int)))), (0, .ref (ad (ix k 0))), (1, .ref (ad (ix k' 0)))] (by decide) rfl ?_
                    refine V_goto hx dX1_become_140 95 (by decide) ?_
                    refine V_ws (ws' := SW g ad P k (bs3 (bsC (bs1 (bs0 T (P k')) (P k') 8) (P k') (nc (P k'))) (P k') (i + 1))) (congrArg (SW g ad P k) (by funext a b; simp only [pt, bs3]; (repeat' split) <;> first | rfl | omega | grind)) ?_
                    exact V_sub [0, 1, 2] rfl (ih (i + 1) (by omega) (by omega))
              refine V_ws (ws' := SW g ad P k (bs3 (bsC (bs1 (bs0 T (P k')) (P k') 8) (P k') (nc (P k'))) (P k') 0)) (congrArg (SW g ad P k) (by rw [show i = nc (P k') by omega]; funext a b; simp only [bs3]; (repeat' split) <;> first | rfl | omega)) ?_
              exact V_sub [0, 1, 2] rfl (hL95 (10 + 1) 0 (by omega) (by omega))
            · have hdi := hdn i (by omega)
              refine V_aload_n hx dX1_become_72 1 rfl ?_
              refine gf_X1_24 hx (ix k 0) (SW_shop hk) rfl dX1_become_73 ?_
              refine V_iload_n hx dX1_become_76 0 rfl ?_
              refine V_aald hx (by omega) (by omega) (by decide) (ix k 3) (SW_refs hk) (r := ad (ix k (7 + 8 * i))) rfl dX1_become_77 ?_
              refine V_aload_n hx dX1_become_78 2 rfl ?_
              refine gf_X1_24 hx (ix k' 0) (SW_shop' hk' hne) rfl dX1_become_79 ?_
              refine V_iload_n hx dX1_become_82 0 rfl ?_
              refine V_aald hx (by omega) (by omega) (by decide) (ix k' 3) (SW_refs' hk' hne) (r := ad (ix k' (7 + 8 * i))) rfl dX1_become_83 ?_
              refine V_callNv hx (m_become l hk hk' hne (bsC (bs1 (bs0 T (P k')) (P k') 8) (P k') i) (q := 7 + 8 * i) (isQ_c (by omega)) hdi) cw_X1_44 (RMn (by decide) (by decide)) rfl (ix k (7 + 8 * i)) (SW_clk hk (isQ_c (by omega))) rfl rfl (Nat.le_of_ble_eq_true rfl) dX1_become_84 0 0 rfl rfl (fun ws1 e1 => ?_)
              subst e1
              refine V_iincN hx dX1_become_87 0 rfl [(2, .int (iZ (((i + 1 : Nat) : Int)))), (0, .ref (ad (ix k 0))), (1, .ref (ad (ix k' 0)))] (by decide) rfl ?_
              refine V_goto hx dX1_become_90 64 (by decide) ?_
              refine V_ws (ws' := SW g ad P k (bsC (bs1 (bs0 T (P k')) (P k') 8) (P k') (i + 1))) rfl ?_
              exact V_sub [0, 1, 2] rfl (ih (i + 1) (by omega) (by omega))
        refine V_ws (ws' := SW g ad P k (bsC (bs1 (bs0 T (P k')) (P k') 8) (P k') 0)) (by rw [show i = 8 by omega]; rfl) ?_
        exact V_sub [0, 1, 2] rfl (hL64 (nc (P k') + 1) 0 (by omega) (by omega))
      · refine V_aload_n hx dX1_become_32 1 rfl ?_
        refine gf_X1_15 hx (ix k 0) (SW_shop hk) rfl dX1_become_33 ?_
        refine V_iload_n hx dX1_become_36 0 rfl ?_
        refine V_aload_n hx dX1_become_37 2 rfl ?_
        refine gf_X1_15 hx (ix k' 0) (SW_shop' hk' hne) rfl dX1_become_38 ?_
        refine V_iload_n hx dX1_become_41 0 rfl ?_
        refine V_iald hx (by omega) (by omega) (by decide) (ix k' 1) (SW_8' hk' hne (Or.inl rfl) (by decide)) (v := P k' 1 i) rfl dX1_become_42 ?_
        refine V_iast hx (by omega) (by omega) (by decide) (ix k 1) (SW_8 hk (Or.inl rfl) (by decide)) (SW g ad P k (pt (bs1 (bs0 T (P k')) (P k') i) (1) (i) (P k' 1 i))) (SW_s8 (Or.inl rfl) (by decide)) dX1_become_43 ?_
        refine V_aload_n hx dX1_become_44 1 rfl ?_
        refine gf_X1_19 hx (ix k 0) (SW_shop hk) rfl dX1_become_45 ?_
        refine V_iload_n hx dX1_become_48 0 rfl ?_
        refine V_aload_n hx dX1_become_49 2 rfl ?_
        refine gf_X1_19 hx (ix k' 0) (SW_shop' hk' hne) rfl dX1_become_50 ?_
        refine V_iload_n hx dX1_become_53 0 rfl ?_
        refine V_iald hx (by omega) (by omega) (by decide) (ix k' 2) (SW_8' hk' hne (Or.inr (Or.inl rfl)) (by decide)) (v := P k' 2 i) rfl dX1_become_54 ?_
        refine V_iast hx (by omega) (by omega) (by decide) (ix k 2) (SW_8 hk (Or.inr (Or.inl rfl)) (by decide)) (SW g ad P k (pt (pt (bs1 (bs0 T (P k')) (P k') i) (1) (i) (P k' 1 i)) (2) (i) (P k' 2 i))) (SW_s8 (Or.inr (Or.inl rfl)) (by decide)) dX1_become_55 ?_
        refine V_iincN hx dX1_become_56 0 rfl [(2, .int (iZ (((i + 1 : Nat) : Int)))), (0, .ref (ad (ix k 0))), (1, .ref (ad (ix k' 0)))] (by decide) rfl ?_
        refine V_goto hx dX1_become_59 26 (by decide) ?_
        refine V_ws (ws' := SW g ad P k (bs1 (bs0 T (P k')) (P k') (i + 1))) (congrArg (SW g ad P k) (by funext a b; simp only [pt, bs1]; (repeat' split) <;> first | rfl | omega | grind)) ?_
        exact V_sub [0, 1, 2] rfl (ih (i + 1) (by omega) (by omega))
  refine V_ws (ws' := SW g ad P k (bs1 (bs0 T (P k')) (P k') 0)) (congrArg (SW g ad P k) (by funext a b; simp only [pt, bs1, bs0]; (repeat' split) <;> first | rfl | omega | grind)) ?_
  exact V_sub [0, 1, 2] rfl (hL26 (8 + 1) 0 (by omega) (by omega))
