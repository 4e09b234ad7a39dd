/-! the class TillOptimists: until, foresee, advise, digest -/
theorem adF_no {T : TS} {c : Nat} (h : ¬ (T (7 + 8 * c) 2 = 0 ∧ 0 < T (7 + 8 * c) 0)) : adF T (c + 1) = adF T c := by rw [adF, if_neg h]
theorem adF_b1 {T : TS} {c : Nat} (h : T (7 + 8 * c) 2 = 0 ∧ 0 < T (7 + 8 * c) 0) (h2 : (adF T c).1 = -1 ∨ sm (nc T) (clF T c) < (adF T c).2.1 ∨ (sm (nc T) (clF T c) = (adF T c).2.1 ∧ (adF T c).2.2 < T (7 + 8 * c) 1)) : adF T (c + 1) = ((c : Int), sm (nc T) (clF T c), T (7 + 8 * c) 1) := by rw [adF, if_pos h, if_pos h2]
theorem adF_b0 {T : TS} {c : Nat} (h : T (7 + 8 * c) 2 = 0 ∧ 0 < T (7 + 8 * c) 0) (h2 : ¬ ((adF T c).1 = -1 ∨ sm (nc T) (clF T c) < (adF T c).2.1 ∨ (sm (nc T) (clF T c) = (adF T c).2.1 ∧ (adF T c).2.2 < T (7 + 8 * c) 1))) : adF T (c + 1) = adF T c := by rw [adF, if_pos h, if_neg h2]
section VL
variable {x : CT} {l : Launch} {R : Room} {g : GT} {nL : Nat} {cc : ByteArray} {own : String} {k n : Nat} {ws : va_W} {pc : Nat} {lv : List (Nat × Value)} {st : List Value}
theorem V_lmul (hx : FX x l R g nL cc own) {a b : Int64} (hd : decode cc pc = .ok (.lmul, 1)) (kk : V x k n ws (pc + 1) lv (.long (a * b) :: st)) : V x k n ws pc lv (.long b :: .long a :: st) := by
  obtain ⟨p, l', e, R', s, m, args, below, meth, c, g', nL', A, H0, Q⟩ := x
  obtain ⟨rfl, rfl, rfl, rfl, hx, hb, hml, hown, hts, hK, hlk, hA⟩ := hx
  intro H locs ls hP hD hS h
  exact lv_lmul hx hb hd (kk H locs ls hP hD hS h)
theorem V_ladd (hx : FX x l R g nL cc own) {a b : Int64} (hd : decode cc pc = .ok (.ladd, 1)) (kk : V x k n ws (pc + 1) lv (.long (a + b) :: st)) : V x k n ws pc lv (.long b :: .long a :: st) := by
  obtain ⟨p, l', e, R', s, m, args, below, meth, c, g', nL', A, H0, Q⟩ := x
  obtain ⟨rfl, rfl, rfl, rfl, hx, hb, hml, hown, hts, hK, hlk, hA⟩ := hx
  intro H locs ls hP hD hS h
  exact lv_ladd hx hb hd (kk H locs ls hP hD hS h)
theorem V_i2l (hx : FX x l R g nL cc own) {a : Int32} (hd : decode cc pc = .ok (.i2l, 1)) (kk : V x k n ws (pc + 1) lv (.long a.toInt64 :: st)) : V x k n ws pc lv (.int a :: st) := by
  obtain ⟨p, l', e, R', s, m, args, below, meth, c, g', nL', A, H0, Q⟩ := x
  obtain ⟨rfl, rfl, rfl, rfl, hx, hb, hml, hown, hts, hK, hlk, hA⟩ := hx
  intro H locs ls hP hD hS h
  exact lv_i2l hx hb hd rfl (kk H locs ls hP hD hS h)
end VL
/-- a fold over the first n -/
def dgI : Nat → (Nat → Int64 → Int64) → Int64 → Int64
  | 0, _, d => d
  | n + 1, f, d => f n (dgI n f d)
def dgN (n : Nat) (f : Nat → Int) (d : Int64) : Int64 := dgI n (fun i d => d * 31 + (iZ (f i)).toInt64) d
noncomputable def dgDr (T : TS) (n : Nat) (d : Int64) : Int64 := dgI n (fun dr d => dgN 4 (fun w => drV T dr w) d) d
def dgSl (T : TS) (c n : Nat) (d : Int64) : Int64 := dgI n (fun dr d => dgN 3 (fun w => slV T (7 + 8 * c) dr w) d) d
noncomputable def dgCk (T : TS) (n : Nat) (d : Int64) : Int64 := dgI n (fun c d => dgSl T c (nd T) (dgN 7 (fun w => ckV T c w) d)) d
def dgCl (T : TS) (n : Nat) (d : Int64) : Int64 := dgI n (fun b d => dgN 3 (fun w => cfV T b w) d) d
noncomputable def dgV (T : TS) : Int64 := dgCl T (kpV T).toNat (dgCk T (nc T) (dgDr T (nd T) (dgN 7 (fun w => cnV T w) 1811)))
set_option maxHeartbeats 4000000 in
set_option maxRecDepth 100000 in
theorem x_until (l : Launch) {g : GT} {ad : Nat → Nat} {P : Nat → TS} (T : TS) (hS : SHP T) (hP1 : RG (P 1)) (hdn : ∀ c : Nat, (c : Int) < T 0 1 → T (7 + 8 * c) 2 = 0 ∨ T (7 + 8 * c) 2 = 1) (hG : ∀ T1 : TS, RG T1 → ∀ j : Nat, j ≤ 201 → GRok (grs (beT T1 T) j).1) : MI l yX2_until cX2_until 2 .int (rmN 8) g [.ref (ad 0)] (SW g ad P 0 T) (fun z ws9 => (∃ T1, RG T1 ∧ ((∃ r : Nat, r ≤ 200 ∧ (∀ j, j < r → anP (grs (beT T1 T) j).1) ∧ ¬ anP (grs (beT T1 T) r).1 ∧ z = r) ∨ ((∀ j, j ≤ 200 → anP (grs (beT T1 T) j).1) ∧ z = -1))) ∧ ∃ P9, RG (P9 1) ∧ ws9 = SW g ad P9 0 T) := by
  refine MI.of (own := RX2) (by decide) rfl (Nat.le_of_ble_eq_true rfl) (fun x hx hE => ?_)
  have hk : 0 < 2 := by decide
  obtain ⟨hT, ⟨hn1, hn8⟩, ⟨hc0, hc6⟩, ⟨hl0, hl9⟩⟩ := id hS
  have hn0 : 0 ≤ T 0 0 := by omega
  refine V_lv (lv' := [(0, .ref (ad 0))]) rfl ?_
  obtain ⟨P2, hP2⟩ : ∃ P2, P2 = ups P 0 T := ⟨_, rfl⟩
  have hP20 : P2 0 = T := by rw [hP2, ups_at]
  have hP21 : RG (P2 1) := by rw [hP2, ups_ne _ (by decide)]; exact hP1
  have hk : 1 < 2 := by decide
  have hk' : 0 < 2 := by decide
  have hne : (0 : Nat) ≠ 1 := by decide
  refine V_ws (ws' := SW g ad P2 1 (P2 1)) (by rw [hP2, ups_ne _ (by decide)]; exact SW_01) ?_
  refine V_aload_n hx dX2_until_0 0 rfl ?_
  refine gf_X2_16 hx 0 (SW_tillx) rfl dX2_until_1 ?_
  refine V_aload_n hx dX2_until_4 0 rfl ?_
  refine gf_X2_10 hx 0 (SW_tillx) rfl dX2_until_5 ?_
  refine V_callNv hx (m_sBecome l hk hk' hne (P := P2) (P2 1) (by rw [hP20]; omega) (by rw [hP20]; omega) (by rw [hP20]; exact hdn)) cw_X2_146 (RMn (by decide) (by decide)) rfl (ix 1 0) (SW_shop hk) rfl rfl (Nat.le_of_ble_eq_true rfl) dX2_until_8 0 0 rfl rfl (fun ws1 e1 => ?_)
  subst e1
  refine V_ws (ws' := SW g ad P2 1 (beT (P2 1) T)) (by rw [hP20]) ?_
  refine V_iconst hx dX2_until_11 ?_
  refine V_istore_n hx dX2_until_12 [(1, .int (iZ (0))), (0, .ref (ad 0))] (by decide) rfl ?_
  have hL13 : ∀ (n : Nat) (i : Nat), 201 < i + n → i ≤ 201 → (∀ j, j < i → anP (grs (beT (P2 1) T) j).1) → V x 0 0 (SW g ad P2 1 ((grs (beT (P2 1) T) i).1)) 13 [(1, .int (iZ ((i : Int)))), (0, .ref (ad 0))] [] := by
    intro n
    induction n with
    | zero =>
      intro i g1 g2 g3
      exact absurd g1 (by omega)
    | succ n ih =>
      intro i g1 g2 g3
      refine V_iload_n hx dX2_until_13 0 rfl ?_
      refine V_sipush hx dX2_until_14 rfl ?_
      refine V_icmp_gt hx dX2_until_17 46 (by decide) ⟨by omega, by omega⟩ ⟨by decide, by decide⟩ (fun h17 => ?_) (fun h17 => ?_)
      · refine V_iconst hx dX2_until_46 ?_
        exact hE _ _ _ _ dX2_until_47 rfl ⟨⟨P2 1, hP21, Or.inr ⟨fun j hj => g3 j (by omega), rfl⟩⟩, ⟨ups P2 1 ((grs (beT (P2 1) T) i).1), by rw [ups_at]; exact (hG (P2 1) hP21 i (by omega)).1, SW_1z hP20⟩⟩
      · have hGr := hG (P2 1) hP21 i (by omega)
        obtain ⟨hTi, ⟨hci0, hci6⟩, -, -⟩ := id hGr
        refine V_aload_n hx dX2_until_20 1 rfl ?_
        refine gf_X2_16 hx 0 (SW_tillx) rfl dX2_until_21 ?_
        refine V_callNi hx (m_isAny l hk ((grs (beT (P2 1) T) i).1) hTi (by omega) (by omega)) cw_X2_153 (RMn (by decide) (by decide)) rfl (ix 1 0) (SW_shop hk) rfl rfl (Nat.le_of_ble_eq_true rfl) dX2_until_24 0 0 rfl rfl (fun z2 ws2 e2 => ?_)
        obtain ⟨rfl, rfl⟩ := e2
        refine V_ifb_ne hx dX2_until_27 32 (by decide) (fun h27 => ?_) (fun h27 => ?_)
        · refine V_aload_n hx dX2_until_32 1 rfl ?_
          refine gf_X2_16 hx 0 (SW_tillx) rfl dX2_until_33 ?_
          refine V_callNi hx (m_goRound l hk ((grs (beT (P2 1) T) i).1) hGr) cw_X2_156 (RMn (by decide) (by decide)) rfl (ix 1 0) (SW_shop hk) rfl rfl (Nat.le_of_ble_eq_true rfl) dX2_until_36 0 0 rfl rfl (fun z3 ws3 e3 => ?_)
          obtain ⟨rfl, rfl⟩ := e3
          refine V_pop hx dX2_until_39 rfl ?_
          refine V_iincN hx dX2_until_40 0 rfl [(1, .int (iZ (((i + 1 : Nat) : Int)))), (0, .ref (ad 0))] (by decide) rfl ?_
          refine V_goto hx dX2_until_43 13 (by decide) ?_
          refine V_ws (ws' := SW g ad P2 1 ((grs (beT (P2 1) T) (i + 1)).1)) rfl ?_
          exact V_sub [0, 1] rfl (ih (i + 1) (by omega) (by omega) (lt_s g3 h27))
        · refine V_iload_n hx dX2_until_30 0 rfl ?_
          exact hE _ _ _ _ dX2_until_31 rfl ⟨⟨P2 1, hP21, Or.inl ⟨i, by omega, g3, h27, rfl⟩⟩, ⟨ups P2 1 ((grs (beT (P2 1) T) i).1), by rw [ups_at]; exact (hG (P2 1) hP21 i (by omega)).1, SW_1z hP20⟩⟩
  refine V_ws (ws' := SW g ad P2 1 ((grs (beT (P2 1) T) 0).1)) rfl ?_
  exact V_sub [0, 1] rfl (hL13 (201 + 1) 0 (by omega) (by omega) (fun d h9 => absurd h9 (Nat.not_lt_zero d)))
set_option maxHeartbeats 4000000 in
set_option maxRecDepth 100000 in
theorem x_foresee (l : Launch) {g : GT} {ad : Nat → Nat} (hst : l.stackTraces = false) {P : Nat → TS} (T : TS) (hS : SHP T) {r what : Int} (hr : rg r) (hwh : rg what) (hP1 : RG (P 1)) (hdn : ∀ c : Nat, (c : Int) < T 0 1 → T (7 + 8 * c) 2 = 0 ∨ T (7 + 8 * c) 2 = 1) (hG : ∀ T1 : TS, RG T1 → ∀ j : Nat, j ≤ 50 → GRok (grs (beT T1 T) j).1 ∧ 0 ≤ (grs (beT T1 T) j).1 0 0 ∧ (grs (beT T1 T) j).1 0 0 ≤ 8) : MXI l yX2_foresee cX2_foresee 3 .int (rmX 8 2) g [.ref (ad 0), .int (iZ (r)), .int (iZ (what))] (SW g ad P 0 T) (fun z ws9 => ((1 ≤ r ∧ r ≤ 50) ∧ (2 ≤ what ∧ what ≤ 6)) ∧ (∃ T1, RG T1 ∧ z = cnV (grs (beT T1 T) r.toNat).1 what) ∧ ∃ P9, RG (P9 1) ∧ ws9 = SW g ad P9 0 T) (fun E => (E = eIA ∧ ¬ (1 ≤ r ∧ r ≤ 50)) ∨ (E = eIO ∧ (1 ≤ r ∧ r ≤ 50) ∧ ¬ (2 ≤ what ∧ what ≤ 6))) := by
  refine MXI.of (own := RX2) (by decide) rfl rfl hst (Nat.le_of_ble_eq_true rfl) (fun x hx hz hTE hPX hE => ?_)
  have hk : 0 < 2 := by decide
  obtain ⟨hT, ⟨hn1, hn8⟩, ⟨hc0, hc6⟩, ⟨hl0, hl9⟩⟩ := id hS
  have hn0 : 0 ≤ T 0 0 := by omega
  refine V_lv (lv' := [(0, .ref (ad 0)), (1, .int (iZ (r))), (2, .int (iZ (what)))]) rfl ?_
  refine V_iload_n hx dX2_foresee_0 1 rfl ?_
  refine V_callXSv hx hz hPX (x_needRounds l hst (P := P) T hS (d := r) (by first | assumption | exact hT _ _ | exact ⟨by omega, by omega⟩)) cw_X2_107 ⟨Nat.le_of_ble_eq_true rfl, Nat.le_of_ble_eq_true rfl, Nat.le_of_ble_eq_true rfl, Nat.le_of_ble_eq_true rfl⟩ rfl rfl (Nat.le_of_ble_eq_true rfl) dX2_foresee_1 1 6 rfl rfl (fun E he => Or.inl he) (fun ws1 e1 => ?_)
  obtain ⟨v1, rfl⟩ := e1
  obtain ⟨u1, w1⟩ := id v1
  refine V_iload_n hx dX2_foresee_4 2 rfl ?_
  refine V_iconst hx dX2_foresee_5 ?_
  refine V_bipush hx dX2_foresee_6 rfl ?_
  refine V_callXSv hx hz hPX (x_needWhat l hst (P := P) T hS (d := what) (lo := 2) (hi := 6) (by first | assumption | exact hT _ _ | exact ⟨by omega, by omega⟩) ⟨by decide, by decide⟩ ⟨by decide, by decide⟩) cw_X2_62 ⟨Nat.le_of_ble_eq_true rfl, Nat.le_of_ble_eq_true rfl, Nat.le_of_ble_eq_true rfl, Nat.le_of_ble_eq_true rfl⟩ rfl rfl (Nat.le_of_ble_eq_true rfl) dX2_foresee_8 2 12 rfl rfl (fun E he => Or.inr ⟨he.1, v1, he.2⟩) (fun ws2 e2 => ?_)
  obtain ⟨v8, rfl⟩ := e2
  obtain ⟨u8, w8⟩ := id v8
  obtain ⟨P2, hP2⟩ : ∃ P2, P2 = ups P 0 T := ⟨_, rfl⟩
  have hP20 : P2 0 = T := by rw [hP2, ups_at]
  have hP21 : RG (P2 1) := by rw [hP2, ups_ne _ (by decide)]; exact hP1
  have hk : 1 < 2 := by decide
  have hk' : 0 < 2 := by decide
  have hne : (0 : Nat) ≠ 1 := by decide
  refine V_ws (ws' := SW g ad P2 1 (P2 1)) (by rw [hP2, ups_ne _ (by decide)]; exact SW_01) ?_
  refine V_aload_n hx dX2_foresee_11 0 rfl ?_
  refine gf_X2_16 hx 0 (SW_tillx) rfl dX2_foresee_12 ?_
  refine V_aload_n hx dX2_foresee_15 0 rfl ?_
  refine gf_X2_10 hx 0 (SW_tillx) rfl dX2_foresee_16 ?_
  refine V_callNv hx (m_sBecome l hk hk' hne (P := P2) (P2 1) (by rw [hP20]; omega) (by rw [hP20]; omega) (by rw [hP20]; exact hdn)) cw_X2_146 ⟨Nat.le_of_ble_eq_true rfl, Nat.le_of_ble_eq_true rfl, Nat.le_of_ble_eq_true rfl, Nat.le_of_ble_eq_true rfl⟩ rfl (ix 1 0) (SW_shop hk) rfl rfl (Nat.le_of_ble_eq_true rfl) dX2_foresee_19 2 12 rfl rfl (fun ws3 e3 => ?_)
  subst e3
  refine V_ws (ws' := SW g ad P2 1 (beT (P2 1) T)) (by rw [hP20]) ?_
  refine V_aload_n hx dX2_foresee_22 0 rfl ?_
  refine gf_X2_16 hx 0 (SW_tillx) rfl dX2_foresee_23 ?_
  refine V_iload_n hx dX2_foresee_26 1 rfl ?_
  refine V_callNi hx (m_goRounds l hk (beT (P2 1) T) (r := r) (by omega) (by omega) (fun j hj => (hG (P2 1) hP21 j (by omega)).1)) cw_X2_110 ⟨Nat.le_of_ble_eq_true rfl, Nat.le_of_ble_eq_true rfl, Nat.le_of_ble_eq_true rfl, Nat.le_of_ble_eq_true rfl⟩ rfl (ix 1 0) (SW_shop hk) rfl rfl (Nat.le_of_ble_eq_true rfl) dX2_foresee_27 2 12 rfl rfl (fun z4 ws4 e4 => ?_)
  obtain ⟨rfl, rfl⟩ := e4
  obtain ⟨hGr, hri0, hri8⟩ := hG (P2 1) hP21 r.toNat (by omega)
  obtain ⟨hTi, ⟨hci0, hci6⟩, -, -⟩ := id hGr
  refine V_pop hx dX2_foresee_30 rfl ?_
  refine V_aload_n hx dX2_foresee_31 0 rfl ?_
  refine gf_X2_16 hx 0 (SW_tillx) rfl dX2_foresee_32 ?_
  refine V_iload_n hx dX2_foresee_35 2 rfl ?_
  refine V_callNi hx (m_countFact l hk ((grs (beT (P2 1) T) r.toNat).1) hTi (by omega) (by omega) (by omega) (by omega) (what := what) (by omega) (by omega)) cw_X2_143 ⟨Nat.le_of_ble_eq_true rfl, Nat.le_of_ble_eq_true rfl, Nat.le_of_ble_eq_true rfl, Nat.le_of_ble_eq_true rfl⟩ rfl (ix 1 0) (SW_shop hk) rfl rfl (Nat.le_of_ble_eq_true rfl) dX2_foresee_36 2 12 rfl rfl (fun z5 ws5 e5 => ?_)
  obtain ⟨rfl, rfl⟩ := e5
  exact hE _ _ _ _ _ _ dX2_foresee_39 rfl (Nat.le_of_ble_eq_true rfl) (Nat.le_of_ble_eq_true rfl) ⟨⟨v1, v8⟩, ⟨P2 1, hP21, rfl⟩, ⟨ups P2 1 ((grs (beT (P2 1) T) r.toNat).1), by rw [ups_at]; exact hTi, SW_1z hP20⟩⟩
