/-! the class TillOptimists: its public methods; the world is SW g ad P 0 T, T what is now -/
theorem SW_tillx {g : GT} {ad : Nat → Nat} {P : Nat → TS} {k : Nat} {T : TS} : (SW g ad P k T)[0]? = some (ad 0, .inr (2, [.ref (ad (ix 0 0)), .ref (ad (ix 1 0))])) := SW_till
def rmX (n c : Nat) : Room := { frames := n, cells := c, slots := 6 * c, locals := 40 * n }
def SHP (T : TS) : Prop := RG T ∧ (1 ≤ T 0 0 ∧ T 0 0 ≤ 8) ∧ (0 ≤ T 0 1 ∧ T 0 1 ≤ 6) ∧ (0 ≤ T 0 2 ∧ T 0 2 < 2147483647)
def eIO : String := "java/lang/IndexOutOfBoundsException"
def eIA : String := "java/lang/IllegalArgumentException"
def eIS : String := "java/lang/IllegalStateException"
set_option maxHeartbeats 4000000 in
set_option maxRecDepth 100000 in
theorem x_needDrawer (l : Launch) {g : GT} {ad : Nat → Nat} (hst : l.stackTraces = false) {P : Nat → TS} (T : TS) (hS : SHP T) {d : Int} (hd : rg d) : MXV l yX2_needDrawer cX2_needDrawer 2 (rmX 6 1) g [.ref (ad 0), .int (iZ (d))] (SW g ad P 0 T) (fun ws9 => (0 ≤ d ∧ d < T 0 0) ∧ ws9 = SW g ad P 0 T) (fun E => E = eIO ∧ ¬ (0 ≤ d ∧ d < T 0 0)) := by
  refine MXV.of (own := RX2) (by decide) rfl rfl hst (Nat.le_of_ble_eq_true rfl) (fun x hx hz hTE hPX hE => ?_)
  have hk : 0 < 2 := by decide
  obtain ⟨hT, ⟨hn1, hn8⟩, ⟨hc0, hc6⟩, ⟨hl0, hl9⟩⟩ := id hS
  have hn0 : 0 ≤ T 0 0 := by omega
  refine V_lv (lv' := [(0, .ref (ad 0)), (1, .int (iZ (d)))]) rfl ?_
  refine V_iload_n hx dX2_needDrawer_0 1 rfl ?_
  refine V_if_lt hx dX2_needDrawer_1 15 (by decide) (by first | assumption | exact hT _ _ | exact ⟨by omega, by omega⟩) (fun h1 => ?_) (fun h1 => ?_)
  · exact hTE _ _ _ _ _ _ _ _ _ _ (kt_IOOBE (is := 179) (text := "no such drawer") (List.mem_of_getElem? (i := 2) rfl)) dX2_needDrawer_15 dX2_needDrawer_18 dX2_needDrawer_19 dX2_needDrawer_21 dX2_needDrawer_24 (by decide) (Nat.le_of_ble_eq_true rfl) (Nat.le_of_ble_eq_true rfl) (Nat.le_of_ble_eq_true rfl) ⟨rfl, by omega⟩
  · refine V_iload_n hx dX2_needDrawer_4 1 rfl ?_
    refine V_aload_n hx dX2_needDrawer_5 0 rfl ?_
    refine gf_X2_10 hx 0 (SW_tillx) rfl dX2_needDrawer_6 ?_
    refine gf_X2_26 hx (ix 0 0) (SW_shop hk) rfl dX2_needDrawer_9 ?_
    refine V_icmp_lt hx dX2_needDrawer_12 25 (by decide) (by first | assumption | exact hT _ _ | exact ⟨by omega, by omega⟩) (by first | assumption | exact hT _ _ | exact ⟨by omega, by omega⟩) (fun h12 => ?_) (fun h12 => ?_)
    · exact hE _ _ _ _ _ dX2_needDrawer_25 (Nat.le_of_ble_eq_true rfl) (Nat.le_of_ble_eq_true rfl) ⟨⟨by omega, by omega⟩, rfl⟩
    · exact hTE _ _ _ _ _ _ _ _ _ _ (kt_IOOBE (is := 179) (text := "no such drawer") (List.mem_of_getElem? (i := 2) rfl)) dX2_needDrawer_15 dX2_needDrawer_18 dX2_needDrawer_19 dX2_needDrawer_21 dX2_needDrawer_24 (by decide) (Nat.le_of_ble_eq_true rfl) (Nat.le_of_ble_eq_true rfl) (Nat.le_of_ble_eq_true rfl) ⟨rfl, by omega⟩
set_option maxHeartbeats 4000000 in
set_option maxRecDepth 100000 in
theorem x_needClerk (l : Launch) {g : GT} {ad : Nat → Nat} (hst : l.stackTraces = false) {P : Nat → TS} (T : TS) (hS : SHP T) {d : Int} (hd : rg d) : MXV l yX2_needClerk cX2_needClerk 2 (rmX 6 1) g [.ref (ad 0), .int (iZ (d))] (SW g ad P 0 T) (fun ws9 => (0 ≤ d ∧ d < T 0 1) ∧ ws9 = SW g ad P 0 T) (fun E => E = eIO ∧ ¬ (0 ≤ d ∧ d < T 0 1)) := by
  refine MXV.of (own := RX2) (by decide) rfl rfl hst (Nat.le_of_ble_eq_true rfl) (fun x hx hz hTE hPX hE => ?_)
  have hk : 0 < 2 := by decide
  obtain ⟨hT, ⟨hn1, hn8⟩, ⟨hc0, hc6⟩, ⟨hl0, hl9⟩⟩ := id hS
  have hn0 : 0 ≤ T 0 0 := by omega
  refine V_lv (lv' := [(0, .ref (ad 0)), (1, .int (iZ (d)))]) rfl ?_
  refine V_iload_n hx dX2_needClerk_0 1 rfl ?_
  refine V_if_lt hx dX2_needClerk_1 15 (by decide) (by first | assumption | exact hT _ _ | exact ⟨by omega, by omega⟩) (fun h1 => ?_) (fun h1 => ?_)
  · exact hTE _ _ _ _ _ _ _ _ _ _ (kt_IOOBE (is := 181) (text := "no such clerk") (List.mem_of_getElem? (i := 0) rfl)) dX2_needClerk_15 dX2_needClerk_18 dX2_needClerk_19 dX2_needClerk_21 dX2_needClerk_24 (by decide) (Nat.le_of_ble_eq_true rfl) (Nat.le_of_ble_eq_true rfl) (Nat.le_of_ble_eq_true rfl) ⟨rfl, by omega⟩
  · refine V_iload_n hx dX2_needClerk_4 1 rfl ?_
    refine V_aload_n hx dX2_needClerk_5 0 rfl ?_
    refine gf_X2_10 hx 0 (SW_tillx) rfl dX2_needClerk_6 ?_
    refine gf_X2_47 hx (ix 0 0) (SW_shop hk) rfl dX2_needClerk_9 ?_
    refine V_icmp_lt hx dX2_needClerk_12 25 (by decide) (by first | assumption | exact hT _ _ | exact ⟨by omega, by omega⟩) (by first | assumption | exact hT _ _ | exact ⟨by omega, by omega⟩) (fun h12 => ?_) (fun h12 => ?_)
    · exact hE _ _ _ _ _ dX2_needClerk_25 (Nat.le_of_ble_eq_true rfl) (Nat.le_of_ble_eq_true rfl) ⟨⟨by omega, by omega⟩, rfl⟩
    · exact hTE _ _ _ _ _ _ _ _ _ _ (kt_IOOBE (is := 181) (text := "no such clerk") (List.mem_of_getElem? (i := 0) rfl)) dX2_needClerk_15 dX2_needClerk_18 dX2_needClerk_19 dX2_needClerk_21 dX2_needClerk_24 (by decide) (Nat.le_of_ble_eq_true rfl) (Nat.le_of_ble_eq_true rfl) (Nat.le_of_ble_eq_true rfl) ⟨rfl, by omega⟩
set_option maxHeartbeats 4000000 in
set_option maxRecDepth 100000 in
theorem x_needWhat (l : Launch) {g : GT} {ad : Nat → Nat} (hst : l.stackTraces = false) {P : Nat → TS} (T : TS) (hS : SHP T) {d lo hi : Int} (hd : rg d) (hlo : rg lo) (hhi : rg hi) : MXV l yX2_needWhat cX2_needWhat 3 (rmX 6 1) g [.int (iZ (d)), .int (iZ (lo)), .int (iZ (hi))] (SW g ad P 0 T) (fun ws9 => (lo ≤ d ∧ d ≤ hi) ∧ ws9 = SW g ad P 0 T) (fun E => E = eIO ∧ ¬ (lo ≤ d ∧ d ≤ hi)) := by
  refine MXV.of (own := RX2) (by decide) rfl rfl hst (Nat.le_of_ble_eq_true rfl) (fun x hx hz hTE hPX hE => ?_)
  have hk : 0 < 2 := by decide
  obtain ⟨hT, ⟨hn1, hn8⟩, ⟨hc0, hc6⟩, ⟨hl0, hl9⟩⟩ := id hS
  have hn0 : 0 ≤ T 0 0 := by omega
  refine V_lv (lv' := [(0, .int (iZ (d))), (1, .int (iZ (lo))), (2, .int (iZ (hi)))]) rfl ?_
  refine V_iload_n hx dX2_needWhat_0 0 rfl ?_
  refine V_iload_n hx dX2_needWhat_1 1 rfl ?_
  refine V_icmp_lt hx dX2_needWhat_2 10 (by decide) (by first | assumption | exact hT _ _ | exact ⟨by omega, by omega⟩) (by first | assumption | exact hT _ _ | exact ⟨by omega, by omega⟩) (fun h2 => ?_) (fun h2 => ?_)
  · exact hTE _ _ _ _ _ _ _ _ _ _ (kt_IOOBE (is := 183) (text := "no such number to choose by") (List.mem_of_getElem? (i := 3) rfl)) dX2_needWhat_10 dX2_needWhat_13 dX2_needWhat_14 dX2_needWhat_16 dX2_needWhat_19 (by decide) (Nat.le_of_ble_eq_true rfl) (Nat.le_of_ble_eq_true rfl) (Nat.le_of_ble_eq_true rfl) ⟨rfl, by omega⟩
  · refine V_iload_n hx dX2_needWhat_5 0 rfl ?_
    refine V_iload_n hx dX2_needWhat_6 2 rfl ?_
    refine V_icmp_le hx dX2_needWhat_7 20 (by decide) (by first | assumption | exact hT _ _ | exact ⟨by omega, by omega⟩) (by first | assumption | exact hT _ _ | exact ⟨by omega, by omega⟩) (fun h7 => ?_) (fun h7 => ?_)
    · exact hE _ _ _ _ _ dX2_needWhat_20 (Nat.le_of_ble_eq_true rfl) (Nat.le_of_ble_eq_true rfl) ⟨⟨by omega, by omega⟩, rfl⟩
    · exact hTE _ _ _ _ _ _ _ _ _ _ (kt_IOOBE (is := 183) (text := "no such number to choose by") (List.mem_of_getElem? (i := 3) rfl)) dX2_needWhat_10 dX2_needWhat_13 dX2_needWhat_14 dX2_needWhat_16 dX2_needWhat_19 (by decide) (Nat.le_of_ble_eq_true rfl) (Nat.le_of_ble_eq_true rfl) (Nat.le_of_ble_eq_true rfl) ⟨rfl, by omega⟩
set_option maxHeartbeats 4000000 in
set_option maxRecDepth 100000 in
theorem x_needRounds (l : Launch) {g : GT} {ad : Nat → Nat} (hst : l.stackTraces = false) {P : Nat → TS} (T : TS) (hS : SHP T) {d : Int} (hd : rg d) : MXV l yX2_needRounds cX2_needRounds 1 (rmX 6 1) g [.int (iZ (d))] (SW g ad P 0 T) (fun ws9 => (1 ≤ d ∧ d ≤ 50) ∧ ws9 = SW g ad P 0 T) (fun E => E = eIA ∧ ¬ (1 ≤ d ∧ d ≤ 50)) := by
  refine MXV.of (own := RX2) (by decide) rfl rfl hst (Nat.le_of_ble_eq_true rfl) (fun x hx hz hTE hPX hE => ?_)
  have hk : 0 < 2 := by decide
  obtain ⟨hT, ⟨hn1, hn8⟩, ⟨hc0, hc6⟩, ⟨hl0, hl9⟩⟩ := id hS
  have hn0 : 0 ≤ T 0 0 := by omega
  refine V_lv (lv' := [(0, .int (iZ (d)))]) rfl ?_
  refine V_iload_n hx dX2_needRounds_0 0 rfl ?_
  refine V_iconst hx dX2_needRounds_1 ?_
  refine V_icmp_lt hx dX2_needRounds_2 11 (by decide) (by first | assumption | exact hT _ _ | exact ⟨by omega, by omega⟩) ⟨by decide, by decide⟩ (fun h2 => ?_) (fun h2 => ?_)
  · exact hTE _ _ _ _ _ _ _ _ _ _ (kt_IAE (is := 185) (text := "rounds are 1 to 50") (List.mem_of_getElem? (i := 5) rfl)) dX2_needRounds_11 dX2_needRounds_14 dX2_needRounds_15 dX2_needRounds_17 dX2_needRounds_20 (by decide) (Nat.le_of_ble_eq_true rfl) (Nat.le_of_ble_eq_true rfl) (Nat.le_of_ble_eq_true rfl) ⟨rfl, by omega⟩
  · refine V_iload_n hx dX2_needRounds_5 0 rfl ?_
    refine V_bipush hx dX2_needRounds_6 rfl ?_
    refine V_icmp_le hx dX2_needRounds_8 21 (by decide) (by first | assumption | exact hT _ _ | exact ⟨by omega, by omega⟩) ⟨by decide, by decide⟩ (fun h8 => ?_) (fun h8 => ?_)
    · exact hE _ _ _ _ _ dX2_needRounds_21 (Nat.le_of_ble_eq_true rfl) (Nat.le_of_ble_eq_true rfl) ⟨⟨by omega, by omega⟩, rfl⟩
    · exact hTE _ _ _ _ _ _ _ _ _ _ (kt_IAE (is := 185) (text := "rounds are 1 to 50") (List.mem_of_getElem? (i := 5) rfl)) dX2_needRounds_11 dX2_needRounds_14 dX2_needRounds_15 dX2_needRounds_17 dX2_needRounds_20 (by decide) (Nat.le_of_ble_eq_true rfl) (Nat.le_of_ble_eq_true rfl) (Nat.le_of_ble_eq_true rfl) ⟨rfl, by omega⟩
set_option maxHeartbeats 4000000 in
set_option maxRecDepth 100000 in
theorem x_till (l : Launch) {g : GT} {ad : Nat → Nat} (hst : l.stackTraces = false) {P : Nat → TS} (T : TS) (hS : SHP T) {a : Int} (ha : rg a) : MXI l yX2_till cX2_till 3 .int (rmX 8 1) g [.ref (ad 0), .int (iZ (a))] (SW g ad P 0 T) (fun z ws9 => (1 ≤ a ∧ a ≤ 8) ∧ z = T 0 0 ∧ ws9 = SW g ad P 0 (bgT T a 8)) (fun E => E = eIA ∧ ¬ (1 ≤ a ∧ a ≤ 8)) := by
  refine MXI.of (own := RX2) (by decide) rfl rfl hst (Nat.le_of_ble_eq_true rfl) (fun x hx hz hTE hPX hE => ?_)
  have hk : 0 < 2 := by decide
  obtain ⟨hT, ⟨hn1, hn8⟩, ⟨hc0, hc6⟩, ⟨hl0, hl9⟩⟩ := id hS
  have hn0 : 0 ≤ T 0 0 := by omega
  refine V_lv (lv' := [(0, .ref (ad 0)), (1, .int (iZ (a)))]) rfl ?_
  refine V_iload_n hx dX2_till_0 1 rfl ?_
  refine V_iconst hx dX2_till_1 ?_
  refine V_icmp_lt hx dX2_till_2 11 (by decide) (by first | assumption | exact hT _ _ | exact ⟨by omega, by omega⟩) ⟨by decide, by decide⟩ (fun h2 => ?_) (fun h2 => ?_)
  · exact hTE _ _ _ _ _ _ _ _ _ _ (kt_IAE (is := 21) (text := "a till has 1 to 8 drawers") (List.mem_of_getElem? (i := 7) rfl)) dX2_till_11 dX2_till_14 dX2_till_15 dX2_till_17 dX2_till_20 (by decide) (Nat.le_of_ble_eq_true rfl) (Nat.le_of_ble_eq_true rfl) (Nat.le_of_ble_eq_true rfl) ⟨rfl, by omega⟩
  · refine V_iload_n hx dX2_till_5 1 rfl ?_
    refine V_bipush hx dX2_till_6 rfl ?_
    refine V_icmp_le hx dX2_till_8 21 (by decide) (by first | assumption | exact hT _ _ | exact ⟨by omega, by omega⟩) ⟨by decide, by decide⟩ (fun h8 => ?_) (fun h8 => ?_)
    · refine V_aload_n hx dX2_till_21 0 rfl ?_
      refine gf_X2_10 hx 0 (SW_tillx) rfl dX2_till_22 ?_
      refine gf_X2_26 hx (ix 0 0) (SW_shop hk) rfl dX2_till_25 ?_
      refine V_istore_n hx dX2_till_28 [(2, .int (iZ (T 0 0))), (0, .ref (ad 0)), (1, .int (iZ (a)))] (by decide) rfl ?_
      refine V_aload_n hx dX2_till_29 1 rfl ?_
      refine gf_X2_10 hx 0 (SW_tillx) rfl dX2_till_30 ?_
      refine V_iload_n hx dX2_till_33 2 rfl ?_
      refine V_callNv hx (m_sBegin l hk T (m := a)) cw_X2_30 ⟨Nat.le_of_ble_eq_true rfl, Nat.le_of_ble_eq_true rfl, Nat.le_of_ble_eq_true rfl, Nat.le_of_ble_eq_true rfl⟩ rfl (ix 0 0) (SW_shop hk) rfl rfl (Nat.le_of_ble_eq_true rfl) dX2_till_34 0 0 rfl rfl (fun ws1 e1 => ?_)
      subst e1
      refine V_iload_n hx dX2_till_37 0 rfl ?_
      exact hE _ _ _ _ _ _ dX2_till_38 rfl (Nat.le_of_ble_eq_true rfl) (Nat.le_of_ble_eq_true rfl) ⟨⟨by omega, by omega⟩, rfl, rfl⟩
    · exact hTE _ _ _ _ _ _ _ _ _ _ (kt_IAE (is := 21) (text := "a till has 1 to 8 drawers") (List.mem_of_getElem? (i := 7) rfl)) dX2_till_11 dX2_till_14 dX2_till_15 dX2_till_17 dX2_till_20 (by decide) (Nat.le_of_ble_eq_true rfl) (Nat.le_of_ble_eq_true rfl) (Nat.le_of_ble_eq_true rfl) ⟨rfl, by omega⟩
set_option maxHeartbeats 4000000 in
set_option maxRecDepth 100000 in
theorem x_pay (l : Launch) {g : GT} {ad : Nat → Nat} (hst : l.stackTraces = false) {P : Nat → TS} (T : TS) (hS : SHP T) {d a : Int} (hd : rg d) (ha : rg a) : MXI l yX2_pay cX2_pay 4 .int (rmX 8 2) g [.ref (ad 0), .int (iZ (d)), .int (iZ (a))] (SW g ad P 0 T) (fun z ws9 => ((0 ≤ d ∧ d < T 0 0) ∧ (0 ≤ a ∧ a ≤ 9999)) ∧ z = T 1 d.toNat ∧ ws9 = SW g ad P 0 (pyT T d.toNat a)) (fun E => (E = eIO ∧ ¬ (0 ≤ d ∧ d < T 0 0)) ∨ (E = eIA ∧ (0 ≤ d ∧ d < T 0 0) ∧ ¬ (0 ≤ a ∧ a ≤ 9999))) := by
  refine MXI.of (own := RX2) (by decide) rfl rfl hst (Nat.le_of_ble_eq_true rfl) (fun x hx hz hTE hPX hE => ?_)
  have hk : 0 < 2 := by decide
  obtain ⟨hT, ⟨hn1, hn8⟩, ⟨hc0, hc6⟩, ⟨hl0, hl9⟩⟩ := id hS
  have hn0 : 0 ≤ T 0 0 := by omega
  refine V_lv (lv' := [(0, .ref (ad 0)), (1, .int (iZ (d))), (2, .int (iZ (a)))]) rfl ?_
  refine V_aload_n hx dX2_pay_0 0 rfl ?_
  refine V_iload_n hx dX2_pay_1 1 rfl ?_
  refine V_callXv hx hz hPX (x_needDrawer l hst (P := P) T hS (d := d) (by first | assumption | exact hT _ _ | exact ⟨by omega, by omega⟩)) cw_X2_34 ⟨Nat.le_of_ble_eq_true rfl, Nat.le_of_ble_eq_true rfl, Nat.le_of_ble_eq_true rfl, Nat.le_of_ble_eq_true rfl⟩ rfl 0 SW_tillx rfl rfl (Nat.le_of_ble_eq_true rfl) dX2_pay_2 1 6 rfl rfl (fun E he => Or.inl he) (fun ws1 e1 => ?_)
  obtain ⟨v2, rfl⟩ := e1
  obtain ⟨u2, w2⟩ := id v2
  refine V_iload_n hx dX2_pay_5 2 rfl ?_
  refine V_if_lt hx dX2_pay_6 16 (by decide) (by first | assumption | exact hT _ _ | exact ⟨by omega, by omega⟩) (fun h6 => ?_) (fun h6 => ?_)
  · exact hTE _ _ _ _ _ _ _ _ _ _ (kt_IAE (is := 37) (text := "an amount is 0 to 9999") (List.mem_of_getElem? (i := 8) rfl)) dX2_pay_16 dX2_pay_19 dX2_pay_20 dX2_pay_22 dX2_pay_25 (by decide) (Nat.le_of_ble_eq_true rfl) (Nat.le_of_ble_eq_true rfl) (Nat.le_of_ble_eq_true rfl) (Or.inr ⟨rfl, ⟨by omega, by omega⟩, by omega⟩)
  · refine V_iload_n hx dX2_pay_9 2 rfl ?_
    refine V_sipush hx dX2_pay_10 rfl ?_
    refine V_icmp_le hx dX2_pay_13 26 (by decide) (by first | assumption | exact hT _ _ | exact ⟨by omega, by omega⟩) ⟨by decide, by decide⟩ (fun h13 => ?_) (fun h13 => ?_)
    · refine V_aload_n hx dX2_pay_26 0 rfl ?_
      refine gf_X2_10 hx 0 (SW_tillx) rfl dX2_pay_27 ?_
      refine gf_X2_39 hx (ix 0 0) (SW_shop hk) rfl dX2_pay_30 ?_
      refine V_iload_n hx dX2_pay_33 1 rfl ?_
      refine V_iald hx (by omega) (by omega) (by decide) (ix 0 1) (SW_8 hk (Or.inl rfl) (by decide)) (v := T 1 d.toNat) rfl dX2_pay_34 ?_
      refine V_istore_n hx dX2_pay_35 [(3, .int (iZ (T 1 d.toNat))), (0, .ref (ad 0)), (1, .int (iZ (d))), (2, .int (iZ (a)))] (by decide) rfl ?_
      refine V_aload_n hx dX2_pay_36 1 rfl ?_
      refine gf_X2_10 hx 0 (SW_tillx) rfl dX2_pay_37 ?_
      refine V_iload_n hx dX2_pay_40 2 rfl ?_
      refine V_iload_n hx dX2_pay_41 3 rfl ?_
      refine V_callNv hx (m_pay l hk T hT (by omega) (by omega) (by omega) (by omega) (d := d) (by omega) (by omega) (v := a) (by first | assumption | exact hT _ _ | exact ⟨by omega, by omega⟩)) cw_X2_43 ⟨Nat.le_of_ble_eq_true rfl, Nat.le_of_ble_eq_true rfl, Nat.le_of_ble_eq_true rfl, Nat.le_of_ble_eq_true rfl⟩ rfl (ix 0 0) (SW_shop hk) rfl rfl (Nat.le_of_ble_eq_true rfl) dX2_pay_42 1 6 rfl rfl (fun ws2 e2 => ?_)
      subst e2
      refine V_iload_n hx dX2_pay_45 0 rfl ?_
      exact hE _ _ _ _ _ _ dX2_pay_46 rfl (Nat.le_of_ble_eq_true rfl) (Nat.le_of_ble_eq_true rfl) ⟨⟨⟨by omega, by omega⟩, ⟨by omega, by omega⟩⟩, rfl, rfl⟩
    · exact hTE _ _ _ _ _ _ _ _ _ _ (kt_IAE (is := 37) (text := "an amount is 0 to 9999") (List.mem_of_getElem? (i := 8) rfl)) dX2_pay_16 dX2_pay_19 dX2_pay_20 dX2_pay_22 dX2_pay_25 (by decide) (Nat.le_of_ble_eq_true rfl) (Nat.le_of_ble_eq_true rfl) (Nat.le_of_ble_eq_true rfl) (Or.inr ⟨rfl, ⟨by omega, by omega⟩, by omega⟩)
set_option maxHeartbeats 4000000 in
set_option maxRecDepth 100000 in
theorem x_clerk (l : Launch) {g : GT} {ad : Nat → Nat} (hst : l.stackTraces = false) {P : Nat → TS} (T : TS) (hS : SHP T) : MXI l yX2_clerk cX2_clerk 1 .int (rmX 8 1) g [.ref (ad 0)] (SW g ad P 0 T) (fun z ws9 => T 0 1 < 6 ∧ z = T 0 1 ∧ ws9 = SW g ad P 0 (acT T)) (fun E => E = eIS ∧ ¬ T 0 1 < 6) := by
  refine MXI.of (own := RX2) (by decide) rfl rfl hst (Nat.le_of_ble_eq_true rfl) (fun x hx hz hTE hPX hE => ?_)
  have hk : 0 < 2 := by decide
  obtain ⟨hT, ⟨hn1, hn8⟩, ⟨hc0, hc6⟩, ⟨hl0, hl9⟩⟩ := id hS
  have hn0 : 0 ≤ T 0 0 := by omega
  refine V_lv (lv' := [(0, .ref (ad 0))]) rfl ?_
  refine V_aload_n hx dX2_clerk_0 0 rfl ?_
  refine gf_X2_10 hx 0 (SW_tillx) rfl dX2_clerk_1 ?_
  refine gf_X2_47 hx (ix 0 0) (SW_shop hk) rfl dX2_clerk_4 ?_
  refine V_bipush hx dX2_clerk_7 rfl ?_
  refine V_icmp_lt hx dX2_clerk_9 22 (by decide) (by first | assumption | exact hT _ _ | exact ⟨by omega, by omega⟩) ⟨by decide, by decide⟩ (fun h9 => ?_) (fun h9 => ?_)
  · refine V_aload_n hx dX2_clerk_22 0 rfl ?_
    refine gf_X2_10 hx 0 (SW_tillx) rfl dX2_clerk_23 ?_
    refine V_callNi hx (m_addClerk l hk T hT (by omega) (by omega)) cw_X2_55 ⟨Nat.le_of_ble_eq_true rfl, Nat.le_of_ble_eq_true rfl, Nat.le_of_ble_eq_true rfl, Nat.le_of_ble_eq_true rfl⟩ rfl (ix 0 0) (SW_shop hk) rfl rfl (Nat.le_of_ble_eq_true rfl) dX2_clerk_26 0 0 rfl rfl (fun z1 ws1 e1 => ?_)
    obtain ⟨rfl, rfl⟩ := e1
    exact hE _ _ _ _ _ _ dX2_clerk_29 rfl (Nat.le_of_ble_eq_true rfl) (Nat.le_of_ble_eq_true rfl) ⟨by omega, rfl, rfl⟩
  · exact hTE _ _ _ _ _ _ _ _ _ _ (kt_ISE (is := 52) (text := "there are 6 clerks") (List.mem_of_getElem? (i := 9) rfl)) dX2_clerk_12 dX2_clerk_15 dX2_clerk_16 dX2_clerk_18 dX2_clerk_21 (by decide) (Nat.le_of_ble_eq_true rfl) (Nat.le_of_ble_eq_true rfl) (Nat.le_of_ble_eq_true rfl) ⟨rfl, by omega⟩
