/-! the law: its fourteen times -/
/-- a map of the class's own world -/
theorem hm_cw {g : GT} {ad : Nat → Nat} {P : Nat → TS} {T : TS} (hA : AI ad) : ∃ M : MM, HM M (SW g ad P 0 T) ∧ CWM g ad M P T := by
  classical
  refine ⟨fun a => if h : ∃ i, i < 111 ∧ ad i = a then some (1000, ce g ad (ups P 0 T) (Classical.choose h)) else none, fun a r e ha => ?_, fun i hi => ?_⟩
  · dsimp only at ha
    by_cases h : ∃ i, i < 111 ∧ ad i = a
    · rw [dif_pos h] at ha
      have h9 := Classical.choose_spec h
      cases ha
      exact List.mem_map.mpr ⟨Classical.choose h, List.mem_range.mpr h9.1, by rw [h9.2]⟩
    · rw [dif_neg h] at ha
      cases ha
  · have h : ∃ j, j < 111 ∧ ad j = ad i := ⟨i, hi, rfl⟩
    have h9 := Classical.choose_spec h
    have e := hA _ _ h9.1 hi h9.2
    show (if h : ∃ j, j < 111 ∧ ad j = ad i then some (1000, ce g ad (ups P 0 T) (Classical.choose h)) else none) = _
    rw [dif_pos h, e]
theorem ai_nd {g : GT} {ad : Nat → Nat} {P : Nat → TS} {T : TS} (h : ((SW g ad P 0 T).map Prod.fst).Nodup) : AI ad := by
  intro i j hi hj e
  have e1 : (SW g ad P 0 T).map Prod.fst = (List.range 111).map ad := by
    unfold SW CW
    rw [List.map_map]
    rfl
  rw [e1] at h
  have h1 := List.pairwise_iff_getElem.mp h
  rcases Nat.lt_trichotomy i j with h2 | h2 | h2
  · have := h1 i j (by simpa using hi) (by simpa using hj) h2
    simp at this
    exact absurd e this
  · exact h2
  · have := h1 j i (by simpa using hj) (by simpa using hi) h2
    simp at this
    exact absurd e.symm this
set_option maxHeartbeats 4000000 in
set_option maxRecDepth 100000 in
theorem z_lawM (l : Launch) (hst : l.stackTraces = false) {g : GT} {x : CT} (hx : FX x l room_1 g 24 cL_law RL) (hz : TXF x) {b L : Nat} {xs : Nat → Int32} (hs : FSC x b L xs) (hL : L ≤ 260) {ad : Nat → Nat} (hA : AI ad) {sp : Nat} {cl : Nat → Nat} {nn mm : Int} (hm1 : 1 ≤ mm)
    (hEnd : ∀ (T9 : TS) (ws1 : va_W) (N1 : MM) (P1 : Nat → TS), HM N1 ws1 → STT g ad N1 sp cl P1 T9 2108 → T9 0 1 = mm → V x (1000 + 8000 * 14) (30000 + 369400 * 14) ws1 852 [(2, .ref sp), (1, .ref (ad 0)), (0, .ref b)] []) : ∀ (n tm : Nat) (w1 : va_W) (N1 : MM) (P : Nat → TS) (T : TS), 14 < tm + n → tm ≤ 14 → HM N1 w1 → STT g ad N1 sp cl P T (8 + 150 * ((tm : Nat) : Int)) → T 0 0 = nn → T 0 1 = mm → V x (1000 + 8000 * tm) (30000 + 369400 * tm) w1 36 [(5, .int (iZ ((tm : Int)))), (4, .int (iZ (mm))), (3, .int (iZ (nn))), (2, .ref (sp)), (1, .ref ((ad 0))), (0, .ref (b))] [] := by
  intro n; induction n with
  | zero => intro tm w1 N1 P T g1 g2; exact absurd g1 (by omega)
  | succ n ih =>
    intro tm w1 N1 P T g1 g2 hN1 hSt hnn hmm
    obtain ⟨hC, hS, hw, hI, hP1⟩ := id hSt
    obtain ⟨hT, ⟨tn1, tn8⟩, ⟨hc0, hc9⟩, ⟨hz0, hz9⟩, ham1, hck9⟩ := id hw
    have hni := nc_i hw
    have h6 : nc T ≤ 6 := by omega
    have hnd : ((nd T : Nat) : Int) = T 0 0 := Int.toNat_of_nonneg (by omega)
    refine V_iload hx dL_law_36 0 rfl ?_
    refine V_bipush hx dL_law_38 rfl ?_
    refine V_icmp_ge hx dL_law_40 852 (by decide) ⟨by omega, by omega⟩ ⟨by decide, by decide⟩ (fun h40 => ?_) (fun h40 => ?_)
    · refine V_widen (k' := 1000 + 8000 * 14) (n' := 30000 + 369400 * 14) (by first | omega | (dsimp only [rmA, rmX, rmN]; omega)) (by first | omega | (dsimp only [rmA, rmX, rmN]; omega)) ?_
      exact V_sub [3, 4, 5] rfl (hEnd T _ _ P hN1 ⟨hC, hS, wf_mono hw (by omega), hI, hP1⟩ hmm)
    · refine V_aload_n hx dL_law_43 5 rfl ?_
      refine V_iconst hx dL_law_44 ?_
      refine V_iload hx dL_law_45 0 rfl ?_
      refine V_iadd hx dL_law_47 ?_
      refine V_callIS hx hz hs (z_cell l hL (k9 := 2 + (tm : Int)) (by omega) (by omega)) cw_L_51 (RMa (by dsimp only [rmA, rmN, rmX, room_1]; omega) (by dsimp only [rmA, rmN, rmX, room_1]; omega) (by dsimp only [rmA, rmN, rmX, room_1]; omega) (by dsimp only [rmA, rmN, rmX, room_1]; omega)) rfl rfl (Nat.le_of_ble_eq_true rfl) dL_law_48 _ _ rfl rfl (fun c1 w1 e1 => ?_)
      obtain ⟨c1r, e1⟩ := e1
      replace e1 := e1.symm
      subst e1
      refine V_iconst hx dL_law_51 ?_
      refine V_ishr hx dL_law_52 (fun z2 r2 => ?_)
      refine V_sipush hx dL_law_53 rfl ?_
      refine V_iload hx dL_law_56 0 rfl ?_
      refine V_imul hx dL_law_58 ?_
      refine V_iadd hx dL_law_59 ?_
      refine V_istore hx dL_law_60 [(6, .int (iZ (z2 + (263 * (tm : Int))))), (5, .int (iZ ((tm : Int)))), (4, .int (iZ (mm))), (3, .int (iZ (nn))), (2, .ref (sp)), (1, .ref ((ad 0))), (0, .ref (b))] (by decide) rfl ?_
      refine V_aload_n hx dL_law_62 5 rfl ?_
      refine V_aload_n hx dL_law_63 4 rfl ?_
      refine V_iload hx dL_law_64 0 rfl ?_
      refine V_callHT hx hz (z_actL l hst hN1 hA hSt (by omega) (by omega) (x9 := z2 + (263 * (tm : Int)))) (ch_act 105 q639) (RMa (by dsimp only [rmA, rmN, rmX, room_1]; omega) (by dsimp only [rmA, rmN, rmX, room_1]; omega) (by dsimp only [rmA, rmN, rmX, room_1]; omega) (by dsimp only [rmA, rmN, rmX, room_1]; omega)) rfl rfl (Nat.le_of_ble_eq_true rfl) dL_law_66 _ _ rfl rfl (fun z3 w3 e3 => ?_)
      obtain ⟨rfl, M3, T3, hM3, hSt9, e90, e91, kp3⟩ := e3
      refine V_if_ne hx dL_law_69 74 (by decide) ⟨by decide, by decide⟩ (fun h69 => ?_) (fun h69 => absurd h69 (by decide))
      refine V_widen (k' := 1000 + 8000 * tm + 1000) (n' := 30000 + 369400 * tm + 264400) (by first | omega | (dsimp only [rmA, rmX, rmN]; omega)) (by first | omega | (dsimp only [rmA, rmX, rmN]; omega)) ?_
      exact V_sub [0, 1, 2, 3, 4, 5, 6] rfl (z_lawT l hst hx hz hA hSt9.2.2.1 hSt9.2.2.2.1 (by omega) (tm := tm) (by omega) (e90.trans hnn) (e91.trans hmm) hM3 hSt9.1 hSt9.2.1 hSt9.2.2.2.2 (k0 := 1000 + 8000 * tm + 1000) (n0 := 30000 + 369400 * tm + 264400) (by omega) (by omega) (fun T9 w9 N9 P9 a1 a2 a3 a4 => V_widen (by omega) (by omega) (ih (tm + 1) w9 N9 P9 T9 (by omega) (by omega) a1 ⟨a2.1, a2.2.1, wf_mono a2.2.2.1 (by omega), a2.2.2.2⟩ a3 a4)))
