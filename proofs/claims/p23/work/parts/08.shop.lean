/-! the class Shop: what its methods do to a shop's ints -/
def nd (T : TS) : Nat := (T 0 0).toNat
def nc (T : TS) : Nat := (T 0 1).toNat
def bgT (T : TS) (n : Int) (d : Nat) : TS := fun a b => if a = 0 ∧ b = 0 then n else if a = 0 ∧ (b = 1 ∨ b = 2) then 0 else if (a = 1 ∨ a = 2) ∧ b < d then 0 else T a b
def acT (T : TS) : TS := pt (baT T (7 + 8 * (T 0 1).toNat)) 0 1 (T 0 1 + 1)
def hl (a : Int) : Int := if a < 0 then 0 else if 9999 < a then 9999 else a
def rdT (T : TS) (q d : Nat) : TS := if T (q + 7) d ≠ -1 then T else if T (q + 5) d ≠ -1 then T else pt (pt T (q + 5) d (T 1 d)) (q + 6) d (T 2 d)
def rdV (T : TS) (q d : Nat) : Int := if T (q + 7) d ≠ -1 then T (q + 7) d else if T (q + 5) d ≠ -1 then T (q + 5) d else T 1 d
def odP (T : TS) (q n : Nat) : Prop := ∃ d, d < n ∧ T (q + 5) d ≠ -1 ∧ T (q + 6) d ≠ T 2 d
def shT (T : TS) (i : Nat) : TS := fun a b => if (a = 4 ∨ a = 5 ∨ a = 6) ∧ i < b ∧ b < 10 then T a (b - 1) else T a b
def kcT (T : TS) (c w : Int) : TS := pt (pt (pt (shT T 0) 4 0 c) 5 0 w) 6 0 (sm (nd T) (T 1))
def pyT (T : TS) (d : Nat) (v : Int) : TS := kcT (pt (pt (pt T 0 2 (T 0 2 + 1)) 1 d v) 2 d (T 0 2 + 1)) (-1) 1
def cyT (T : TS) (q d e : Nat) (b : Int) : TS := if rdV T q d < b then rdT T q d else pt (pt (rdT (rdT T q d) q e) (q + 7) d (rdV T q d - b)) (q + 7) e (hl (rdV (rdT T q d) q e + b))
def dsT (T : TS) (q p : Nat) : TS := if T (q + 1) p = 0 then rdT T q (T (q + 2) p).toNat else if T (q + 1) p = 1 then pt T (q + 7) (T (q + 2) p).toNat (T (q + 4) p) else if T (q + 1) p = 2 then pt (rdT T q (T (q + 2) p).toNat) (q + 7) (T (q + 2) p).toNat (hl (rdV T q (T (q + 2) p).toNat + T (q + 4) p)) else cyT T q (T (q + 2) p).toNat (T (q + 3) p).toNat (T (q + 4) p)
def clL (T : TS) (q i : Nat) (z : Int) : TS := fun a b => if a = 1 ∧ b < i ∧ T (q + 7) b ≠ -1 then T (q + 7) b else if a = 2 ∧ b < i ∧ T (q + 7) b ≠ -1 then z else T a b
noncomputable def clT (T : TS) (q : Nat) (c : Int) : TS := kcT (pt (clL (pt T 0 2 (T 0 2 + 1)) q (nd T) (T 0 2 + 1)) q 2 1) c (sm 8 (wrF T q))
noncomputable def tkT (T : TS) (c : Nat) : TS := if T (7 + 8 * c) 1 < T (7 + 8 * c) 0 then pt (dsT T (7 + 8 * c) (T (7 + 8 * c) 1).toNat) (7 + 8 * c) 1 (T (7 + 8 * c) 1 + 1) else if bz (odP T (7 + 8 * c) (nd T)) = 1 then soT (pt T (7 + 8 * c) 3 (T (7 + 8 * c) 3 + 1)) (7 + 8 * c) 8 else clT T (7 + 8 * c) c
noncomputable def tkV (T : TS) (c : Nat) : Int := if T (7 + 8 * c) 1 < T (7 + 8 * c) 0 then 0 else if bz (odP T (7 + 8 * c) (nd T)) = 1 then 2 else 1
theorem V_min {x : CT} {l : Launch} {R : Room} {g : GT} {nL : Nat} {cc : ByteArray} {own : String} {k n : Nat} {ws : va_W} {pc : Nat} {lv : List (Nat × Value)} {st : List Value} (hx : FX x l R g nL cc own) {a b : Int} {index : Nat} (h1 : Cond.methodLink own index Lib.Math.min.name ∈ tbl) (h2 : Cond.static Lib.Math.min.name ∈ tbl) (h3 : Cond.initialized "java/lang/Math" ∈ tbl) (h4 : Cond.code Lib.Math.min.name Lib.Math.min.code 2 (some .int) ∈ tbl) (ha : rg a) (hb : rg b)
    (hf : 1 ≤ R.frames) (hlo : (st.map fun v => v.category).sum + 13 ≤ R.locals) (hk : k ≤ R.cells) (hn : n ≤ R.slots) (hd : decode cc pc = .ok (.invokestatic index, 3)) (kk : V x k n ws (pc + 3) lv (.int (iZ (if b < a then b else a)) :: st)) : V x k n ws pc lv (.int (iZ b) :: .int (iZ a) :: st) := by
  have e : (if iZ b < iZ a then iZ b else iZ a) = iZ (if b < a then b else a) := by
    by_cases h : b < a
    · rw [if_pos h, if_pos ((iZ_lt hb ha).mpr h)]
    · rw [if_neg h, if_neg (fun z => h ((iZ_lt hb ha).mp z))]
  obtain ⟨p, l', e9, R', s, m, args, below, meth, c, g', nL', A, H0, Q⟩ := x
  obtain ⟨rfl, rfl, rfl, rfl, hx, hb0, hml, hown, hts, hK, hlk, hA⟩ := hx
  intro H locs ls hP hD hS h
  refine va_mmin hx hb0 (hml.trans h.1.symm) hown (hts _ _ h1) (hts _ _ h2) (hts _ _ h3) (hts _ _ h4) hf hlo hk hn hd ?_
  rw [e]
  exact kk H locs ls hP hD hS h
theorem V_max {x : CT} {l : Launch} {R : Room} {g : GT} {nL : Nat} {cc : ByteArray} {own : String} {k n : Nat} {ws : va_W} {pc : Nat} {lv : List (Nat × Value)} {st : List Value} (hx : FX x l R g nL cc own) {a b : Int} {index : Nat} (h1 : Cond.methodLink own index Lib.Math.max.name ∈ tbl) (h2 : Cond.static Lib.Math.max.name ∈ tbl) (h3 : Cond.initialized "java/lang/Math" ∈ tbl) (h4 : Cond.code Lib.Math.max.name Lib.Math.max.code 2 (some .int) ∈ tbl) (ha : rg a) (hb : rg b)
    (hf : 1 ≤ R.frames) (hlo : (st.map fun v => v.category).sum + 13 ≤ R.locals) (hk : k ≤ R.cells) (hn : n ≤ R.slots) (hd : decode cc pc = .ok (.invokestatic index, 3)) (kk : V x k n ws (pc + 3) lv (.int (iZ (if a < b then b else a)) :: st)) : V x k n ws pc lv (.int (iZ b) :: .int (iZ a) :: st) := by
  have e : (if iZ a < iZ b then iZ b else iZ a) = iZ (if a < b then b else a) := by
    by_cases h : a < b
    · rw [if_pos h, if_pos ((iZ_lt ha hb).mpr h)]
    · rw [if_neg h, if_neg (fun z => h ((iZ_lt ha hb).mp z))]
  obtain ⟨p, l', e9, R', s, m, args, below, meth, c, g', nL', A, H0, Q⟩ := x
  obtain ⟨rfl, rfl, rfl, rfl, hx, hb0, hml, hown, hts, hK, hlk, hA⟩ := hx
  intro H locs ls hP hD hS h
  refine va_mmax hx hb0 (hml.trans h.1.symm) hown (hts _ _ h1) (hts _ _ h2) (hts _ _ h3) (hts _ _ h4) hf hlo hk hn hd ?_
  rw [e]
  exact kk H locs ls hP hD hS h
set_option maxHeartbeats 4000000 in
set_option maxRecDepth 100000 in
theorem m_sBegin (l : Launch) {g : GT} {ad : Nat → Nat} {P : Nat → TS} {k : Nat} (hk : k < 2) (T : TS) {m : Int} : MV l yX1_beginAnew cX1_beginAnew 3 (rmN 0) g [.ref (ad (ix k 0)), .int (iZ (m))] (SW g ad P k T) (fun ws9 => ws9 = SW g ad P k (bgT T m 8)) := by
  refine MV.of (own := RX1) (by decide) rfl (Nat.le_of_ble_eq_true rfl) (fun x hx hE => ?_)
  refine V_lv (lv' := [(0, .ref (ad (ix k 0))), (1, .int (iZ (m)))]) rfl ?_
  refine V_aload_n hx dX1_beginAnew_0 0 rfl ?_
  refine V_iload_n hx dX1_beginAnew_1 1 rfl ?_
  refine pf_X1_9 hx (ix k 0) (SW_shop hk) (Nat.le_of_ble_eq_true rfl) (SW g ad P k (pt T (0) (0) (m))) SW_ss0 dX1_beginAnew_2 ?_
  refine V_aload_n hx dX1_beginAnew_5 0 rfl ?_
  refine V_iconst hx dX1_beginAnew_6 ?_
  refine pf_X1_38 hx (ix k 0) (SW_shop hk) (Nat.le_of_ble_eq_true rfl) (SW g ad P k (pt (pt T (0) (0) (m)) (0) (1) (0))) SW_ss1 dX1_beginAnew_7 ?_
  refine V_aload_n hx dX1_beginAnew_10 0 rfl ?_
  refine V_iconst hx dX1_beginAnew_11 ?_
  refine pf_X1_41 hx (ix k 0) (SW_shop hk) (Nat.le_of_ble_eq_true rfl) (SW g ad P k (pt (pt (pt T (0) (0) (m)) (0) (1) (0)) (0) (2) (0))) SW_ss2 dX1_beginAnew_12 ?_
  refine V_iconst hx dX1_beginAnew_15 ?_
  refine V_istore_n hx dX1_beginAnew_16 [(2, .int (iZ (0))), (0, .ref (ad (ix k 0))), (1, .int (iZ (m)))] (by decide) rfl ?_
  have hL17 : ∀ (n : Nat) (i : Nat), 8 < i + n → i ≤ 8 → V x 0 0 (SW g ad P k (bgT T m i)) 17 [(2, .int (iZ ((i : Int)))), (0, .ref (ad (ix k 0))), (1, .int (iZ (m)))] [] := by
    intro n
    induction n with
    | zero =>
      intro i g1 g2 
      exact absurd g1 (by omega)
    | succ n ih =>
      intro i g1 g2 
      refine V_iload_n hx dX1_beginAnew_17 0 rfl ?_
      refine V_bipush hx dX1_beginAnew_18 rfl ?_
      refine V_icmp_ge hx dX1_beginAnew_20 43 (by decide) ⟨by omega, by omega⟩ ⟨by decide, by decide⟩ (fun h20 => ?_) (fun h20 => ?_)
      · exact hE _ _ _ dX1_beginAnew_43 (by rw [show i = 8 by omega])
      · refine V_aload_n hx dX1_beginAnew_23 1 rfl ?_
        refine gf_X1_15 hx (ix k 0) (SW_shop hk) rfl dX1_beginAnew_24 ?_
        refine V_iload_n hx dX1_beginAnew_27 0 rfl ?_
        refine V_iconst hx dX1_beginAnew_28 ?_
        refine V_iast hx (by omega) (by omega) (by decide) (ix k 1) (SW_8 hk (Or.inl rfl) (by decide)) (SW g ad P k (pt (bgT T m i) (1) (i) (0))) (SW_s8 (Or.inl rfl) (by decide)) dX1_beginAnew_29 ?_
        refine V_aload_n hx dX1_beginAnew_30 1 rfl ?_
        refine gf_X1_19 hx (ix k 0) (SW_shop hk) rfl dX1_beginAnew_31 ?_
        refine V_iload_n hx dX1_beginAnew_34 0 rfl ?_
        refine V_iconst hx dX1_beginAnew_35 ?_
        refine V_iast hx (by omega) (by omega) (by decide) (ix k 2) (SW_8 hk (Or.inr (Or.inl rfl)) (by decide)) (SW g ad P k (pt (pt (bgT T m i) (1) (i) (0)) (2) (i) (0))) (SW_s8 (Or.inr (Or.inl rfl)) (by decide)) dX1_beginAnew_36 ?_
        refine V_iincN hx dX1_beginAnew_37 0 rfl [(2, .int (iZ (((i + 1 : Nat) : Int)))), (0, .ref (ad (ix k 0))), (1, .int (iZ (m)))] (by decide) rfl ?_
        refine V_goto hx dX1_beginAnew_40 17 (by decide) ?_
        refine V_ws (ws' := SW g ad P k (bgT T m (i + 1))) (congrArg (SW g ad P k) (by funext a b; simp only [pt, bgT]; (repeat' split) <;> first | rfl | omega | grind)) ?_
        exact V_sub [0, 1, 2] rfl (ih (i + 1) (by omega) (by omega))
  refine V_ws (ws' := SW g ad P k (bgT T m 0)) (congrArg (SW g ad P k) (by funext a b; simp only [pt, bgT]; (repeat' split) <;> first | rfl | omega | grind)) ?_
  exact V_sub [0, 1, 2] rfl (hL17 (8 + 1) 0 (by omega) (by omega))
set_option maxHeartbeats 4000000 in
set_option maxRecDepth 100000 in
theorem m_addClerk (l : Launch) {g : GT} {ad : Nat → Nat} {P : Nat → TS} {k : Nat} (hk : k < 2) (T : TS) (hT : RG T) (hc0 : 0 ≤ T 0 1) (hc6 : T 0 1 < 6) : MI l yX1_addClerk cX1_addClerk 2 .int (rmN 2) g [.ref (ad (ix k 0))] (SW g ad P k T) (fun z ws9 => z = T 0 1 ∧ ws9 = SW g ad P k (acT T)) := by
  refine MI.of (own := RX1) (by decide) rfl (Nat.le_of_ble_eq_true rfl) (fun x hx hE => ?_)
  refine V_lv (lv' := [(0, .ref (ad (ix k 0)))]) rfl ?_
  refine V_aload_n hx dX1_addClerk_0 0 rfl ?_
  refine gf_X1_38 hx (ix k 0) (SW_shop hk) rfl dX1_addClerk_1 ?_
  refine V_istore_n hx dX1_addClerk_4 [(1, .int (iZ (T 0 1))), (0, .ref (ad (ix k 0)))] (by decide) rfl ?_
  refine V_iload_n hx dX1_addClerk_5 0 rfl ?_
  refine V_bipush hx dX1_addClerk_6 rfl ?_
  refine V_icmp_ge hx dX1_addClerk_8 30 (by decide) (by first | assumption | exact hT _ _ | exact ⟨by omega, by omega⟩) ⟨by decide, by decide⟩ (fun h8 => absurd h8 (by omega)) (fun h8 => ?_)
  refine V_aload_n hx dX1_addClerk_11 1 rfl ?_
  refine gf_X1_24 hx (ix k 0) (SW_shop hk) rfl dX1_addClerk_12 ?_
  refine V_iload_n hx dX1_addClerk_15 0 rfl ?_
  refine V_aald hx (by omega) (by omega) (by decide) (ix k 3) (SW_refs hk) (r := ad (ix k (7 + 8 * ((T 0 1).toNat)))) rfl dX1_addClerk_16 ?_
  refine V_callNv hx (m_beginAnew l hk T (q := 7 + 8 * ((T 0 1).toNat)) (isQ_c (by omega))) cw_X1_48 (RMn (by decide) (by decide)) rfl (ix k (7 + 8 * ((T 0 1).toNat))) (SW_clk hk (isQ_c (by omega))) rfl rfl (Nat.le_of_ble_eq_true rfl) dX1_addClerk_17 0 0 rfl rfl (fun ws1 e1 => ?_)
  subst e1
  refine V_aload_n hx dX1_addClerk_20 1 rfl ?_
  refine V_dup hx dX1_addClerk_21 rfl ?_
  refine gf_X1_38 hx (ix k 0) (SW_shop hk) rfl dX1_addClerk_22 ?_
  refine V_iconst hx dX1_addClerk_25 ?_
  refine V_iadd hx dX1_addClerk_26 ?_
  refine pf_X1_38 hx (ix k 0) (SW_shop hk) (Nat.le_of_ble_eq_true rfl) (SW g ad P k (pt (baT T (7 + 8 * ((T 0 1).toNat))) (0) (1) (((baT T (7 + 8 * ((T 0 1).toNat))) 0 1) + 1))) SW_ss1 dX1_addClerk_27 ?_
  refine V_iload_n hx dX1_addClerk_30 0 rfl ?_
  exact hE _ _ _ _ dX1_addClerk_31 rfl ⟨rfl, congrArg (SW g ad P k) (by rw [acT, show baT T (7 + 8 * (T 0 1).toNat) 0 1 = T 0 1 from by simp only [baT, soT, pt]; (repeat' split) <;> first | rfl | omega | grind])⟩
set_option maxHeartbeats 4000000 in
set_option maxRecDepth 100000 in
theorem m_held (l : Launch) {g : GT} {ad : Nat → Nat} {P : Nat → TS} {k : Nat} (T : TS) {a : Int} (ha : rg a) : MI l yX1_held cX1_held 1 .int (rmN 1) g [.int (iZ (a))] (SW g ad P k T) (fun z ws9 => z = hl a ∧ ws9 = SW g ad P k T) := by
  refine MI.of (own := RX1) (by decide) rfl (Nat.le_of_ble_eq_true rfl) (fun x hx hE => ?_)
  refine V_lv (lv' := [(0, .int (iZ (a)))]) rfl ?_
  refine V_iload_n hx dX1_held_0 0 rfl ?_
  refine V_if_ge hx dX1_held_1 8 (by decide) ha (fun h1 => ?_) (fun h1 => ?_)
  · refine V_iload_n hx dX1_held_8 0 rfl ?_
    refine V_sipush hx dX1_held_9 rfl ?_
    refine V_min hx qm1 qm2 q12 qm3 ha ⟨by decide, by decide⟩ (by decide) (Nat.le_of_ble_eq_true rfl) (Nat.zero_le _) (Nat.zero_le _) dX1_held_12 ?_
    exact hE _ _ _ _ dX1_held_15 rfl ⟨by unfold hl; (repeat' split) <;> omega, rfl⟩
  · refine V_iconst hx dX1_held_4 ?_
    refine V_goto hx dX1_held_5 15 (by decide) ?_
    exact hE _ _ _ _ dX1_held_15 rfl ⟨by unfold hl; (repeat' split) <;> omega, rfl⟩
set_option maxHeartbeats 4000000 in
set_option maxRecDepth 100000 in
theorem m_read (l : Launch) {g : GT} {ad : Nat → Nat} {P : Nat → TS} {k : Nat} (hk : k < 2) (T : TS) (hT : RG T) {q : Nat} (hq : isQ q) {d : Int} (hd0 : 0 ≤ d) (hd8 : d < 8) : MI l yX1_read cX1_read 3 .int (rmN 1) g [.ref (ad (ix k 0)), .ref (ad (ix k q)), .int (iZ (d))] (SW g ad P k T) (fun z ws9 => z = rdV T q d.toNat ∧ ws9 = SW g ad P k (rdT T q d.toNat)) := by
  refine MI.of (own := RX1) (by decide) rfl (Nat.le_of_ble_eq_true rfl) (fun x hx hE => ?_)
  have hq7 := hq.1
  have hq8 := hq.2
  refine V_lv (lv' := [(0, .ref (ad (ix k 0))), (1, .ref (ad (ix k q))), (2, .int (iZ (d)))]) rfl ?_
  refine V_aload_n hx dX1_read_0 1 rfl ?_
  refine V_iload_n hx dX1_read_1 2 rfl ?_
  refine V_callNi hx (m_hasWritten l hk T hT (q := q) hq (d := d) (by omega) (by omega)) cw_X1_109 (RMn (by decide) (by decide)) rfl (ix k q) (SW_clk hk hq) rfl rfl (Nat.le_of_ble_eq_true rfl) dX1_read_2 0 0 rfl rfl (fun z1 ws1 e1 => ?_)
  obtain ⟨rfl, rfl⟩ := e1
  refine V_ifb_eq hx dX1_read_5 15 (by decide) (fun h5 => ?_) (fun h5 => ?_)
  · refine V_aload_n hx dX1_read_15 1 rfl ?_
    refine V_iload_n hx dX1_read_16 2 rfl ?_
    refine V_callNi hx (m_remembers l hk T hT (q := q) hq (d := d) (by omega) (by omega)) cw_X1_113 (RMn (by decide) (by decide)) rfl (ix k q) (SW_clk hk hq) rfl rfl (Nat.le_of_ble_eq_true rfl) dX1_read_17 0 0 rfl rfl (fun z2 ws2 e2 => ?_)
    obtain ⟨rfl, rfl⟩ := e2
    refine V_ifb_ne hx dX1_read_20 47 (by decide) (fun h20 => ?_) (fun h20 => ?_)
    · refine V_aload_n hx dX1_read_47 1 rfl ?_
      refine gf_X1_116 hx (ix k q) (SW_clk hk hq) rfl dX1_read_48 ?_
      refine V_iload_n hx dX1_read_51 2 rfl ?_
      refine V_iald hx (by omega) (by omega) (by decide) (ix k (q + 5)) (SW_c8 hk hq 5 (by decide)) (v := T (q + 5) d.toNat) rfl dX1_read_52 ?_
      exact hE _ _ _ _ dX1_read_53 rfl ⟨by rw [rdV, if_neg (by omega), if_pos (by omega)], by rw [rdT, if_neg (by omega), if_pos (by omega)]⟩
    · refine V_aload_n hx dX1_read_23 1 rfl ?_
      refine gf_X1_116 hx (ix k q) (SW_clk hk hq) rfl dX1_read_24 ?_
      refine V_iload_n hx dX1_read_27 2 rfl ?_
      refine V_aload_n hx dX1_read_28 0 rfl ?_
      refine gf_X1_15 hx (ix k 0) (SW_shop hk) rfl dX1_read_29 ?_
      refine V_iload_n hx dX1_read_32 2 rfl ?_
      refine V_iald hx (by omega) (by omega) (by decide) (ix k 1) (SW_8 hk (Or.inl rfl) (by decide)) (v := T 1 d.toNat) rfl dX1_read_33 ?_
      refine V_iast hx (by omega) (by omega) (by decide) (ix k (q + 5)) (SW_c8 hk hq 5 (by decide)) (SW g ad P k (pt T (q + 5) (d.toNat) (T 1 d.toNat))) (SW_sc8 hq 5 (by decide)) dX1_read_34 ?_
      refine V_aload_n hx dX1_read_35 1 rfl ?_
      refine gf_X1_119 hx (ix k q) (SW_clk hk hq) rfl dX1_read_36 ?_
      refine V_iload_n hx dX1_read_39 2 rfl ?_
      refine V_aload_n hx dX1_read_40 0 rfl ?_
      refine gf_X1_19 hx (ix k 0) (SW_shop hk) rfl dX1_read_41 ?_
      refine V_iload_n hx dX1_read_44 2 rfl ?_
      refine V_iald hx (by omega) (by omega) (by decide) (ix k 2) (SW_8 hk (Or.inr (Or.inl rfl)) (by decide)) (v := T 2 d.toNat) (by show iZ _ = iZ _; rw [pt_ne _ _ (Or.inl (by omega))] <;> rfl) dX1_read_45 ?_
      refine V_iast hx (by omega) (by omega) (by decide) (ix k (q + 6)) (SW_c8 hk hq 6 (by decide)) (SW g ad P k (pt (pt T (q + 5) (d.toNat) (T 1 d.toNat)) (q + 6) (d.toNat) (T 2 d.toNat))) (SW_sc8 hq 6 (by decide)) dX1_read_46 ?_
      refine V_aload_n hx dX1_read_47 1 rfl ?_
      refine gf_X1_116 hx (ix k q) (SW_clk hk hq) rfl dX1_read_48 ?_
      refine V_iload_n hx dX1_read_51 2 rfl ?_
      refine V_iald hx (by omega) (by omega) (by decide) (ix k (q + 5)) (SW_c8 hk hq 5 (by decide)) (v := T 1 d.toNat) (by show iZ _ = iZ _; rw [pt_ne _ _ (Or.inl (by omega)), pt_at] <;> rfl) dX1_read_52 ?_
      exact hE _ _ _ _ dX1_read_53 rfl ⟨by rw [rdV, if_neg (by omega), if_neg (by omega)], by rw [rdT, if_neg (by omega), if_neg (by omega)]⟩
  · refine V_aload_n hx dX1_read_8 1 rfl ?_
    refine gf_X1_95 hx (ix k q) (SW_clk hk hq) rfl dX1_read_9 ?_
    refine V_iload_n hx dX1_read_12 2 rfl ?_
    refine V_iald hx (by omega) (by omega) (by decide) (ix k (q + 7)) (SW_c8 hk hq 7 (by decide)) (v := T (q + 7) d.toNat) rfl dX1_read_13 ?_
    exact hE _ _ _ _ dX1_read_14 rfl ⟨by rw [rdV, if_pos (by omega)], by rw [rdT, if_pos (by omega)]⟩
set_option maxHeartbeats 4000000 in
set_option maxRecDepth 100000 in
theorem m_isOutdated (l : Launch) {g : GT} {ad : Nat → Nat} {P : Nat → TS} {k : Nat} (hk : k < 2) (T : TS) (hT : RG T) {q : Nat} (hq : isQ q) (hn0 : 0 ≤ T 0 0) (hn8 : T 0 0 ≤ 8) : MI l yX1_isOutdated cX1_isOutdated 3 .boolean (rmN 1) g [.ref (ad (ix k 0)), .ref (ad (ix k q))] (SW g ad P k T) (fun z ws9 => z = bz (odP T q (nd T)) ∧ ws9 = SW g ad P k T) := by
  refine MI.of (own := RX1) (by decide) rfl (Nat.le_of_ble_eq_true rfl) (fun x hx hE => ?_)
  have hq7 := hq.1
  have hq8 := hq.2
  have hnd : ((nd T : Nat) : Int) = T 0 0 := Int.toNat_of_nonneg (by omega)
  refine V_lv (lv' := [(0, .ref (ad (ix k 0))), (1, .ref (ad (ix k q)))]) rfl ?_
  refine V_iconst hx dX1_isOutdated_0 ?_
  refine V_istore_n hx dX1_isOutdated_1 [(2, .int (iZ (0))), (0, .ref (ad (ix k 0))), (1, .ref (ad (ix k q)))] (by decide) rfl ?_
  have hL2 : ∀ (n : Nat) (i : Nat), nd T < i + n → i ≤ nd T → (∀ d, d < i → ¬ (T (q + 5) d ≠ -1 ∧ T (q + 6) d ≠ T 2 d)) → V x 0 0 (SW g ad P k T) 2 [(2, .int (iZ ((i : Int)))), (0, .ref (ad (ix k 0))), (1, .ref (ad (ix k q)))] [] := by
    intro n
    induction n with
    | zero =>
      intro i g1 g2 g3
      exact absurd g1 (by omega)
    | succ n ih =>
      intro i g1 g2 g3
      refine V_iload_n hx dX1_isOutdated_2 0 rfl ?_
      refine V_aload_n hx dX1_isOutdated_3 1 rfl ?_
      refine gf_X1_9 hx (ix k 0) (SW_shop hk) rfl dX1_isOutdated_4 ?_
      refine V_icmp_ge hx dX1_isOutdated_7 41 (by decide) ⟨by omega, by omega⟩ (by first | assumption | exact hT _ _ | exact ⟨by omega, by omega⟩) (fun h7 => ?_) (fun h7 => ?_)
      · refine V_iconst hx dX1_isOutdated_41 ?_
        exact hE _ _ _ _ dX1_isOutdated_42 rfl ⟨(bz_f (fun h9 => h9.elim (fun d h8 => g3 d (by omega) h8.2))).symm, rfl⟩
      · refine V_aload_n hx dX1_isOutdated_10 2 rfl ?_
        refine V_iload_n hx dX1_isOutdated_11 0 rfl ?_
        refine V_callNi hx (m_remembers l hk T hT (q := q) hq (d := (i : Int)) (by omega) (by omega)) cw_X1_113 (RMn (by decide) (by decide)) rfl (ix k q) (SW_clk hk hq) rfl rfl (Nat.le_of_ble_eq_true rfl) dX1_isOutdated_12 0 0 rfl rfl (fun z1 ws1 e1 => ?_)
        obtain ⟨rfl, rfl⟩ := e1
        refine V_top (b := bz (T (q + 5) i ≠ -1)) rfl ?_
        refine V_ifb_eq hx dX1_isOutdated_15 35 (by decide) (fun h15 => ?_) (fun h15 => ?_)
        · refine V_iincN hx dX1_isOutdated_35 0 rfl [(2, .int (iZ (((i + 1 : Nat) : Int)))), (0, .ref (ad (ix k 0))), (1, .ref (ad (ix k q)))] (by decide) rfl ?_
          refine V_goto hx dX1_isOutdated_38 2 (by decide) ?_
          exact V_sub [0, 1, 2] rfl (ih (i + 1) (by omega) (by omega) (lt_s g3 (by omega)))
        · refine V_aload_n hx dX1_isOutdated_18 2 rfl ?_
          refine gf_X1_119 hx (ix k q) (SW_clk hk hq) rfl dX1_isOutdated_19 ?_
          refine V_iload_n hx dX1_isOutdated_22 0 rfl ?_
          refine V_iald hx (by omega) (by omega) (by decide) (ix k (q + 6)) (SW_c8 hk hq 6 (by decide)) (v := T (q + 6) i) rfl dX1_isOutdated_23 ?_
          refine V_aload_n hx dX1_isOutdated_24 1 rfl ?_
          refine gf_X1_19 hx (ix k 0) (SW_shop hk) rfl dX1_isOutdated_25 ?_
          refine V_iload_n hx dX1_isOutdated_28 0 rfl ?_
          refine V_iald hx (by omega) (by omega) (by decide) (ix k 2) (SW_8 hk (Or.inr (Or.inl rfl)) (by decide)) (v := T 2 i) rfl dX1_isOutdated_29 ?_
          refine V_icmp_eq hx dX1_isOutdated_30 35 (by decide) (by first | assumption | exact hT _ _ | exact ⟨by omega, by omega⟩) (by first | assumption | exact hT _ _ | exact ⟨by omega, by omega⟩) (fun h30 => ?_) (fun h30 => ?_)
          · refine V_iincN hx dX1_isOutdated_35 0 rfl [(2, .int (iZ (((i + 1 : Nat) : Int)))), (0, .ref (ad (ix k 0))), (1, .ref (ad (ix k q)))] (by decide) rfl ?_
            refine V_goto hx dX1_isOutdated_38 2 (by decide) ?_
            exact V_sub [0, 1, 2] rfl (ih (i + 1) (by omega) (by omega) (lt_s g3 (by omega)))
          · refine V_iconst hx dX1_isOutdated_33 ?_
            exact hE _ _ _ _ dX1_isOutdated_34 rfl ⟨(bz_t ⟨i, by omega, by omega, by omega⟩).symm, rfl⟩
  refine V_ws (ws' := SW g ad P k T) rfl ?_
  exact V_sub [0, 1, 2] rfl (hL2 (nd T + 1) 0 (by omega) (by omega) (fun d h9 => absurd h9 (Nat.not_lt_zero d)))
set_option maxHeartbeats 4000000 in
set_option maxRecDepth 100000 in
theorem m_sumAmounts (l : Launch) {g : GT} {ad : Nat → Nat} {P : Nat → TS} {k : Nat} (hk : k < 2) (T : TS) (hT : RG T) (hn0 : 0 ≤ T 0 0) (hn8 : T 0 0 ≤ 8) : MI l yX1_sumAmounts cX1_sumAmounts 3 .int (rmN 0) g [.ref (ad (ix k 0))] (SW g ad P k T) (fun z ws9 => z = sm (nd T) (T 1) ∧ ws9 = SW g ad P k T) := by
  refine MI.of (own := RX1) (by decide) rfl (Nat.le_of_ble_eq_true rfl) (fun x hx hE => ?_)
  have hnd : ((nd T : Nat) : Int) = T 0 0 := Int.toNat_of_nonneg (by omega)
  refine V_lv (lv' := [(0, .ref (ad (ix k 0)))]) rfl ?_
  refine V_iconst hx dX1_sumAmounts_0 ?_
  refine V_istore_n hx dX1_sumAmounts_1 [(1, .int (iZ (0))), (0, .ref (ad (ix k 0)))] (by decide) rfl ?_
  refine V_iconst hx dX1_sumAmounts_2 ?_
  refine V_istore_n hx dX1_sumAmounts_3 [(2, .int (iZ (0))), (1, .int (iZ (0))), (0, .ref (ad (ix k 0)))] (by decide) rfl ?_
  have hL4 : ∀ (n : Nat) (i : Nat), nd T < i + n → i ≤ nd T → V x 0 0 (SW g ad P k T) 4 [(2, .int (iZ ((i : Int)))), (1, .int (iZ (sm i (T 1)))), (0, .ref (ad (ix k 0)))] [] := by
    intro n
    induction n with
    | zero =>
      intro i g1 g2 
      exact absurd g1 (by omega)
    | succ n ih =>
      intro i g1 g2 
      refine V_iload_n hx dX1_sumAmounts_4 0 rfl ?_
      refine V_aload_n hx dX1_sumAmounts_5 2 rfl ?_
      refine gf_X1_9 hx (ix k 0) (SW_shop hk) rfl dX1_sumAmounts_6 ?_
      refine V_icmp_ge hx dX1_sumAmounts_9 27 (by decide) ⟨by omega, by omega⟩ (by first | assumption | exact hT _ _ | exact ⟨by omega, by omega⟩) (fun h9 => ?_) (fun h9 => ?_)
      · refine V_iload_n hx dX1_sumAmounts_27 1 rfl ?_
        exact hE _ _ _ _ dX1_sumAmounts_28 rfl ⟨by rw [show i = nd T by omega], rfl⟩
      · refine V_iload_n hx dX1_sumAmounts_12 1 rfl ?_
        refine V_aload_n hx dX1_sumAmounts_13 2 rfl ?_
        refine gf_X1_15 hx (ix k 0) (SW_shop hk) rfl dX1_sumAmounts_14 ?_
        refine V_iload_n hx dX1_sumAmounts_17 0 rfl ?_
        refine V_iald hx (by omega) (by omega) (by decide) (ix k 1) (SW_8 hk (Or.inl rfl) (by decide)) (v := T 1 i) rfl dX1_sumAmounts_18 ?_
        refine V_iadd hx dX1_sumAmounts_19 ?_
        refine V_istore_n hx dX1_sumAmounts_20 [(1, .int (iZ ((sm i (T 1)) + (T 1 i)))), (2, .int (iZ ((i : Int)))), (0, .ref (ad (ix k 0)))] (by decide) rfl ?_
        refine V_iincN hx dX1_sumAmounts_21 1 rfl [(2, .int (iZ (((i + 1 : Nat) : Int)))), (1, .int (iZ ((sm i (T 1)) + (T 1 i)))), (0, .ref (ad (ix k 0)))] (by decide) rfl ?_
        refine V_goto hx dX1_sumAmounts_24 4 (by decide) ?_
        refine V_sub (lv' := [(2, .int (iZ (((i + 1 : Nat) : Int)))), (1, .int (iZ ((sm i (T 1)) + (T 1 i)))), (0, .ref (ad (ix k 0)))]) [0, 1, 2] rfl ?_
        refine V_lv (lv' := [(2, .int (iZ ((i + 1 : Nat) : Int))), (1, .int (iZ (sm (i + 1) (T 1)))), (0, .ref (ad (ix k 0)))]) rfl ?_
        exact ih (i + 1) (by omega) (by omega)
  refine V_ws (ws' := SW g ad P k T) rfl ?_
  exact V_sub [0, 1, 2] rfl (hL4 (nd T + 1) 0 (by omega) (by omega))
theorem rg_sh {T : TS} (h : RG T) (i : Nat) : RG (shT T i) := by
  intro a b
  unfold shT
  split
  · exact h _ _
  · exact h _ _
set_option maxHeartbeats 4000000 in
set_option maxRecDepth 100000 in
theorem m_keepClosing (l : Launch) {g : GT} {ad : Nat → Nat} {P : Nat → TS} {k : Nat} (hk : k < 2) (T : TS) (hT : RG T) (hn0 : 0 ≤ T 0 0) (hn8 : T 0 0 ≤ 8) {c w : Int} (hc : rg c) (hw : rg w) : MV l yX1_keepClosing cX1_keepClosing 4 (rmN 1) g [.ref (ad (ix k 0)), .int (iZ (c)), .int (iZ (w))] (SW g ad P k T) (fun ws9 => ws9 = SW g ad P k (kcT T c w)) := by
  refine MV.of (own := RX1) (by decide) rfl (Nat.le_of_ble_eq_true rfl) (fun x hx hE => ?_)
  refine V_lv (lv' := [(0, .ref (ad (ix k 0))), (1, .int (iZ (c))), (2, .int (iZ (w)))]) rfl ?_
  refine V_bipush hx dX1_keepClosing_0 rfl ?_
  refine V_istore_n hx dX1_keepClosing_2 [(3, .int (iZ (9))), (0, .ref (ad (ix k 0))), (1, .int (iZ (c))), (2, .int (iZ (w)))] (by decide) rfl ?_
  have hL3 : ∀ (n : Nat) (i : Nat), i < n → i ≤ 9 → V x 0 0 (SW g ad P k (shT T i)) 3 [(3, .int (iZ ((i : Int)))), (0, .ref (ad (ix k 0))), (1, .int (iZ (c))), (2, .int (iZ (w)))] [] := by
    intro n
    induction n with
    | zero =>
      intro i g1 g2 
      exact absurd g1 (by omega)
    | succ n ih =>
      intro i g1 g2 
      refine V_iload_n hx dX1_keepClosing_3 0 rfl ?_
      refine V_if_le hx dX1_keepClosing_4 55 (by decide) ⟨by omega, by omega⟩ (fun h4 => ?_) (fun h4 => ?_)
      · refine V_aload_n hx dX1_keepClosing_55 1 rfl ?_
        refine gf_X1_29 hx (ix k 0) (SW_shop hk) rfl dX1_keepClosing_56 ?_
        refine V_iconst hx dX1_keepClosing_59 ?_
        refine V_iload_n hx dX1_keepClosing_60 2 rfl ?_
        refine V_iast hx (by decide) (by decide) (by decide) (ix k 4) (SW_10 hk (by decide)) (SW g ad P k (pt (shT T i) (4) (0) (c))) (SW_s10 (by decide)) dX1_keepClosing_61 ?_
        refine V_aload_n hx dX1_keepClosing_62 1 rfl ?_
        refine gf_X1_32 hx (ix k 0) (SW_shop hk) rfl dX1_keepClosing_63 ?_
        refine V_iconst hx dX1_keepClosing_66 ?_
        refine V_iload_n hx dX1_keepClosing_67 3 rfl ?_
        refine V_iast hx (by decide) (by decide) (by decide) (ix k 5) (SW_10 hk (by decide)) (SW g ad P k (pt (pt (shT T i) (4) (0) (c)) (5) (0) (w))) (SW_s10 (by decide)) dX1_keepClosing_68 ?_
        refine V_aload_n hx dX1_keepClosing_69 1 rfl ?_
        refine gf_X1_35 hx (ix k 0) (SW_shop hk) rfl dX1_keepClosing_70 ?_
        refine V_iconst hx dX1_keepClosing_73 ?_
        refine V_aload_n hx dX1_keepClosing_74 1 rfl ?_
        refine V_calli hx (m_sumAmounts l hk (pt (pt (shT T i) (4) (0) (c)) (5) (0) (w)) (rg_pt (rg_pt (rg_sh hT i) (by first | assumption | exact hT _ _ | exact ⟨by omega, by omega⟩)) (by first | assumption | exact hT _ _ | exact ⟨by omega, by omega⟩)) (by first | omega | exact hn0) (by first | omega | exact hn8)) cw_X1_55 (RMn (by decide) (by decide)) rfl (ix k 0) (SW_shop hk) rfl rfl (Nat.le_of_ble_eq_true rfl) dX1_keepClosing_75 0 0 rfl rfl (fun z1 ws1 e1 => ?_)
        obtain ⟨rfl, rfl⟩ := e1
        refine V_iast hx (by decide) (by decide) (by decide) (ix k 6) (SW_10 hk (by decide)) (SW g ad P k (pt (pt (pt (shT T i) (4) (0) (c)) (5) (0) (w)) (6) (0) (sm (nd (pt (pt (shT T i) (4) (0) (c)) (5) (0) (w))) ((pt (pt (shT T i) (4) (0) (c)) (5) (0) (w)) 1)))) (SW_s10 (by decide)) dX1_keepClosing_78 ?_
        exact hE _ _ _ dX1_keepClosing_79 (by rw [show i = 0 by omega]; rfl)
      · refine V_aload_n hx dX1_keepClosing_7 1 rfl ?_
        refine gf_X1_29 hx (ix k 0) (SW_shop hk) rfl dX1_keepClosing_8 ?_
        refine V_iload_n hx dX1_keepClosing_11 0 rfl ?_
        refine V_aload_n hx dX1_keepClosing_12 1 rfl ?_
        refine gf_X1_29 hx (ix k 0) (SW_shop hk) rfl dX1_keepClosing_13 ?_
        refine V_iload_n hx dX1_keepClosing_16 0 rfl ?_
        refine V_iconst hx dX1_keepClosing_17 ?_
        refine V_isub hx dX1_keepClosing_18 ?_
        refine V_iald hx (by omega) (by omega) (by decide) (ix k 4) (SW_10 hk (by decide)) (v := (shT T i) 4 (((i : Int) - 1).toNat)) rfl dX1_keepClosing_19 ?_
        refine V_iast hx (by omega) (by omega) (by decide) (ix k 4) (SW_10 hk (by decide)) (SW g ad P k (pt (shT T i) (4) (i) ((shT T i) 4 (((i : Int) - 1).toNat)))) (SW_s10 (by decide)) dX1_keepClosing_20 ?_
        refine V_aload_n hx dX1_keepClosing_21 1 rfl ?_
        refine gf_X1_32 hx (ix k 0) (SW_shop hk) rfl dX1_keepClosing_22 ?_
        refine V_iload_n hx dX1_keepClosing_25 0 rfl ?_
        refine V_aload_n hx dX1_keepClosing_26 1 rfl ?_
        refine gf_X1_32 hx (ix k 0) (SW_shop hk) rfl dX1_keepClosing_27 ?_
        refine V_iload_n hx dX1_keepClosing_30 0 rfl ?_
        refine V_iconst hx dX1_keepClosing_31 ?_
        refine V_isub hx dX1_keepClosing_32 ?_
        refine V_iald hx (by omega) (by omega) (by decide) (ix k 5) (SW_10 hk (by decide)) (v := (shT T i) 5 (((i : Int) - 1).toNat)) (by show iZ _ = iZ _; rw [pt_ne _ _ (Or.inl (by omega))] <;> rfl) dX1_keepClosing_33 ?_
        refine V_iast hx (by omega) (by omega) (by decide) (ix k 5) (SW_10 hk (by decide)) (SW g ad P k (pt (pt (shT T i) (4) (i) ((shT T i) 4 (((i : Int) - 1).toNat))) (5) (i) ((shT T i) 5 (((i : Int) - 1).toNat)))) (SW_s10 (by decide)) dX1_keepClosing_34 ?_
        refine V_aload_n hx dX1_keepClosing_35 1 rfl ?_
        refine gf_X1_35 hx (ix k 0) (SW_shop hk) rfl dX1_keepClosing_36 ?_
        refine V_iload_n hx dX1_keepClosing_39 0 rfl ?_
        refine V_aload_n hx dX1_keepClosing_40 1 rfl ?_
        refine gf_X1_35 hx (ix k 0) (SW_shop hk) rfl dX1_keepClosing_41 ?_
        refine V_iload_n hx dX1_keepClosing_44 0 rfl ?_
        refine V_iconst hx dX1_keepClosing_45 ?_
        refine V_isub hx dX1_keepClosing_46 ?_
        refine V_iald hx (by omega) (by omega) (by decide) (ix k 6) (SW_10 hk (by decide)) (v := (shT T i) 6 (((i : Int) - 1).toNat)) (by show iZ _ = iZ _; rw [pt_ne _ _ (Or.inl (by omega)), pt_ne _ _ (Or.inl (by omega))] <;> rfl) dX1_keepClosing_47 ?_
        refine V_iast hx (by omega) (by omega) (by decide) (ix k 6) (SW_10 hk (by decide)) (SW g ad P k (pt (pt (pt (shT T i) (4) (i) ((shT T i) 4 (((i : Int) - 1).toNat))) (5) (i) ((shT T i) 5 (((i : Int) - 1).toNat))) (6) (i) ((shT T i) 6 (((i : Int) - 1).toNat)))) (SW_s10 (by decide)) dX1_keepClosing_48 ?_
        refine V_iinc hx dX1_keepClosing_49 0 rfl [(3, .int (iZ ((i : Int) + (-1)))), (0, .ref (ad (ix k 0))), (1, .int (iZ (c))), (2, .int (iZ (w)))] (by decide) rfl ?_
        refine V_goto hx dX1_keepClosing_52 3 (by decide) ?_
        refine V_ws (ws' := SW g ad P k (shT T (i - 1))) (congrArg (SW g ad P k) (by funext a b; simp only [pt, shT]; (repeat' split) <;> first | rfl | omega | grind)) ?_
        refine V_sub (lv' := [(3, .int (iZ ((i : Int) + (-1)))), (0, .ref (ad (ix k 0))), (1, .int (iZ (c))), (2, .int (iZ (w)))]) [0, 1, 2, 3] rfl ?_
        refine V_lv (lv' := [(3, .int (iZ (((i - 1 : Nat)) : Int))), (0, .ref (ad (ix k 0))), (1, .int (iZ (c))), (2, .int (iZ (w)))]) (by rw [show (i : Int) + (-1) = ((i - 1 : Nat) : Int) by omega]) ?_
        exact ih (i - 1) (by omega) (by omega)
  refine V_ws (ws' := SW g ad P k (shT T 9)) (congrArg (SW g ad P k) (by funext a b; simp only [shT]; (repeat' split) <;> first | rfl | omega | grind)) ?_
  exact V_sub [0, 1, 2, 3] rfl (hL3 (10) 9 (by omega) (by omega))
set_option maxHeartbeats 4000000 in
set_option maxRecDepth 100000 in
theorem m_pay (l : Launch) {g : GT} {ad : Nat → Nat} {P : Nat → TS} {k : Nat} (hk : k < 2) (T : TS) (hT : RG T) (hn0 : 0 ≤ T 0 0) (hn8 : T 0 0 ≤ 8) (hcl : 0 ≤ T 0 2) (hcM : T 0 2 < 2147483647) {d : Int} (hd0 : 0 ≤ d) (hd8 : d < 8) {v : Int} (hv : rg v) : MV l yX1_payByHand cX1_payByHand 3 (rmN 2) g [.ref (ad (ix k 0)), .int (iZ (d)), .int (iZ (v))] (SW g ad P k T) (fun ws9 => ws9 = SW g ad P k (pyT T d.toNat v)) := by
  refine MV.of (own := RX1) (by decide) rfl (Nat.le_of_ble_eq_true rfl) (fun x hx hE => ?_)
  refine V_lv (lv' := [(0, .ref (ad (ix k 0))), (1, .int (iZ (d))), (2, .int (iZ (v)))]) rfl ?_
  refine V_aload_n hx dX1_payByHand_0 0 rfl ?_
  refine V_dup hx dX1_payByHand_1 rfl ?_
  refine gf_X1_41 hx (ix k 0) (SW_shop hk) rfl dX1_payByHand_2 ?_
  refine V_iconst hx dX1_payByHand_5 ?_
  refine V_iadd hx dX1_payByHand_6 ?_
  refine pf_X1_41 hx (ix k 0) (SW_shop hk) (Nat.le_of_ble_eq_true rfl) (SW g ad P k (pt T (0) (2) ((T 0 2) + 1))) SW_ss2 dX1_payByHand_7 ?_
  refine V_aload_n hx dX1_payByHand_10 0 rfl ?_
  refine gf_X1_15 hx (ix k 0) (SW_shop hk) rfl dX1_payByHand_11 ?_
  refine V_iload_n hx dX1_payByHand_14 1 rfl ?_
  refine V_iload_n hx dX1_payByHand_15 2 rfl ?_
  refine V_iast hx (by omega) (by omega) (by decide) (ix k 1) (SW_8 hk (Or.inl rfl) (by decide)) (SW g ad P k (pt (pt T (0) (2) ((T 0 2) + 1)) (1) (d.toNat) (v))) (SW_s8 (Or.inl rfl) (by decide)) dX1_payByHand_16 ?_
  refine V_aload_n hx dX1_payByHand_17 0 rfl ?_
  refine gf_X1_19 hx (ix k 0) (SW_shop hk) rfl dX1_payByHand_18 ?_
  refine V_iload_n hx dX1_payByHand_21 1 rfl ?_
  refine V_aload_n hx dX1_payByHand_22 0 rfl ?_
  refine gf_X1_41 hx (ix k 0) (SW_shop hk) rfl dX1_payByHand_23 ?_
  refine V_top (b := (T 0 2) + 1) (by rw [pt_ne _ _ (Or.inl (by omega)), pt_at]) ?_
  refine V_iast hx (by omega) (by omega) (by decide) (ix k 2) (SW_8 hk (Or.inr (Or.inl rfl)) (by decide)) (SW g ad P k (pt (pt (pt T (0) (2) ((T 0 2) + 1)) (1) (d.toNat) (v)) (2) (d.toNat) ((T 0 2) + 1))) (SW_s8 (Or.inr (Or.inl rfl)) (by decide)) dX1_payByHand_26 ?_
  refine V_aload_n hx dX1_payByHand_27 0 rfl ?_
  refine V_iconst hx dX1_payByHand_28 ?_
  refine V_iconst hx dX1_payByHand_29 ?_
  refine V_callv hx (m_keepClosing l hk (pt (pt (pt T (0) (2) ((T 0 2) + 1)) (1) (d.toNat) (v)) (2) (d.toNat) ((T 0 2) + 1)) (rg_pt (rg_pt (rg_pt hT (by first | assumption | exact hT _ _ | exact ⟨by omega, by omega⟩)) (by first | assumption | exact hT _ _ | exact ⟨by omega, by omega⟩)) (by first | assumption | exact hT _ _ | exact ⟨by omega, by omega⟩)) (by rw [pt_ne _ _ (Or.inl (by omega)), pt_ne _ _ (Or.inl (by omega)), pt_ne _ _ (Or.inr (by omega))]; first | omega | assumption) (by rw [pt_ne _ _ (Or.inl (by omega)), pt_ne _ _ (Or.inl (by omega)), pt_ne _ _ (Or.inr (by omega))]; first | omega | assumption) (c := (-1)) (w := 1) ⟨by decide, by decide⟩ ⟨by decide, by decide⟩) cw_X1_51 (RMn (by decide) (by decide)) rfl (ix k 0) (SW_shop hk) rfl rfl (Nat.le_of_ble_eq_true rfl) dX1_payByHand_30 0 0 rfl rfl (fun ws1 e1 => ?_)
  subst e1
  exact hE _ _ _ dX1_payByHand_33 rfl
