/-! THE REFERENCE's ints (R) beside the class's (T) -/
theorem qm715 : Cond.methodLink RX4 72 arraycopyName ∈ tbl := tin 776 (by decide +kernel) rfl
theorem qm716 : Cond.static arraycopyName ∈ tbl := tin 777 (by decide +kernel) rfl
theorem qm717 : Cond.native arraycopyName ∈ tbl := tin 778 (by decide +kernel) rfl
theorem qm843 : Cond.methodLink RX3 55 arraycopyName ∈ tbl := tin 904 (by decide +kernel) rfl
theorem V_copy {x : CT} {l : Launch} {R : Room} {g : GT} {nL : Nat} {cc : ByteArray} {own : String} {k n : Nat} {ws : va_W} {pc : Nat} {lv : List (Nat × Value)} {st : List Value} (hx : FX x l R g nL cc own) {index a0 a1 n0 n1 : Nat} {f f1 : Nat → Int32} {sp dp m : Int} (w1 : Cond.methodLink own index arraycopyName ∈ tbl)
    (q0 q1 : Nat) (ha0 : ws[q0]? = some (a0, .inl (g.2.1, n0, .inl f))) (ha1 : ws[q1]? = some (a1, .inl (g.2.1, n1, .inl f1))) (hs0 : 0 ≤ sp) (hd0 : 0 ≤ dp) (hm0 : 0 ≤ m) (hs : sp + m ≤ n0) (hd9 : dp + m ≤ n1) (hn0 : n0 < 2147483648) (hn1 : n1 < 2147483648)
    (hf : 1 ≤ R.frames) (hlo : (st.map fun v => v.category).sum + (nativeFrameWords "java/lang/System" "arraycopy" 5 + 11) ≤ R.locals) (ws' : va_W) (hw : ws.set q1 (a1, .inl (g.2.1, n1, .inl (va_cpy f f1 sp.toNat dp.toNat m.toNat))) = ws') (hd : decode cc pc = .ok (.invokestatic index, 3)) (kk : V x k n ws' (pc + 3) lv st) : V x k n ws pc lv (.int (iZ m) :: .int (iZ dp) :: .ref a1 :: .int (iZ sp) :: .ref a0 :: st) := by
  subst hw
  have nneg : ∀ {a : Int}, 0 ≤ a → a < 2147483648 → ¬ iZ a < 0 := fun {a} h1 h2 h => by
    have := (iZ_lt (a := a) (b := 0) ⟨by omega, by omega⟩ rg_0).mp h
    omega
  have e1 := iZ_clamp (a := sp) ⟨by omega, by omega⟩
  have e2 := iZ_clamp (a := dp) ⟨by omega, by omega⟩
  have e3 := iZ_clamp (a := m) ⟨by omega, by omega⟩
  obtain ⟨p, l', e9, R', s, mm, args, below, meth, c, g', nL', A, H0, Q⟩ := x
  obtain ⟨rfl, rfl, rfl, rfl, hx, hb0, hml, hown, hts, hK, hlk, hA⟩ := hx
  intro H locs ls hP hD hS h
  refine va_copyi (D := g'.1) hx hb0 (hml.trans h.1.symm) hown (hts _ _ w1) (hts _ _ qm717) (hts _ _ qm716) (hts _ _ q12) hK hP hD hS q0 q1 0 0 ha0 ha1 rfl rfl rfl (nneg hs0 (by omega)) (nneg hd0 (by omega)) (nneg hm0 (by omega)) (by rw [e1, e3]; omega) (by rw [e2, e3]; omega) (fun i hi => rfl) hf hlo hd (fun H1 locs1 hP1 hD1 hS1 => ?_)
  rw [e1, e2, e3] at hP1 hD1
  exact kk H1 locs1 ls hP1 hD1 hS1 h
def RC (R T : TS) (c : Nat) : Prop := R 4 c = T (7 + 8 * c) 0 ∧ R 5 c = T (7 + 8 * c) 1 ∧ R 6 c = T (7 + 8 * c) 2 ∧ R 7 c = T (7 + 8 * c) 3 ∧ (∀ s : Nat, (s : Int) < T (7 + 8 * c) 0 → R 3 (32 * c + 4 * s) = T (7 + 8 * c + 1) s ∧ R 3 (32 * c + 4 * s + 1) = T (7 + 8 * c + 2) s ∧ R 3 (32 * c + 4 * s + 2) = T (7 + 8 * c + 3) s ∧ R 3 (32 * c + 4 * s + 3) = T (7 + 8 * c + 4) s) ∧ (∀ d, d < 8 → R 8 (8 * c + d) = T (7 + 8 * c + 5) d ∧ R 9 (8 * c + d) = T (7 + 8 * c + 6) d ∧ R 10 (8 * c + d) = T (7 + 8 * c + 7) d)
/-- all but the row of closings -/
def RL0 (R T : TS) : Prop := RG R ∧ R 0 0 = T 0 0 ∧ R 0 1 = T 0 1 ∧ R 0 2 = T 0 2 ∧ (∀ d, d < 8 → R 1 d = T 1 d ∧ R 2 d = T 2 d) ∧ (∀ c : Nat, (c : Int) < T 0 1 → RC R T c)
/-- the row of closings, z of them -/
def RNG (R T : TS) (z : Nat) : Prop := ∀ b, b < 10 → b < z → R 11 ((z - b) % 10) = T 4 b ∧ R 12 ((z - b) % 10) = T 5 b ∧ R 13 ((z - b) % 10) = T 6 b
def REL (R T : TS) : Prop := RL0 R T ∧ RNG R T (T 0 2).toNat
set_option maxHeartbeats 1000000 in
theorem rl_place {R T : TS} {c : Nat} {v : Int} (h : RL0 R T) (hv : rg v) : RL0 (pt R 5 c v) (pt T (7 + 8 * c) 1 v) := by
  obtain ⟨h1, h2, h3, h4, h5, h6⟩ := h
  refine ⟨rg_pt h1 hv, ?_, ?_, ?_, fun d9 hd9 => ?_, fun c9 hc9 => ?_⟩
  · simp only [pt]; (repeat' split) <;> first | assumption | omega | grind
  · simp only [pt]; (repeat' split) <;> first | assumption | omega | grind
  · simp only [pt]; (repeat' split) <;> first | assumption | omega | grind
  · have g1 := (h5 d9 hd9).1
    have g2 := (h5 d9 hd9).2
    simp only [pt]
    refine ⟨?_, ?_⟩ <;> (repeat' split) <;> first | assumption | omega | grind
  · have hc8 : (c9 : Int) < T 0 1 := by simp only [pt] at hc9; (repeat' split at hc9) <;> omega
    obtain ⟨a1, a2, a3, a4, a5, a6⟩ := h6 c9 hc8
    refine ⟨?_, ?_, ?_, ?_, fun s9 hs9 => ?_, fun d9 hd9 => ?_⟩
    · simp only [pt]; (repeat' split) <;> first | assumption | omega | grind
    · simp only [pt]; (repeat' split) <;> first | assumption | omega | grind
    · simp only [pt]; (repeat' split) <;> first | assumption | omega | grind
    · simp only [pt]; (repeat' split) <;> first | assumption | omega | grind
    · have hs8 : (s9 : Int) < T (7 + 8 * c9) 0 := by simp only [pt] at hs9; (repeat' split at hs9) <;> first | assumption | omega | grind
      obtain ⟨b1, b2, b3, b4⟩ := a5 s9 hs8
      simp only [pt]
      refine ⟨?_, ?_, ?_, ?_⟩ <;> (repeat' split) <;> first | assumption | omega | grind
    · obtain ⟨b1, b2, b3⟩ := a6 d9 hd9
      simp only [pt]
      refine ⟨?_, ?_, ?_⟩ <;> (repeat' split) <;> first | assumption | omega | grind
theorem rn_place {R T : TS} {z : Nat} {c : Nat} {v : Int} (h : RNG R T z) : RNG (pt R 5 c v) (pt T (7 + 8 * c) 1 v) z := by
  intro b hb hz
  obtain ⟨g1, g2, g3⟩ := h b hb hz
  simp only [pt]
  refine ⟨?_, ?_, ?_⟩ <;> (repeat' split) <;> first | assumption | omega | grind
set_option maxHeartbeats 1000000 in
theorem rl_done {R T : TS} {c : Nat} {v : Int} (h : RL0 R T) (hv : rg v) : RL0 (pt R 6 c v) (pt T (7 + 8 * c) 2 v) := by
  obtain ⟨h1, h2, h3, h4, h5, h6⟩ := h
  refine ⟨rg_pt h1 hv, ?_, ?_, ?_, fun d9 hd9 => ?_, fun c9 hc9 => ?_⟩
  · simp only [pt]; (repeat' split) <;> first | assumption | omega | grind
  · simp only [pt]; (repeat' split) <;> first | assumption | omega | grind
  · simp only [pt]; (repeat' split) <;> first | assumption | omega | grind
  · have g1 := (h5 d9 hd9).1
    have g2 := (h5 d9 hd9).2
    simp only [pt]
    refine ⟨?_, ?_⟩ <;> (repeat' split) <;> first | assumption | omega | grind
  · have hc8 : (c9 : Int) < T 0 1 := by simp only [pt] at hc9; (repeat' split at hc9) <;> omega
    obtain ⟨a1, a2, a3, a4, a5, a6⟩ := h6 c9 hc8
    refine ⟨?_, ?_, ?_, ?_, fun s9 hs9 => ?_, fun d9 hd9 => ?_⟩
    · simp only [pt]; (repeat' split) <;> first | assumption | omega | grind
    · simp only [pt]; (repeat' split) <;> first | assumption | omega | grind
    · simp only [pt]; (repeat' split) <;> first | assumption | omega | grind
    · simp only [pt]; (repeat' split) <;> first | assumption | omega | grind
    · have hs8 : (s9 : Int) < T (7 + 8 * c9) 0 := by simp only [pt] at hs9; (repeat' split at hs9) <;> first | assumption | omega | grind
      obtain ⟨b1, b2, b3, b4⟩ := a5 s9 hs8
      simp only [pt]
      refine ⟨?_, ?_, ?_, ?_⟩ <;> (repeat' split) <;> first | assumption | omega | grind
    · obtain ⟨b1, b2, b3⟩ := a6 d9 hd9
      simp only [pt]
      refine ⟨?_, ?_, ?_⟩ <;> (repeat' split) <;> first | assumption | omega | grind
theorem rn_done {R T : TS} {z : Nat} {c : Nat} {v : Int} (h : RNG R T z) : RNG (pt R 6 c v) (pt T (7 + 8 * c) 2 v) z := by
  intro b hb hz
  obtain ⟨g1, g2, g3⟩ := h b hb hz
  simp only [pt]
  refine ⟨?_, ?_, ?_⟩ <;> (repeat' split) <;> first | assumption | omega | grind
set_option maxHeartbeats 1000000 in
theorem rl_lost {R T : TS} {c : Nat} {v : Int} (h : RL0 R T) (hv : rg v) : RL0 (pt R 7 c v) (pt T (7 + 8 * c) 3 v) := by
  obtain ⟨h1, h2, h3, h4, h5, h6⟩ := h
  refine ⟨rg_pt h1 hv, ?_, ?_, ?_, fun d9 hd9 => ?_, fun c9 hc9 => ?_⟩
  · simp only [pt]; (repeat' split) <;> first | assumption | omega | grind
  · simp only [pt]; (repeat' split) <;> first | assumption | omega | grind
  · simp only [pt]; (repeat' split) <;> first | assumption | omega | grind
  · have g1 := (h5 d9 hd9).1
    have g2 := (h5 d9 hd9).2
    simp only [pt]
    refine ⟨?_, ?_⟩ <;> (repeat' split) <;> first | assumption | omega | grind
  · have hc8 : (c9 : Int) < T 0 1 := by simp only [pt] at hc9; (repeat' split at hc9) <;> omega
    obtain ⟨a1, a2, a3, a4, a5, a6⟩ := h6 c9 hc8
    refine ⟨?_, ?_, ?_, ?_, fun s9 hs9 => ?_, fun d9 hd9 => ?_⟩
    · simp only [pt]; (repeat' split) <;> first | assumption | omega | grind
    · simp only [pt]; (repeat' split) <;> first | assumption | omega | grind
    · simp only [pt]; (repeat' split) <;> first | assumption | omega | grind
    · simp only [pt]; (repeat' split) <;> first | assumption | omega | grind
    · have hs8 : (s9 : Int) < T (7 + 8 * c9) 0 := by simp only [pt] at hs9; (repeat' split at hs9) <;> first | assumption | omega | grind
      obtain ⟨b1, b2, b3, b4⟩ := a5 s9 hs8
      simp only [pt]
      refine ⟨?_, ?_, ?_, ?_⟩ <;> (repeat' split) <;> first | assumption | omega | grind
    · obtain ⟨b1, b2, b3⟩ := a6 d9 hd9
      simp only [pt]
      refine ⟨?_, ?_, ?_⟩ <;> (repeat' split) <;> first | assumption | omega | grind
theorem rn_lost {R T : TS} {z : Nat} {c : Nat} {v : Int} (h : RNG R T z) : RNG (pt R 7 c v) (pt T (7 + 8 * c) 3 v) z := by
  intro b hb hz
  obtain ⟨g1, g2, g3⟩ := h b hb hz
  simp only [pt]
  refine ⟨?_, ?_, ?_⟩ <;> (repeat' split) <;> first | assumption | omega | grind
set_option maxHeartbeats 1000000 in
theorem rl_had {R T : TS} {c d : Nat} {v : Int} (h : RL0 R T) (hv : rg v) (hd : d < 8) : RL0 (pt R 8 (8 * c + d) v) (pt T (7 + 8 * c + 5) d v) := by
  obtain ⟨h1, h2, h3, h4, h5, h6⟩ := h
  refine ⟨rg_pt h1 hv, ?_, ?_, ?_, fun d9 hd9 => ?_, fun c9 hc9 => ?_⟩
  · simp only [pt]; (repeat' split) <;> first | assumption | omega | grind
  · simp only [pt]; (repeat' split) <;> first | assumption | omega | grind
  · simp only [pt]; (repeat' split) <;> first | assumption | omega | grind
  · have g1 := (h5 d9 hd9).1
    have g2 := (h5 d9 hd9).2
    simp only [pt]
    refine ⟨?_, ?_⟩ <;> (repeat' split) <;> first | assumption | omega | grind
  · have hc8 : (c9 : Int) < T 0 1 := by simp only [pt] at hc9; (repeat' split at hc9) <;> omega
    obtain ⟨a1, a2, a3, a4, a5, a6⟩ := h6 c9 hc8
    refine ⟨?_, ?_, ?_, ?_, fun s9 hs9 => ?_, fun d9 hd9 => ?_⟩
    · simp only [pt]; (repeat' split) <;> first | assumption | omega | grind
    · simp only [pt]; (repeat' split) <;> first | assumption | omega | grind
    · simp only [pt]; (repeat' split) <;> first | assumption | omega | grind
    · simp only [pt]; (repeat' split) <;> first | assumption | omega | grind
    · have hs8 : (s9 : Int) < T (7 + 8 * c9) 0 := by simp only [pt] at hs9; (repeat' split at hs9) <;> first | assumption | omega | grind
      obtain ⟨b1, b2, b3, b4⟩ := a5 s9 hs8
      simp only [pt]
      refine ⟨?_, ?_, ?_, ?_⟩ <;> (repeat' split) <;> first | assumption | omega | grind
    · obtain ⟨b1, b2, b3⟩ := a6 d9 hd9
      simp only [pt]
      refine ⟨?_, ?_, ?_⟩ <;> (repeat' split) <;> first | assumption | omega | grind
theorem rn_had {R T : TS} {z : Nat} {c d : Nat} {v : Int} (h : RNG R T z) : RNG (pt R 8 (8 * c + d) v) (pt T (7 + 8 * c + 5) d v) z := by
  intro b hb hz
  obtain ⟨g1, g2, g3⟩ := h b hb hz
  simp only [pt]
  refine ⟨?_, ?_, ?_⟩ <;> (repeat' split) <;> first | assumption | omega | grind
set_option maxHeartbeats 1000000 in
theorem rl_hadS {R T : TS} {c d : Nat} {v : Int} (h : RL0 R T) (hv : rg v) (hd : d < 8) : RL0 (pt R 9 (8 * c + d) v) (pt T (7 + 8 * c + 6) d v) := by
  obtain ⟨h1, h2, h3, h4, h5, h6⟩ := h
  refine ⟨rg_pt h1 hv, ?_, ?_, ?_, fun d9 hd9 => ?_, fun c9 hc9 => ?_⟩
  · simp only [pt]; (repeat' split) <;> first | assumption | omega | grind
  · simp only [pt]; (repeat' split) <;> first | assumption | omega | grind
  · simp only [pt]; (repeat' split) <;> first | assumption | omega | grind
  · have g1 := (h5 d9 hd9).1
    have g2 := (h5 d9 hd9).2
    simp only [pt]
    refine ⟨?_, ?_⟩ <;> (repeat' split) <;> first | assumption | omega | grind
  · have hc8 : (c9 : Int) < T 0 1 := by simp only [pt] at hc9; (repeat' split at hc9) <;> omega
    obtain ⟨a1, a2, a3, a4, a5, a6⟩ := h6 c9 hc8
    refine ⟨?_, ?_, ?_, ?_, fun s9 hs9 => ?_, fun d9 hd9 => ?_⟩
    · simp only [pt]; (repeat' split) <;> first | assumption | omega | grind
    · simp only [pt]; (repeat' split) <;> first | assumption | omega | grind
    · simp only [pt]; (repeat' split) <;> first | assumption | omega | grind
    · simp only [pt]; (repeat' split) <;> first | assumption | omega | grind
    · have hs8 : (s9 : Int) < T (7 + 8 * c9) 0 := by simp only [pt] at hs9; (repeat' split at hs9) <;> first | assumption | omega | grind
      obtain ⟨b1, b2, b3, b4⟩ := a5 s9 hs8
      simp only [pt]
      refine ⟨?_, ?_, ?_, ?_⟩ <;> (repeat' split) <;> first | assumption | omega | grind
    · obtain ⟨b1, b2, b3⟩ := a6 d9 hd9
      simp only [pt]
      refine ⟨?_, ?_, ?_⟩ <;> (repeat' split) <;> first | assumption | omega | grind
theorem rn_hadS {R T : TS} {z : Nat} {c d : Nat} {v : Int} (h : RNG R T z) : RNG (pt R 9 (8 * c + d) v) (pt T (7 + 8 * c + 6) d v) z := by
  intro b hb hz
  obtain ⟨g1, g2, g3⟩ := h b hb hz
  simp only [pt]
  refine ⟨?_, ?_, ?_⟩ <;> (repeat' split) <;> first | assumption | omega | grind
set_option maxHeartbeats 1000000 in
theorem rl_own {R T : TS} {c d : Nat} {v : Int} (h : RL0 R T) (hv : rg v) (hd : d < 8) : RL0 (pt R 10 (8 * c + d) v) (pt T (7 + 8 * c + 7) d v) := by
  obtain ⟨h1, h2, h3, h4, h5, h6⟩ := h
  refine ⟨rg_pt h1 hv, ?_, ?_, ?_, fun d9 hd9 => ?_, fun c9 hc9 => ?_⟩
  · simp only [pt]; (repeat' split) <;> first | assumption | omega | grind
  · simp only [pt]; (repeat' split) <;> first | assumption | omega | grind
  · simp only [pt]; (repeat' split) <;> first | assumption | omega | grind
  · have g1 := (h5 d9 hd9).1
    have g2 := (h5 d9 hd9).2
    simp only [pt]
    refine ⟨?_, ?_⟩ <;> (repeat' split) <;> first | assumption | omega | grind
  · have hc8 : (c9 : Int) < T 0 1 := by simp only [pt] at hc9; (repeat' split at hc9) <;> omega
    obtain ⟨a1, a2, a3, a4, a5, a6⟩ := h6 c9 hc8
    refine ⟨?_, ?_, ?_, ?_, fun s9 hs9 => ?_, fun d9 hd9 => ?_⟩
    · simp only [pt]; (repeat' split) <;> first | assumption | omega | grind
    · simp only [pt]; (repeat' split) <;> first | assumption | omega | grind
    · simp only [pt]; (repeat' split) <;> first | assumption | omega | grind
    · simp only [pt]; (repeat' split) <;> first | assumption | omega | grind
    · have hs8 : (s9 : Int) < T (7 + 8 * c9) 0 := by simp only [pt] at hs9; (repeat' split at hs9) <;> first | assumption | omega | grind
      obtain ⟨b1, b2, b3, b4⟩ := a5 s9 hs8
      simp only [pt]
      refine ⟨?_, ?_, ?_, ?_⟩ <;> (repeat' split) <;> first | assumption | omega | grind
    · obtain ⟨b1, b2, b3⟩ := a6 d9 hd9
      simp only [pt]
      refine ⟨?_, ?_, ?_⟩ <;> (repeat' split) <;> first | assumption | omega | grind
theorem rn_own {R T : TS} {z : Nat} {c d : Nat} {v : Int} (h : RNG R T z) : RNG (pt R 10 (8 * c + d) v) (pt T (7 + 8 * c + 7) d v) z := by
  intro b hb hz
  obtain ⟨g1, g2, g3⟩ := h b hb hz
  simp only [pt]
  refine ⟨?_, ?_, ?_⟩ <;> (repeat' split) <;> first | assumption | omega | grind
set_option maxHeartbeats 1000000 in
theorem rl_am {R T : TS} {d : Nat} {v : Int} (h : RL0 R T) (hv : rg v) : RL0 (pt R 1 d v) (pt T 1 d v) := by
  obtain ⟨h1, h2, h3, h4, h5, h6⟩ := h
  refine ⟨rg_pt h1 hv, ?_, ?_, ?_, fun d9 hd9 => ?_, fun c9 hc9 => ?_⟩
  · simp only [pt]; (repeat' split) <;> first | assumption | omega | grind
  · simp only [pt]; (repeat' split) <;> first | assumption | omega | grind
  · simp only [pt]; (repeat' split) <;> first | assumption | omega | grind
  · have g1 := (h5 d9 hd9).1
    have g2 := (h5 d9 hd9).2
    simp only [pt]
    refine ⟨?_, ?_⟩ <;> (repeat' split) <;> first | assumption | omega | grind
  · have hc8 : (c9 : Int) < T 0 1 := by simp only [pt] at hc9; (repeat' split at hc9) <;> omega
    obtain ⟨a1, a2, a3, a4, a5, a6⟩ := h6 c9 hc8
    refine ⟨?_, ?_, ?_, ?_, fun s9 hs9 => ?_, fun d9 hd9 => ?_⟩
    · simp only [pt]; (repeat' split) <;> first | assumption | omega | grind
    · simp only [pt]; (repeat' split) <;> first | assumption | omega | grind
    · simp only [pt]; (repeat' split) <;> first | assumption | omega | grind
    · simp only [pt]; (repeat' split) <;> first | assumption | omega | grind
    · have hs8 : (s9 : Int) < T (7 + 8 * c9) 0 := by simp only [pt] at hs9; (repeat' split at hs9) <;> first | assumption | omega | grind
      obtain ⟨b1, b2, b3, b4⟩ := a5 s9 hs8
      simp only [pt]
      refine ⟨?_, ?_, ?_, ?_⟩ <;> (repeat' split) <;> first | assumption | omega | grind
    · obtain ⟨b1, b2, b3⟩ := a6 d9 hd9
      simp only [pt]
      refine ⟨?_, ?_, ?_⟩ <;> (repeat' split) <;> first | assumption | omega | grind
theorem rn_am {R T : TS} {z : Nat} {d : Nat} {v : Int} (h : RNG R T z) : RNG (pt R 1 d v) (pt T 1 d v) z := by
  intro b hb hz
  obtain ⟨g1, g2, g3⟩ := h b hb hz
  simp only [pt]
  refine ⟨?_, ?_, ?_⟩ <;> (repeat' split) <;> first | assumption | omega | grind
set_option maxHeartbeats 1000000 in
theorem rl_se {R T : TS} {d : Nat} {v : Int} (h : RL0 R T) (hv : rg v) : RL0 (pt R 2 d v) (pt T 2 d v) := by
  obtain ⟨h1, h2, h3, h4, h5, h6⟩ := h
  refine ⟨rg_pt h1 hv, ?_, ?_, ?_, fun d9 hd9 => ?_, fun c9 hc9 => ?_⟩
  · simp only [pt]; (repeat' split) <;> first | assumption | omega | grind
  · simp only [pt]; (repeat' split) <;> first | assumption | omega | grind
  · simp only [pt]; (repeat' split) <;> first | assumption | omega | grind
  · have g1 := (h5 d9 hd9).1
    have g2 := (h5 d9 hd9).2
    simp only [pt]
    refine ⟨?_, ?_⟩ <;> (repeat' split) <;> first | assumption | omega | grind
  · have hc8 : (c9 : Int) < T 0 1 := by simp only [pt] at hc9; (repeat' split at hc9) <;> omega
    obtain ⟨a1, a2, a3, a4, a5, a6⟩ := h6 c9 hc8
    refine ⟨?_, ?_, ?_, ?_, fun s9 hs9 => ?_, fun d9 hd9 => ?_⟩
    · simp only [pt]; (repeat' split) <;> first | assumption | omega | grind
    · simp only [pt]; (repeat' split) <;> first | assumption | omega | grind
    · simp only [pt]; (repeat' split) <;> first | assumption | omega | grind
    · simp only [pt]; (repeat' split) <;> first | assumption | omega | grind
    · have hs8 : (s9 : Int) < T (7 + 8 * c9) 0 := by simp only [pt] at hs9; (repeat' split at hs9) <;> first | assumption | omega | grind
      obtain ⟨b1, b2, b3, b4⟩ := a5 s9 hs8
      simp only [pt]
      refine ⟨?_, ?_, ?_, ?_⟩ <;> (repeat' split) <;> first | assumption | omega | grind
    · obtain ⟨b1, b2, b3⟩ := a6 d9 hd9
      simp only [pt]
      refine ⟨?_, ?_, ?_⟩ <;> (repeat' split) <;> first | assumption | omega | grind
theorem rn_se {R T : TS} {z : Nat} {d : Nat} {v : Int} (h : RNG R T z) : RNG (pt R 2 d v) (pt T 2 d v) z := by
  intro b hb hz
  obtain ⟨g1, g2, g3⟩ := h b hb hz
  simp only [pt]
  refine ⟨?_, ?_, ?_⟩ <;> (repeat' split) <;> first | assumption | omega | grind
set_option maxHeartbeats 1000000 in
theorem rl_cl {R T : TS} {v : Int} (h : RL0 R T) (hv : rg v) : RL0 (pt R 0 2 v) (pt T 0 2 v) := by
  obtain ⟨h1, h2, h3, h4, h5, h6⟩ := h
  refine ⟨rg_pt h1 hv, ?_, ?_, ?_, fun d9 hd9 => ?_, fun c9 hc9 => ?_⟩
  · simp only [pt]; (repeat' split) <;> first | assumption | omega | grind
  · simp only [pt]; (repeat' split) <;> first | assumption | omega | grind
  · simp only [pt]; (repeat' split) <;> first | assumption | omega | grind
  · have g1 := (h5 d9 hd9).1
    have g2 := (h5 d9 hd9).2
    simp only [pt]
    refine ⟨?_, ?_⟩ <;> (repeat' split) <;> first | assumption | omega | grind
  · have hc8 : (c9 : Int) < T 0 1 := by simp only [pt] at hc9; (repeat' split at hc9) <;> omega
    obtain ⟨a1, a2, a3, a4, a5, a6⟩ := h6 c9 hc8
    refine ⟨?_, ?_, ?_, ?_, fun s9 hs9 => ?_, fun d9 hd9 => ?_⟩
    · simp only [pt]; (repeat' split) <;> first | assumption | omega | grind
    · simp only [pt]; (repeat' split) <;> first | assumption | omega | grind
    · simp only [pt]; (repeat' split) <;> first | assumption | omega | grind
    · simp only [pt]; (repeat' split) <;> first | assumption | omega | grind
    · have hs8 : (s9 : Int) < T (7 + 8 * c9) 0 := by simp only [pt] at hs9; (repeat' split at hs9) <;> first | assumption | omega | grind
      obtain ⟨b1, b2, b3, b4⟩ := a5 s9 hs8
      simp only [pt]
      refine ⟨?_, ?_, ?_, ?_⟩ <;> (repeat' split) <;> first | assumption | omega | grind
    · obtain ⟨b1, b2, b3⟩ := a6 d9 hd9
      simp only [pt]
      refine ⟨?_, ?_, ?_⟩ <;> (repeat' split) <;> first | assumption | omega | grind
theorem rn_cl {R T : TS} {z : Nat} {v : Int} (h : RNG R T z) : RNG (pt R 0 2 v) (pt T 0 2 v) z := by
  intro b hb hz
  obtain ⟨g1, g2, g3⟩ := h b hb hz
  simp only [pt]
  refine ⟨?_, ?_, ?_⟩ <;> (repeat' split) <;> first | assumption | omega | grind
