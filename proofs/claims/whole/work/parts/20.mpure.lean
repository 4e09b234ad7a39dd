/-! pure rows for the reference's state -/
theorem rz0 {R T : TS} (h : RL0 R T) : RLz R T 0 := ⟨h, fun b _ hz => absurd hz (Nat.not_lt_zero b)⟩
def xcl (R : TS) (c d : Nat) : TS := fun a b => if (a = 5 ∨ a = 6) ∧ b = c then 0 else if (a = 8 ∨ a = 9 ∨ a = 10) ∧ 8 * c ≤ b ∧ b < 8 * c + d then -1 else R a b
theorem rg_xcl {R : TS} (h : RG R) {c d : Nat} : RG (xcl R c d) := by
  intro a b
  unfold xcl
  (repeat' split) <;> first | exact h _ _ | exact ⟨by decide, by decide⟩
theorem soT_ne {T : TS} {q d a b : Nat} (h : a ≠ q ∧ a ≠ q + 5 ∧ a ≠ q + 6 ∧ a ≠ q + 7) : soT T q d a b = T a b := by
  unfold soT
  rw [if_neg (by omega), if_neg (by omega)]
theorem soT_0 {T : TS} {q d : Nat} : soT T q d q 0 = T q 0 := by
  unfold soT
  rw [if_neg (by omega), if_neg (by omega)]
theorem soT_3 {T : TS} {q d : Nat} : soT T q d q 3 = T q 3 := by
  unfold soT
  rw [if_neg (by omega), if_neg (by omega)]
theorem soT_1 {T : TS} {q d : Nat} : soT T q d q 1 = 0 := by unfold soT; rw [if_pos (by omega)]
theorem soT_2 {T : TS} {q d : Nat} : soT T q d q 2 = 0 := by unfold soT; rw [if_pos (by omega)]
theorem soT_s {T : TS} {q d j b : Nat} (hj : j = 5 ∨ j = 6 ∨ j = 7) (hb : b < d) : soT T q d (q + j) b = -1 := by
  unfold soT
  rw [if_neg (by omega), if_pos (by omega)]
theorem xcl_ne {R : TS} {c d a b : Nat} (h : a ≠ 5 ∧ a ≠ 6 ∧ a ≠ 8 ∧ a ≠ 9 ∧ a ≠ 10) : xcl R c d a b = R a b := by
  unfold xcl
  rw [if_neg (by omega), if_neg (by omega)]
theorem xcl_nc {R : TS} {c c9 a : Nat} (h : a = 5 ∨ a = 6) (hc : c9 ≠ c) {d : Nat} : xcl R c d a c9 = R a c9 := by
  unfold xcl
  rw [if_neg (by omega), if_neg (by omega)]
theorem xcl_z {R : TS} {c a d : Nat} (h : a = 5 ∨ a = 6) : xcl R c d a c = 0 := by
  unfold xcl
  rw [if_pos ⟨h, rfl⟩]
theorem xcl_s {R : TS} {c d a : Nat} (ha : a = 8 ∨ a = 9 ∨ a = 10) (hd : d < 8) : xcl R c 8 a (8 * c + d) = -1 := by
  unfold xcl
  rw [if_neg (by omega), if_pos (by omega)]
theorem xcl_n {R : TS} {c c9 d a : Nat} (ha : a = 8 ∨ a = 9 ∨ a = 10) (hd : d < 8) (hc : c9 ≠ c) : xcl R c 8 a (8 * c9 + d) = R a (8 * c9 + d) := by
  unfold xcl
  rw [if_neg (by omega), if_neg (by omega)]
theorem rl_clear {R T : TS} {c : Nat} (h : RL0 R T) : RL0 (xcl R c 8) (soT T (7 + 8 * c) 8) := by
  obtain ⟨h1, h2, h3, h4, h5, h6⟩ := h
  refine ⟨rg_xcl h1, ?_, ?_, ?_, fun d9 hd9 => ?_, fun c9 hc9 => ?_⟩
  · rw [xcl_ne (by omega), soT_ne (by omega)]; exact h2
  · rw [xcl_ne (by omega), soT_ne (by omega)]; exact h3
  · rw [xcl_ne (by omega), soT_ne (by omega)]; exact h4
  · rw [xcl_ne (by omega), xcl_ne (by omega), soT_ne (by omega), soT_ne (by omega)]; exact h5 d9 hd9
  · rw [soT_ne (by omega)] at hc9
    obtain ⟨a1, a2, a3, a4, a5, a6⟩ := h6 c9 hc9
    by_cases hc : c9 = c
    · subst hc
      refine ⟨?_, ?_, ?_, ?_, fun s9 hs9 => ?_, fun d9 hd9 => ?_⟩
      · rw [xcl_ne (by omega), soT_0]; exact a1
      · rw [xcl_z (by omega), soT_1]
      · rw [xcl_z (by omega), soT_2]
      · rw [xcl_ne (by omega), soT_3]; exact a4
      · rw [soT_0] at hs9
        rw [xcl_ne (by omega), xcl_ne (by omega), xcl_ne (by omega), xcl_ne (by omega), soT_ne (by omega), soT_ne (by omega), soT_ne (by omega), soT_ne (by omega)]
        exact a5 s9 hs9
      · rw [xcl_s (by omega) hd9, xcl_s (by omega) hd9, xcl_s (by omega) hd9, soT_s (by omega) hd9, soT_s (by omega) hd9, soT_s (by omega) hd9]
        exact ⟨rfl, rfl, rfl⟩
    · refine ⟨?_, ?_, ?_, ?_, fun s9 hs9 => ?_, fun d9 hd9 => ?_⟩
      · rw [xcl_ne (by omega), soT_ne (by omega)]; exact a1
      · rw [xcl_nc (by omega) hc, soT_ne (by omega)]; exact a2
      · rw [xcl_nc (by omega) hc, soT_ne (by omega)]; exact a3
      · rw [xcl_ne (by omega), soT_ne (by omega)]; exact a4
      · rw [soT_ne (by omega)] at hs9
        rw [xcl_ne (by omega), xcl_ne (by omega), xcl_ne (by omega), xcl_ne (by omega), soT_ne (by omega), soT_ne (by omega), soT_ne (by omega), soT_ne (by omega)]
        exact a5 s9 hs9
      · rw [xcl_n (by omega) hd9 hc, xcl_n (by omega) hd9 hc, xcl_n (by omega) hd9 hc, soT_ne (by omega), soT_ne (by omega), soT_ne (by omega)]
        exact a6 d9 hd9
theorem rn_clear {R T : TS} {c zz : Nat} (h : RNG R T zz) : RNG (xcl R c 8) (soT T (7 + 8 * c) 8) zz := by
  intro b hb hz
  rw [xcl_ne (by omega), xcl_ne (by omega), xcl_ne (by omega), soT_ne (by omega), soT_ne (by omega), soT_ne (by omega)]
  exact h b hb hz
theorem rz_clear {R T : TS} {c zz : Nat} (h : RLz R T zz) : RLz (xcl R c 8) (soT T (7 + 8 * c) 8) zz := ⟨rl_clear h.1, rn_clear h.2⟩
theorem rel_of {R T : TS} {zz : Nat} (h : RLz R T zz) (hz : (zz : Int) = T 0 2) : REL R T := ⟨h.1, by rw [show (T 0 2).toNat = zz by omega]; exact h.2⟩
theorem rel_z {R T : TS} (h : REL R T) : RLz R T (T 0 2).toNat := h
/-- a new clerk -/
theorem rl_add {R T : TS} {n : Nat} (h : RL0 R T) (hn : (n : Int) = T 0 1) (hn6 : n < 6) : RL0 (pt (xcl (pt (pt R 4 n 0) 7 n 0) n 8) 0 1 (T 0 1 + 1)) (acT T) := by
  obtain ⟨h1, h2, h3, h4, h5, h6⟩ := h
  have en : (T 0 1).toNat = n := by omega
  unfold acT baT
  rw [en]
  have r0 : rg 0 := ⟨by decide, by decide⟩
  refine ⟨rg_pt (rg_xcl (rg_pt (rg_pt h1 r0) r0)) ⟨by omega, by omega⟩, ?_, ?_, ?_, fun d9 hd9 => ?_, fun c9 hc9 => ?_⟩
  · rw [pt_ne _ _ (Or.inr (by omega)), pt_ne _ _ (Or.inr (by omega)), xcl_ne (by omega), soT_ne (by omega), pt_ne _ _ (Or.inl (by omega)), pt_ne _ _ (Or.inl (by omega)), pt_ne _ _ (Or.inl (by omega)), pt_ne _ _ (Or.inl (by omega))]; exact h2
  · rw [pt_at, pt_at]
  · rw [pt_ne _ _ (Or.inr (by omega)), pt_ne _ _ (Or.inr (by omega)), xcl_ne (by omega), soT_ne (by omega), pt_ne _ _ (Or.inl (by omega)), pt_ne _ _ (Or.inl (by omega)), pt_ne _ _ (Or.inl (by omega)), pt_ne _ _ (Or.inl (by omega))]; exact h4
  · have g := h5 d9 hd9
    refine ⟨?_, ?_⟩
    · rw [pt_ne _ _ (Or.inl (by omega)), pt_ne _ _ (Or.inl (by omega)), xcl_ne (by omega), soT_ne (by omega), pt_ne _ _ (Or.inl (by omega)), pt_ne _ _ (Or.inl (by omega)), pt_ne _ _ (Or.inl (by omega)), pt_ne _ _ (Or.inl (by omega))]; exact g.1
    · rw [pt_ne _ _ (Or.inl (by omega)), pt_ne _ _ (Or.inl (by omega)), xcl_ne (by omega), soT_ne (by omega), pt_ne _ _ (Or.inl (by omega)), pt_ne _ _ (Or.inl (by omega)), pt_ne _ _ (Or.inl (by omega)), pt_ne _ _ (Or.inl (by omega))]; exact g.2
  · rw [pt_at] at hc9
    have P1 : ∀ a b, a ≠ 0 → pt (xcl (pt (pt R 4 n 0) 7 n 0) n 8) 0 1 (T 0 1 + 1) a b = xcl (pt (pt R 4 n 0) 7 n 0) n 8 a b := fun a b ha => pt_ne _ _ (Or.inl ha)
    have P2 : ∀ a b, a ≠ 0 → pt (soT (pt (pt T (7 + 8 * n) 0 0) (7 + 8 * n) 3 0) (7 + 8 * n) 8) 0 1 (T 0 1 + 1) a b = soT (pt (pt T (7 + 8 * n) 0 0) (7 + 8 * n) 3 0) (7 + 8 * n) 8 a b := fun a b ha => pt_ne _ _ (Or.inl ha)
    by_cases hc : c9 = n
    · subst hc
      refine ⟨?_, ?_, ?_, ?_, fun s9 hs9 => ?_, fun d9 hd9 => ?_⟩
      · rw [P1 _ _ (by omega), P2 _ _ (by omega), xcl_ne (by omega), soT_0, pt_ne _ _ (Or.inl (by omega)), pt_at, pt_ne _ _ (Or.inr (by omega)), pt_at]
      · rw [P1 _ _ (by omega), P2 _ _ (by omega), xcl_z (by omega), soT_1]
      · rw [P1 _ _ (by omega), P2 _ _ (by omega), xcl_z (by omega), soT_2]
      · rw [P1 _ _ (by omega), P2 _ _ (by omega), xcl_ne (by omega), soT_3, pt_at, pt_at]
      · rw [P2 _ _ (by omega), soT_0, pt_ne _ _ (Or.inr (by omega)), pt_at] at hs9
        exact absurd hs9 (by omega)
      · rw [P1 _ _ (by omega), P1 _ _ (by omega), P1 _ _ (by omega), P2 _ _ (by omega), P2 _ _ (by omega), P2 _ _ (by omega), xcl_s (by omega) hd9, xcl_s (by omega) hd9, xcl_s (by omega) hd9, soT_s (by omega) hd9, soT_s (by omega) hd9, soT_s (by omega) hd9]
        exact ⟨rfl, rfl, rfl⟩
    · obtain ⟨a1, a2, a3, a4, a5, a6⟩ := h6 c9 (by omega)
      refine ⟨?_, ?_, ?_, ?_, fun s9 hs9 => ?_, fun d9 hd9 => ?_⟩
      · rw [P1 _ _ (by omega), P2 _ _ (by omega), xcl_ne (by omega), soT_ne (by omega), pt_ne _ _ (Or.inl (by omega)), pt_ne _ _ (Or.inr hc), pt_ne _ _ (Or.inl (by omega)), pt_ne _ _ (Or.inl (by omega))]; exact a1
      · rw [P1 _ _ (by omega), P2 _ _ (by omega), xcl_nc (by omega) hc, soT_ne (by omega), pt_ne _ _ (Or.inl (by omega)), pt_ne _ _ (Or.inl (by omega)), pt_ne _ _ (Or.inl (by omega)), pt_ne _ _ (Or.inl (by omega))]; exact a2
      · rw [P1 _ _ (by omega), P2 _ _ (by omega), xcl_nc (by omega) hc, soT_ne (by omega), pt_ne _ _ (Or.inl (by omega)), pt_ne _ _ (Or.inl (by omega)), pt_ne _ _ (Or.inl (by omega)), pt_ne _ _ (Or.inl (by omega))]; exact a3
      · rw [P1 _ _ (by omega), P2 _ _ (by omega), xcl_ne (by omega), soT_ne (by omega), pt_ne _ _ (Or.inr hc), pt_ne _ _ (Or.inl (by omega)), pt_ne _ _ (Or.inl (by omega)), pt_ne _ _ (Or.inl (by omega))]; exact a4
      · rw [P2 _ _ (by omega), soT_ne (by omega), pt_ne _ _ (Or.inl (by omega)), pt_ne _ _ (Or.inl (by omega))] at hs9
        obtain ⟨b1, b2, b3, b4⟩ := a5 s9 hs9
        refine ⟨?_, ?_, ?_, ?_⟩ <;> rw [P1 _ _ (by omega), P2 _ _ (by omega), xcl_ne (by omega), soT_ne (by omega), pt_ne _ _ (Or.inl (by omega)), pt_ne _ _ (Or.inl (by omega)), pt_ne _ _ (Or.inl (by omega)), pt_ne _ _ (Or.inl (by omega))] <;> assumption
      · obtain ⟨b1, b2, b3⟩ := a6 d9 hd9
        refine ⟨?_, ?_, ?_⟩ <;> rw [P1 _ _ (by omega), P2 _ _ (by omega), xcl_n (by omega) hd9 hc, soT_ne (by omega), pt_ne _ _ (Or.inl (by omega)), pt_ne _ _ (Or.inl (by omega)), pt_ne _ _ (Or.inl (by omega)), pt_ne _ _ (Or.inl (by omega))] <;> assumption
theorem acT_ne {T : TS} {a b : Nat} (h : a < 7) (h2 : a ≠ 0 ∨ b ≠ 1) : acT T a b = T a b := by
  unfold acT baT
  rw [pt_ne _ _ h2, soT_ne (by omega), pt_ne _ _ (Or.inl (by omega)), pt_ne _ _ (Or.inl (by omega))]
theorem rel_add {R T : TS} {n : Nat} (h : REL R T) (hn : (n : Int) = T 0 1) (hn6 : n < 6) : REL (pt (xcl (pt (pt R 4 n 0) 7 n 0) n 8) 0 1 (T 0 1 + 1)) (acT T) := by
  refine ⟨rl_add h.1 hn hn6, ?_⟩
  rw [acT_ne (by omega) (Or.inr (by omega))]
  intro b hb hz
  have g := h.2 b hb hz
  rw [acT_ne (by omega) (Or.inl (by omega)), acT_ne (by omega) (Or.inl (by omega)), acT_ne (by omega) (Or.inl (by omega)), pt_ne _ _ (Or.inl (by omega)), pt_ne _ _ (Or.inl (by omega)), pt_ne _ _ (Or.inl (by omega)), xcl_ne (by omega), xcl_ne (by omega), xcl_ne (by omega), pt_ne _ _ (Or.inl (by omega)), pt_ne _ _ (Or.inl (by omega)), pt_ne _ _ (Or.inl (by omega)), pt_ne _ _ (Or.inl (by omega)), pt_ne _ _ (Or.inl (by omega)), pt_ne _ _ (Or.inl (by omega))]
  exact g
/-- another till -/
theorem rel_begin {R T : TS} {m : Int} (h : RG R) (hm : rg m) : REL (bgT R m 8) (bgT T m 8) := by
  have r0 : rg 0 := ⟨by decide, by decide⟩
  refine ⟨⟨?_, rfl, rfl, rfl, fun d hd => ?_, fun c hc => ?_⟩, fun b hb hz => ?_⟩
  · intro a b
    unfold bgT
    (repeat' split) <;> first | exact hm | exact r0 | exact h _ _
  · unfold bgT
    rw [if_neg (by omega), if_neg (by omega), if_pos (by omega), if_neg (by omega), if_neg (by omega), if_pos (by omega), if_neg (by omega), if_neg (by omega), if_pos (by omega), if_neg (by omega), if_neg (by omega), if_pos (by omega)]
    exact ⟨rfl, rfl⟩
  · have : bgT T m 8 0 1 = 0 := rfl
    omega
  · have : bgT T m 8 0 2 = 0 := rfl
    rw [this] at hz
    exact absurd hz (Nat.not_lt_zero b)
/-- a loop's step of closing -/
theorem clS {T : TS} {q i : Nat} {z : Int} (h : T (q + 7) i ≠ -1) (hq : isQ q) : pt (pt (clL T q i z) 1 i (T (q + 7) i)) 2 i z = clL T q (i + 1) z := by
  have hq7 := hq.1
  funext a b
  simp only [pt, clL]
  (repeat' split) <;> first | rfl | omega | grind
theorem clN {T : TS} {q i : Nat} {z : Int} (h : T (q + 7) i = -1) : clL T q i z = clL T q (i + 1) z := by
  funext a b
  simp only [clL]
  (repeat' split) <;> first | rfl | omega | grind
theorem cl0 {T : TS} {q : Nat} {z : Int} : clL T q 0 z = T := by
  funext a b
  simp only [clL]
  (repeat' split) <;> first | rfl | omega
theorem sm_bd {f : Nat → Int} : ∀ n : Nat, (∀ d, d < n → -1 ≤ f d ∧ f d ≤ 9999) → -(n : Int) ≤ sm n f ∧ sm n f ≤ 9999 * n
  | 0, _ => ⟨by show -((0 : Nat) : Int) ≤ 0; omega, by show (0 : Int) ≤ 9999 * ((0 : Nat) : Int); omega⟩
  | n + 1, h => by
    have h1 := sm_bd n (fun d hd => h d (by omega))
    have h2 := h n (by omega)
    show -((n + 1 : Nat) : Int) ≤ sm n f + f n ∧ sm n f + f n ≤ 9999 * ((n + 1 : Nat) : Int)
    omega
theorem rg_sum {f : Nat → Int} {n : Nat} (hn : n ≤ 8) (h : ∀ d, d < 8 → -1 ≤ f d ∧ f d ≤ 9999) : rg (sm n f) := by
  have := sm_bd (f := f) n (fun d hd => h d (by omega))
  exact ⟨by omega, by omega⟩
theorem sm_c {f g : Nat → Int} : ∀ n : Nat, (∀ d, d < n → f d = g d) → sm n f = sm n g
  | 0, _ => rfl
  | n + 1, h => by
    show sm n f + f n = sm n g + g n
    rw [sm_c n (fun d hd => h d (by omega)), h n (by omega)]
/-- one state's rows out of another's -/
def cpr (R S : TS) (j n : Nat) : TS := fun a b => if a = j ∧ b < n then S a b else R a b
theorem arI_cpy {R S : TS} {j n : Nat} : va_cpy (arI S j) (arI R j) 0 0 n = arI (cpr R S j n) j := by
  funext i
  unfold va_cpy arI cpr
  by_cases h : i < n
  · rw [if_pos ⟨Nat.zero_le i, by omega⟩, if_pos ⟨rfl, h⟩, Nat.sub_zero, Nat.zero_add]
  · rw [if_neg (by omega), if_neg (by omega)]
theorem cpr_row {R S : TS} {j n : Nat} : ∀ a, a ≠ j → cpr R S j n a = R a := by
  intro a ha
  funext b
  unfold cpr
  rw [if_neg (fun h => ha h.1)]
theorem RW_cp {g : GT} {md : Nat → Nat} {h : Int} {Q : Nat → TS} {k j n : Nat} {R S : TS} (hj : j ≠ 0 ∧ j < 14) (hn : rs j = n) : (RW g md h Q k R).set (iy k j) (md (iy k j), .inl (g.2.1, n, .inl (va_cpy (arI S j) (arI R j) 0 0 n))) = RW g md h Q k (cpr R S j n) := by
  subst hn
  exact RW_set hj.2 (by rw [rc_a hj.1, arI_cpy]) cpr_row
theorem rg_cpr {R S : TS} (h : RG R) (hS : RG S) {j n : Nat} : RG (cpr R S j n) := by
  intro a b
  unfold cpr
  split
  · exact hS _ _
  · exact h _ _
/-- the reference's copy of a whole state -/
def xbe (R S : TS) : TS := cpr (cpr (cpr (cpr (cpr (cpr (cpr (cpr (cpr (cpr (cpr (cpr (cpr (pt (pt (pt R 0 0 (S 0 0)) 0 1 (S 0 1)) 0 2 (S 0 2)) S 1 8) S 2 8) S 3 192) S 4 6) S 5 6) S 6 6) S 7 6) S 8 48) S 9 48) S 10 48) S 11 10) S 12 10) S 13 10
theorem xbe_0 {R S : TS} {b : Nat} (hb : b < 3) : xbe R S 0 b = S 0 b := by
  unfold xbe cpr
  simp only [show ∀ n : Nat, ((0 : Nat) = n + 1) = False from fun n => by simp, false_and, if_false]
  unfold pt
  rcases (show b = 0 ∨ b = 1 ∨ b = 2 by omega) with h | h | h <;> subst h <;> rfl
theorem xbe_j {R S : TS} {j b : Nat} (hj : 0 < j ∧ j < 14) (hb : b < rs j) : xbe R S j b = S j b := by
  rcases (show j = 1 ∨ j = 2 ∨ j = 3 ∨ j = 4 ∨ j = 5 ∨ j = 6 ∨ j = 7 ∨ j = 8 ∨ j = 9 ∨ j = 10 ∨ j = 11 ∨ j = 12 ∨ j = 13 by omega) with h | h | h | h | h | h | h | h | h | h | h | h | h <;> subst h <;> simp [rs] at hb <;> simp [xbe, cpr, hb]
theorem rz_be {R S T : TS} {zz : Nat} (hR : RG R) (h : RLz S T zz) (hc6 : T 0 1 ≤ 6) (hs8 : ∀ c : Nat, (c : Int) < T 0 1 → T (7 + 8 * c) 0 ≤ 8) : RLz (xbe R S) T zz := by
  obtain ⟨⟨h1, h2, h3, h4, h5, h6⟩, hn⟩ := h
  refine ⟨⟨?_, ?_, ?_, ?_, fun d hd => ?_, fun c hc => ?_⟩, fun b hb hz => ?_⟩
  · unfold xbe
    exact rg_cpr (rg_cpr (rg_cpr (rg_cpr (rg_cpr (rg_cpr (rg_cpr (rg_cpr (rg_cpr (rg_cpr (rg_cpr (rg_cpr (rg_cpr (rg_pt (rg_pt (rg_pt hR (h1 _ _)) (h1 _ _)) (h1 _ _)) h1) h1) h1) h1) h1) h1) h1) h1) h1) h1) h1) h1) h1
  · rw [xbe_0 (by omega)]; exact h2
  · rw [xbe_0 (by omega)]; exact h3
  · rw [xbe_0 (by omega)]; exact h4
  · rw [xbe_j (by omega) (by show d < 8; exact hd), xbe_j (by omega) (by show d < 8; exact hd)]; exact h5 d hd
  · obtain ⟨a1, a2, a3, a4, a5, a6⟩ := h6 c hc
    have hs := hs8 c hc
    have h9 : c < 6 := by omega
    refine ⟨?_, ?_, ?_, ?_, fun s hs9 => ?_, fun d hd => ?_⟩
    · rw [xbe_j (by omega) (by show c < 6; omega)]; exact a1
    · rw [xbe_j (by omega) (by show c < 6; omega)]; exact a2
    · rw [xbe_j (by omega) (by show c < 6; omega)]; exact a3
    · rw [xbe_j (by omega) (by show c < 6; omega)]; exact a4
    · rw [xbe_j (by omega) (by show _ < 192; omega), xbe_j (by omega) (by show _ < 192; omega), xbe_j (by omega) (by show _ < 192; omega), xbe_j (by omega) (by show _ < 192; omega)]; exact a5 s hs9
    · rw [xbe_j (by omega) (by show _ < 48; omega), xbe_j (by omega) (by show _ < 48; omega), xbe_j (by omega) (by show _ < 48; omega)]; exact a6 d hd
  · rw [xbe_j (by omega) (by show _ < 10; omega), xbe_j (by omega) (by show _ < 10; omega), xbe_j (by omega) (by show _ < 10; omega)]; exact hn b hb hz
