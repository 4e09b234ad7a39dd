/-! what of a shop's ints matters: two shops that agree there go on alike -/
def RV (n a b : Nat) : Prop := (a = 0 ∧ b < 3) ∨ ((a = 1 ∨ a = 2) ∧ b < 8) ∨ (7 ≤ a ∧ a < 7 + 8 * n ∧ ((a % 8 = 7 ∧ b < 4) ∨ (a % 8 ≠ 7 ∧ b < 8)))
def EQT (n : Nat) (T T' : TS) : Prop := ∀ a b, RV n a b → T' a b = T a b
theorem rv0 {n b : Nat} (h : b < 3) : RV n 0 b := Or.inl ⟨rfl, h⟩
theorem rv1 {n a b : Nat} (h : a = 1 ∨ a = 2) (hb : b < 8) : RV n a b := Or.inr (Or.inl ⟨h, hb⟩)
theorem rvq {n c b : Nat} (h : c < n) (hb : b < 4) : RV n (7 + 8 * c) b := Or.inr (Or.inr ⟨by omega, by omega, Or.inl ⟨by omega, hb⟩⟩)
theorem rvj {n c j b : Nat} (h : c < n) (h0 : 0 < j) (h8 : j < 8) (hb : b < 8) : RV n (7 + 8 * c + j) b := Or.inr (Or.inr ⟨by omega, by omega, Or.inr ⟨by omega, hb⟩⟩)
theorem rv_no {n a b : Nat} (h : 3 ≤ a ∧ a < 7) : ¬ RV n a b := by unfold RV; omega
section EQ
variable {n : Nat} {T T' : TS} {c : Nat}
theorem eq_pt (h : EQT n T T') (j i : Nat) (v : Int) : EQT n (pt T j i v) (pt T' j i v) := by
  intro a b hr
  unfold pt
  split
  · rfl
  · exact h a b hr
theorem eq_rdV (h : EQT n T T') (hc : c < n) {d : Nat} (hd : d < 8) : rdV T' (7 + 8 * c) d = rdV T (7 + 8 * c) d := by
  unfold rdV
  rw [h _ _ (rvj (j := 7) hc (by omega) (by omega) hd), h _ _ (rvj (j := 5) hc (by omega) (by omega) hd), h _ _ (rv1 (Or.inl rfl) hd)]
theorem eq_rdT (h : EQT n T T') (hc : c < n) {d : Nat} (hd : d < 8) : EQT n (rdT T (7 + 8 * c) d) (rdT T' (7 + 8 * c) d) := by
  unfold rdT
  rw [h _ _ (rvj (j := 7) hc (by omega) (by omega) hd), h _ _ (rvj (j := 5) hc (by omega) (by omega) hd), h _ _ (rv1 (Or.inl rfl) hd), h _ _ (rv1 (Or.inr rfl) hd)]
  split
  · exact h
  · split
    · exact h
    · exact eq_pt (eq_pt h _ _ _) _ _ _
theorem eq_cyT (h : EQT n T T') (hc : c < n) {d e : Nat} (hd : d < 8) (he : e < 8) (b : Int) : EQT n (cyT T (7 + 8 * c) d e b) (cyT T' (7 + 8 * c) d e b) := by
  have h1 := eq_rdT h hc hd
  unfold cyT
  rw [eq_rdV h hc hd, eq_rdV h1 hc he]
  split
  · exact h1
  · exact eq_pt (eq_pt (eq_rdT h1 hc he) _ _ _) _ _ _
theorem eq_dsT (h : EQT n T T') (hc : c < n) {p : Nat} (hp : p < 8) (hd : (T (7 + 8 * c + 2) p).toNat < 8) (he : (T (7 + 8 * c + 3) p).toNat < 8) : EQT n (dsT T (7 + 8 * c) p) (dsT T' (7 + 8 * c) p) := by
  unfold dsT
  rw [h _ _ (rvj (j := 1) hc (by omega) (by omega) hp), h _ _ (rvj (j := 2) hc (by omega) (by omega) hp), h _ _ (rvj (j := 3) hc (by omega) (by omega) hp), h _ _ (rvj (j := 4) hc (by omega) (by omega) hp), eq_rdV h hc hd]
  split
  · exact eq_rdT h hc hd
  · split
    · exact eq_pt h _ _ _
    · split
      · exact eq_pt (eq_rdT h hc hd) _ _ _
      · exact eq_cyT h hc hd he _
theorem eq_soT (h : EQT n T T') (q d : Nat) : EQT n (soT T q d) (soT T' q d) := by
  intro a b hr
  unfold soT
  split
  · rfl
  · split
    · rfl
    · exact h a b hr
theorem eq_kcT (h : EQT n T T') (x w : Int) : EQT n (kcT T x w) (kcT T' x w) := by
  intro a b hr
  have h9 : a < 4 ∨ 6 < a := by
    rcases Nat.lt_or_ge a 4 with h1 | h1
    · exact Or.inl h1
    · rcases Nat.lt_or_ge 6 a with h2 | h2
      · exact Or.inr h2
      · exact absurd hr (rv_no ⟨by omega, by omega⟩)
  rw [kcT_ne h9, kcT_ne h9]
  exact h a b hr
theorem eq_nd (h : EQT n T T') : nd T' = nd T := by unfold nd; rw [h _ _ (rv0 (by omega))]
theorem eq_nc (h : EQT n T T') : nc T' = nc T := by unfold nc; rw [h _ _ (rv0 (by omega))]
theorem eq_clL (h : EQT n T T') (hc : c < n) (i : Nat) (z : Int) : EQT n (clL T (7 + 8 * c) i z) (clL T' (7 + 8 * c) i z) := by
  intro a b hr
  by_cases hb : b < 8
  · unfold clL
    rw [h _ _ (rvj (j := 7) hc (by omega) (by omega) hb), h a b hr]
  · have h1 : a ≠ 1 ∧ a ≠ 2 := by unfold RV at hr; omega
    rw [clL_ne h1.1 h1.2, clL_ne h1.1 h1.2]
    exact h a b hr
theorem eq_clT (h : EQT n T T') (hc : c < n) (x : Int) : EQT n (clT T (7 + 8 * c) x) (clT T' (7 + 8 * c) x) := by
  unfold clT
  have e : sm 8 (wrF T' (7 + 8 * c)) = sm 8 (wrF T (7 + 8 * c)) := sm_c 8 (fun d hd => by unfold wrF; rw [h _ _ (rvj (j := 7) hc (by omega) (by omega) hd)])
  rw [e, eq_nd h, h 0 2 (rv0 (by omega))]
  exact eq_kcT (eq_pt (eq_clL (eq_pt h _ _ _) hc _ _) _ _ _) _ _
theorem eq_odP (h : EQT n T T') (hc : c < n) {m : Nat} (hm : m ≤ 8) : odP T' (7 + 8 * c) m ↔ odP T (7 + 8 * c) m := by
  unfold odP
  constructor
  · rintro ⟨d, hd, h1, h2⟩
    rw [h _ _ (rvj (j := 5) hc (by omega) (by omega) (by omega))] at h1
    rw [h _ _ (rvj (j := 6) hc (by omega) (by omega) (by omega)), h _ _ (rv1 (Or.inr rfl) (by omega))] at h2
    exact ⟨d, hd, h1, h2⟩
  · rintro ⟨d, hd, h1, h2⟩
    rw [← h _ _ (rvj (j := 5) hc (by omega) (by omega) (by omega))] at h1
    rw [← h _ _ (rvj (j := 6) hc (by omega) (by omega) (by omega)), ← h _ _ (rv1 (Or.inr rfl) (by omega))] at h2
    exact ⟨d, hd, h1, h2⟩
theorem eq_tk {M : Int} (h : EQT n T T') (hn : n = nc T) (hw : WF T M) (hc : c < n) : EQT n (tkT T c) (tkT T' c) ∧ tkV T' c = tkV T c := by
  have hi := nc_i hw
  obtain ⟨h1, h2, h3, h4, h5, h6⟩ := hw
  obtain ⟨k1, k2, k3, k4, k5, k6⟩ := h6 c (by omega)
  have e0 := h _ _ (rvq (b := 0) hc (by omega))
  have e1 := h _ _ (rvq (b := 1) hc (by omega))
  have e3 := h _ _ (rvq (b := 3) hc (by omega))
  have eo : bz (odP T' (7 + 8 * c) (nd T)) = bz (odP T (7 + 8 * c) (nd T)) := bz_c (eq_odP h hc (by unfold nd; omega))
  unfold tkT tkV
  rw [e0, e1, e3, eq_nd h, eo]
  by_cases hp : T (7 + 8 * c) 1 < T (7 + 8 * c) 0
  · obtain ⟨p1, p2, p3, p4, p5, p6⟩ := k5 (T (7 + 8 * c) 1).toNat (by omega)
    rw [if_pos hp, if_pos hp, if_pos hp]
    exact ⟨eq_pt (eq_dsT h hc (by omega) (by omega) (by omega)) _ _ _, rfl⟩
  · rw [if_neg hp, if_neg hp, if_neg hp]
    refine ⟨?_, rfl⟩
    split
    · exact eq_soT (eq_pt h _ _ _) _ _
    · exact eq_clT h hc _
theorem eq_gr {M : Int} (h : EQT n T T') (hn : n = nc T) (hw : WF T M) (hM : M < 2147483000) : ∀ c : Nat, c ≤ n → EQT n (gr T c).1 (gr T' c).1 ∧ (gr T' c).2 = (gr T c).2
  | 0, _ => ⟨h, rfl⟩
  | c + 1, hc => by
    obtain ⟨i1, i2⟩ := eq_gr h hn hw hM c (by omega)
    have hi := nc_i hw
    have w := wf_gr hw hM c (by omega)
    have e2 := i1 _ _ (rvq (c := c) (b := 2) (by omega) (by omega))
    have e0 := i1 _ _ (rvq (c := c) (b := 0) (by omega) (by omega))
    have hn9 : n = nc (gr T c).1 := by unfold nc; rw [grz_0 (by omega)]; exact hn
    have t9 := eq_tk (c := c) i1 hn9 w (by omega)
    rw [gr, gr, e2, e0, t9.2, i2]
    split
    · exact ⟨t9.1, rfl⟩
    · exact ⟨i1, i2⟩
theorem eq_grs {M : Int} (h : EQT n T T') (hn : n = nc T) (hw : WF T M) (hM : M < 2147400000) : ∀ j : Nat, j ≤ 1000 → EQT n (grs T j).1 (grs T' j).1 ∧ (grs T' j).2 = (grs T j).2 ∧ nc (grs T j).1 = n
  | 0, _ => ⟨h, rfl, hn.symm⟩
  | j + 1, hj => by
    obtain ⟨i1, i2, i3⟩ := eq_grs h hn hw hM j (by omega)
    have w := wf_grs hw hM j (by omega)
    have g9 := eq_gr i1 i3.symm w (by omega) n (Nat.le_refl _)
    rw [grs, grs, eq_nc i1, i3]
    refine ⟨g9.1, by rw [g9.2, i2], ?_⟩
    show nc (gr (grs T j).1 n).1 = n
    unfold nc
    rw [grz_0 (by omega)]
    exact i3
theorem eq_cnV (h : EQT n T T') (hn : n = nc T) (h8 : T 0 0 ≤ 8) {what : Int} : cnV T' what = cnV T what := by
  unfold cnV
  rw [eq_nc h, eq_nd h, h _ _ (rv0 (b := 0) (by omega)), h _ _ (rv0 (b := 1) (by omega)), h _ _ (rv0 (b := 2) (by omega))]
  have e1 : sm (nc T) (dnF T') = sm (nc T) (dnF T) := sm_c _ (fun c hc => by unfold dnF; rw [h _ _ (rvq (by omega) (by omega))])
  have e2 : sm (nc T) (ltF T') = sm (nc T) (ltF T) := sm_c _ (fun c hc => by unfold ltF; rw [h _ _ (rvq (by omega) (by omega))])
  have e3 : sm (nd T) (T' 1) = sm (nd T) (T 1) := sm_c _ (fun d hd => h _ _ (rv1 (Or.inl rfl) (by unfold nd at hd; omega)))
  have e4 : sm (nc T) (loF T') = sm (nc T) (loF T) := sm_c _ (fun c hc => by
    unfold loF
    refine bz_c ?_
    rw [h _ _ (rvq (by omega) (by omega)), eq_nd h, eq_odP h (by omega) (by unfold nd; omega)])
  rw [e1, e2, e3, e4]
theorem eq_anP (h : EQT n T T') (hn : n = nc T) : anP T' ↔ anP T := by
  unfold anP awP
  rw [eq_nc h]
  constructor
  · rintro ⟨c, hc, h1, h2⟩
    rw [h _ _ (rvq (by omega) (by omega))] at h1 h2
    exact ⟨c, hc, h1, h2⟩
  · rintro ⟨c, hc, h1, h2⟩
    rw [← h _ _ (rvq (by omega) (by omega))] at h1 h2
    exact ⟨c, hc, h1, h2⟩
theorem eq_wal {M : Int} (h : EQT n T T') (hn : n = nc T) (hw : WF T M) (hM : M < 2147400000) (hc : c < n) : ∀ t : Nat, t ≤ 1000 → EQT n (wal T c t) (wal T' c t)
  | 0, _ => by rw [wal, wal]; exact eq_soT h _ _
  | t + 1, ht => by
    have i1 := eq_wal h hn hw hM hc t (by omega)
    have hi := nc_i hw
    obtain ⟨w1, w2, w3⟩ := wf_wal hw hM (c := c) (by omega) t (by omega)
    rw [wal, wal]
    exact (eq_tk i1 (by unfold nc; rw [w2]; exact hn) w1 hc).1
theorem eq_be {T1 : TS} {M : Int} (hw : WF T M) : EQT (nc T) T (beT T1 T) := by
  have hi := nc_i hw
  intro a b hr
  rcases hr with ⟨rfl, hb⟩ | ⟨ha, hb⟩ | ⟨h1, h2, h3⟩
  · exact be_0 hb
  · exact be_1 ha hb
  · have e : a = 7 + 8 * ((a - 7) / 8) + (a - 7) % 8 := by omega
    rw [e]
    exact be_q (by omega) (by omega) (fun h => by omega) (by omega)
end EQ
/-! replaying a program over a till of any amounts and seals -/
def AGQ (q : Nat) (X X' : TS) : Prop := ∀ a b, (((a = 1 ∨ a = 2) ∧ b < 8) ∨ (a = q ∧ b < 4) ∨ (q < a ∧ a < q + 8 ∧ b < 8)) → X' a b = X a b
section AG
variable {q : Nat} {X X' : TS}
theorem ag_pt (h : AGQ q X X') (j i : Nat) (v : Int) : AGQ q (pt X j i v) (pt X' j i v) := by
  intro a b hr
  unfold pt
  split
  · rfl
  · exact h a b hr
theorem ag_rdV (h : AGQ q X X') {d : Nat} (hd : d < 8) : rdV X' q d = rdV X q d := by
  unfold rdV
  rw [h (q + 7) d (by omega), h (q + 5) d (by omega), h 1 d (by omega)]
theorem ag_rdT (h : AGQ q X X') {d : Nat} (hd : d < 8) : AGQ q (rdT X q d) (rdT X' q d) := by
  unfold rdT
  rw [h (q + 7) d (by omega), h (q + 5) d (by omega), h 1 d (by omega), h 2 d (by omega)]
  split
  · exact h
  · split
    · exact h
    · exact ag_pt (ag_pt h _ _ _) _ _ _
theorem ag_dsT (h : AGQ q X X') {p : Nat} (hp : p < 8) (hd : (X (q + 2) p).toNat < 8) (he : (X (q + 3) p).toNat < 8) : AGQ q (dsT X q p) (dsT X' q p) := by
  unfold dsT
  rw [h (q + 1) p (by omega), h (q + 2) p (by omega), h (q + 3) p (by omega), h (q + 4) p (by omega), ag_rdV h hd]
  split
  · exact ag_rdT h hd
  · split
    · exact ag_pt h _ _ _
    · split
      · exact ag_pt (ag_rdT h hd) _ _ _
      · have h1 := ag_rdT h hd
        unfold cyT
        rw [ag_rdV h hd, ag_rdV h1 he]
        split
        · exact h1
        · exact ag_pt (ag_pt (ag_rdT h1 he) _ _ _) _ _ _
theorem ag_soT (h : AGQ q X X') (d : Nat) : AGQ q (soT X q d) (soT X' q d) := by
  intro a b hr
  unfold soT
  split
  · rfl
  · split
    · rfl
    · exact h a b hr
end AG
def PRG (T : TS) (q : Nat) : Prop := (0 ≤ T q 0 ∧ T q 0 ≤ 8) ∧ ∀ s : Nat, (s : Int) < T q 0 → (T (q + 2) s).toNat < 8 ∧ (T (q + 3) s).toNat < 8
theorem wal_ne {c s : Nat} {X : TS} (h0 : X 0 0 ≤ 8) (hs : X (7 + 8 * c) 0 = (s : Int)) {a b : Nat} (ha : a ≠ 7 + 8 * c ∧ a ≠ 7 + 8 * c + 5 ∧ a ≠ 7 + 8 * c + 6 ∧ a ≠ 7 + 8 * c + 7) : ∀ t : Nat, t ≤ s → wal X c t a b = X a b
  | 0, _ => by rw [wal]; exact soT_ne ha
  | t + 1, ht => by
    obtain ⟨u1, u2, -⟩ := wal_st (c := c) h0 hs t (by omega)
    rw [wal]
    unfold tkT
    rw [if_pos (by omega), pt_ne _ _ (Or.inl ha.1), dsT_ne (by omega) (by omega) (by omega)]
    exact wal_ne h0 hs ha t (by omega)
/-- the same rows of a clerk, the same till: the same replay -/
theorem ag_wal {c : Nat} {X X' : TS} (h : AGQ (7 + 8 * c) (wal X c 0) (wal X' c 0)) (hp : PRG X (7 + 8 * c)) (h0 : X 0 0 ≤ 8) (h0' : X' 0 0 ≤ 8) : ∀ t : Nat, (t : Int) ≤ X (7 + 8 * c) 0 → AGQ (7 + 8 * c) (wal X c t) (wal X' c t)
  | 0, _ => h
  | t + 1, ht => by
    have hp1 := hp.1
    obtain ⟨s, hs⟩ := Int.eq_ofNat_of_zero_le hp.1.1
    have i1 := ag_wal h hp h0 h0' t (by omega)
    have hs' : X' (7 + 8 * c) 0 = (s : Int) := by
      have h9 := h (7 + 8 * c) 0 (by omega)
      rw [wal, wal, soT_0, soT_0] at h9
      exact h9.trans hs
    obtain ⟨a1, a2, a3, -⟩ := wal_st (c := c) h0 hs t (by omega)
    obtain ⟨b1, b2, b3, -⟩ := wal_st (c := c) h0' hs' t (by omega)
    have g := hp.2 t (by omega)
    rw [wal, wal]
    unfold tkT
    rw [if_pos (by omega), if_pos (by omega), a2, b2, Int.toNat_natCast]
    exact ag_pt (ag_dsT i1 (by omega) (by rw [wal_ne h0 hs (by omega) t (by omega)]; exact g.1) (by rw [wal_ne h0 hs (by omega) t (by omega)]; exact g.2)) _ _ _
def TT (T : TS) (A S : Nat → Int) : TS := fun a b => if a = 1 then A b else if a = 2 then S b else T a b
/-- a till that has what the slip remembers -/
def AGS (T : TS) (q : Nat) (A S : Nat → Int) : Prop := ∀ d, d < 8 → T (q + 5) d ≠ -1 → A d = T (q + 5) d ∧ S d = T (q + 6) d
/-- the slip is what the steps done would make of any till that has what it remembers -/
def RPL (T : TS) (c : Nat) : Prop := T (7 + 8 * c) 2 = 0 → ∀ A S : Nat → Int, AGS T (7 + 8 * c) A S → ∀ j d, (j = 5 ∨ j = 6 ∨ j = 7) → d < 8 → wal (TT T A S) c (T (7 + 8 * c) 1).toNat (7 + 8 * c + j) d = T (7 + 8 * c + j) d
def SLI (T : TS) (q : Nat) : Prop := ∀ d, d < 8 → (T (q + 5) d = -1 → T (q + 6) d = -1) ∧ (T (q + 5) d ≠ -1 → 0 ≤ T (q + 6) d ∧ T (q + 6) d ≤ T 2 d ∧ (T (q + 6) d = T 2 d → T (q + 5) d = T 1 d))
def SEA (T : TS) : Prop := ∀ d, d < 8 → 0 ≤ T 2 d ∧ T 2 d ≤ T 0 2
def IV (T : TS) : Prop := SEA T ∧ ∀ c : Nat, (c : Int) < T 0 1 → SLI T (7 + 8 * c) ∧ RPL T c
theorem tt_ne {T : TS} {A S : Nat → Int} {a b : Nat} (h : a ≠ 1 ∧ a ≠ 2) : TT T A S a b = T a b := by unfold TT; rw [if_neg h.1, if_neg h.2]
theorem wf_prg {T : TS} {M : Int} (h : WF T M) {c : Nat} (hc : (c : Int) < T 0 1) : PRG T (7 + 8 * c) := by
  obtain ⟨h1, h2, h3, h4, h5, h6⟩ := h
  obtain ⟨k1, k2, k3, k4, k5, k6⟩ := h6 c hc
  refine ⟨k1, fun s hs => ?_⟩
  have := k5 s hs
  omega
/-- a clerk whose rows are the same -/
theorem rpl_fr {T T' : TS} {c : Nat} (h : RPL T c) (hp : PRG T (7 + 8 * c)) (h0 : T 0 0 ≤ 8) (h00 : T' 0 0 = T 0 0) (hl : T (7 + 8 * c) 1 ≤ T (7 + 8 * c) 0) (he : ∀ a b, 7 + 8 * c ≤ a → a < 7 + 8 * c + 8 → T' a b = T a b) : RPL T' c := by
  intro hz A S hA j d hj hd
  have e1 := he (7 + 8 * c) 1 (by omega) (by omega)
  rw [he _ _ (by omega) (by omega)] at hz
  rw [e1, he _ _ (by omega) (by omega)]
  have hA9 : AGS T (7 + 8 * c) A S := fun d hd h9 => by
    have := hA d hd
    rw [he _ _ (by omega) (by omega), he _ _ (by omega) (by omega)] at this
    exact this h9
  have ag : AGQ (7 + 8 * c) (TT T A S) (TT T' A S) := fun a b hr => by
    unfold TT
    split
    · rfl
    · split
      · rfl
      · exact he a b (by omega) (by omega)
  have hp9 : PRG (TT T A S) (7 + 8 * c) := by
    unfold PRG
    rw [tt_ne (by omega)]
    refine ⟨hp.1, fun s hs => ?_⟩
    rw [tt_ne (by omega), tt_ne (by omega)]
    exact hp.2 s hs
  have w := ag_wal (c := c) (X := TT T A S) (X' := TT T' A S) (by rw [wal, wal]; exact ag_soT ag _) hp9 (by rw [tt_ne (by omega)]; exact h0) (by rw [tt_ne (by omega), h00]; exact h0) (T (7 + 8 * c) 1).toNat (by rw [tt_ne (by omega)]; have := hp.1; omega) (7 + 8 * c + j) d (by omega)
  rw [w]
  exact h hz A S hA9 j d hj hd
/-- an empty slip, at the beginning -/
theorem rpl_0 {T : TS} {c : Nat} (h1 : T (7 + 8 * c) 1 = 0) (hs : ∀ j d, (j = 5 ∨ j = 6 ∨ j = 7) → d < 8 → T (7 + 8 * c + j) d = -1) : RPL T c := by
  intro _ A S _ j d hj hd
  rw [h1, hs j d hj hd]
  show wal (TT T A S) c 0 (7 + 8 * c + j) d = -1
  rw [wal, soT_s hj hd]
/-- reading: what is new on the slip is the till's; whoever agrees with it reads the same -/
def CLM (T X : TS) (q : Nat) : Prop := ∀ a b, (q < a ∧ a < q + 8 ∧ b < 8) → X a b = T a b
theorem clm_pt {T X : TS} {q : Nat} (h : CLM T X q) (j i : Nat) (v : Int) : CLM (pt T j i v) (pt X j i v) q := by
  intro a b hr
  unfold pt
  split
  · rfl
  · exact h a b hr
theorem clm_rd {T X : TS} {q d : Nat} (hq : 7 ≤ q) (hd : d < 8) (h : CLM T X q) (ha : 0 ≤ T 1 d) (hX : rdT T q d (q + 5) d ≠ -1 → X 1 d = rdT T q d (q + 5) d ∧ X 2 d = rdT T q d (q + 6) d) : CLM (rdT T q d) (rdT X q d) q ∧ rdV X q d = rdV T q d := by
  have e7 := h (q + 7) d (by omega)
  have e5 := h (q + 5) d (by omega)
  unfold rdT rdV at *
  rw [e7, e5]
  by_cases h7 : T (q + 7) d ≠ -1
  · rw [if_pos h7, if_pos h7, if_pos h7, if_pos h7]
    exact ⟨h, rfl⟩
  · rw [if_neg h7, if_neg h7, if_neg h7, if_neg h7]
    by_cases h5 : T (q + 5) d ≠ -1
    · rw [if_pos h5, if_pos h5, if_pos h5, if_pos h5]
      exact ⟨h, rfl⟩
    · rw [if_neg h7, if_neg h5] at hX
      rw [pt_ne _ _ (Or.inl (by omega)), pt_at, pt_at] at hX
      obtain ⟨x1, x2⟩ := hX (by omega)
      rw [if_neg h5, if_neg h5, if_neg h5, if_neg h5, x1, x2]
      exact ⟨clm_pt (clm_pt h _ _ _) _ _ _, rfl⟩
/-- what is remembered stays, with its seal -/
theorem rd_keep {T : TS} {q d e : Nat} (h : T (q + 5) e ≠ -1) : rdT T q d (q + 5) e = T (q + 5) e ∧ rdT T q d (q + 6) e = T (q + 6) e := by
  unfold rdT
  split
  · exact ⟨rfl, rfl⟩
  · split
    · exact ⟨rfl, rfl⟩
    · rename_i h5
      have hx : e ≠ d := fun hx => by subst hx; exact h5 h
      exact ⟨by rw [pt_ne _ _ (Or.inl (by omega)), pt_ne _ _ (Or.inr hx)], by rw [pt_ne _ _ (Or.inr hx), pt_ne _ _ (Or.inl (by omega))]⟩
theorem ds_keep {T : TS} {q p e : Nat} (h : T (q + 5) e ≠ -1) : dsT T q p (q + 5) e = T (q + 5) e ∧ dsT T q p (q + 6) e = T (q + 6) e := by
  have hw : ∀ (U : TS) (j : Nat) (v : Int), pt U (q + 7) j v (q + 5) e = U (q + 5) e ∧ pt U (q + 7) j v (q + 6) e = U (q + 6) e := fun U j v => ⟨pt_ne _ _ (Or.inl (by omega)), pt_ne _ _ (Or.inl (by omega))⟩
  unfold dsT
  split
  · exact rd_keep h
  · split
    · exact hw _ _ _
    · split
      · rw [(hw _ _ _).1, (hw _ _ _).2]; exact rd_keep h
      · unfold cyT
        split
        · exact rd_keep h
        · rw [(hw _ _ _).1, (hw _ _ _).2, (hw _ _ _).1, (hw _ _ _).2]
          have h1 := rd_keep (d := (T (q + 2) p).toNat) h
          have h2 := rd_keep (T := rdT T q (T (q + 2) p).toNat) (q := q) (d := (T (q + 3) p).toNat) (e := e) (by rw [h1.1]; exact h)
          exact ⟨h2.1.trans h1.1, h2.2.trans h1.2⟩
/-- one step: who agrees with the slip behind it does the same -/
theorem clm_ds {T X : TS} {q p : Nat} (hq : 7 ≤ q) (hp : p < 8) (hd : (T (q + 2) p).toNat < 8) (he : (T (q + 3) p).toNat < 8) (h : CLM T X q) (ha : AMW T) (hX : ∀ d, d < 8 → dsT T q p (q + 5) d ≠ -1 → X 1 d = dsT T q p (q + 5) d ∧ X 2 d = dsT T q p (q + 6) d) : CLM (dsT T q p) (dsT X q p) q := by
  have hw : ∀ (U : TS) (j : Nat) (v : Int) (e : Nat), pt U (q + 7) j v (q + 5) e = U (q + 5) e ∧ pt U (q + 7) j v (q + 6) e = U (q + 6) e := fun U j v e => ⟨pt_ne _ _ (Or.inl (by omega)), pt_ne _ _ (Or.inl (by omega))⟩
  unfold dsT at *
  rw [h (q + 1) p (by omega), h (q + 2) p (by omega), h (q + 3) p (by omega), h (q + 4) p (by omega)]
  by_cases h0 : T (q + 1) p = 0
  · rw [if_pos h0] at hX ⊢
    rw [if_pos h0]
    exact (clm_rd hq hd h (ha _ hd).1 (hX _ hd)).1
  · rw [if_neg h0] at hX ⊢
    rw [if_neg h0]
    by_cases h1 : T (q + 1) p = 1
    · rw [if_pos h1, if_pos h1]
      exact clm_pt h _ _ _
    · rw [if_neg h1] at hX ⊢
      rw [if_neg h1]
      by_cases h2 : T (q + 1) p = 2
      · rw [if_pos h2] at hX ⊢
        rw [if_pos h2]
        obtain ⟨c1, c2⟩ := clm_rd hq hd h (ha _ hd).1 (fun h9 => by have := hX _ hd; rw [(hw _ _ _ _).1, (hw _ _ _ _).2] at this; exact this h9)
        rw [c2]
        exact clm_pt c1 _ _ _
      · rw [if_neg h2] at hX ⊢
        rw [if_neg h2]
        unfold cyT at *
        by_cases hb : rdV T q (T (q + 2) p).toNat < T (q + 4) p
        · rw [if_pos hb] at hX
          obtain ⟨c1, c2⟩ := clm_rd hq hd h (ha _ hd).1 (hX _ hd)
          rw [c2, if_pos hb, if_pos hb]
          exact c1
        · rw [if_neg hb] at hX
          have hX9 : ∀ d, d < 8 → rdT (rdT T q (T (q + 2) p).toNat) q (T (q + 3) p).toNat (q + 5) d ≠ -1 → X 1 d = rdT (rdT T q (T (q + 2) p).toNat) q (T (q + 3) p).toNat (q + 5) d ∧ X 2 d = rdT (rdT T q (T (q + 2) p).toNat) q (T (q + 3) p).toNat (q + 6) d := fun d hd9 h9 => by
            have := hX d hd9
            rw [(hw _ _ _ _).1, (hw _ _ _ _).2, (hw _ _ _ _).1, (hw _ _ _ _).2] at this
            exact this h9
          obtain ⟨c1, c2⟩ := clm_rd hq hd h (ha _ hd).1 (fun h9 => by
            have k9 := rd_keep (T := rdT T q (T (q + 2) p).toNat) (q := q) (d := (T (q + 3) p).toNat) (e := (T (q + 2) p).toNat) h9
            have := hX9 _ hd
            rw [k9.1, k9.2] at this
            exact this h9)
          have a1 : 0 ≤ rdT T q (T (q + 2) p).toNat 1 (T (q + 3) p).toNat := by rw [rdT_ne (by omega) (by omega)]; exact (ha _ he).1
          obtain ⟨c3, c4⟩ := clm_rd hq he c1 a1 (fun h9 => by
            rw [rdT_ne (T := X) (a := 1) (by omega) (by omega), rdT_ne (T := X) (a := 2) (by omega) (by omega)]
            exact hX9 _ he h9)
          rw [c2, if_neg hb, if_neg hb, c4]
          exact clm_pt (clm_pt c3 _ _ _) _ _ _
theorem sli_rd {T : TS} {q d : Nat} (hq : 7 ≤ q) (hd : d < 8) (h : SLI T q) (ha : AMW T) (hs : SEA T) : SLI (rdT T q d) q := by
  intro e he
  rw [rdT_ne (a := 1) (by omega) (by omega), rdT_ne (a := 2) (by omega) (by omega)]
  unfold rdT
  split
  · exact h e he
  · split
    · exact h e he
    · have E5 : pt (pt T (q + 5) d (T 1 d)) (q + 6) d (T 2 d) (q + 5) e = pt T (q + 5) d (T 1 d) (q + 5) e := pt_ne _ _ (Or.inl (by omega))
      rw [E5]
      by_cases hx : e = d
      · subst hx
        rw [pt_at, pt_at]
        have a9 := ha e he
        have s9 := hs e he
        exact ⟨fun h9 => absurd h9 (by omega), fun _ => ⟨s9.1, Int.le_refl _, fun _ => rfl⟩⟩
      · rw [pt_ne _ _ (Or.inr hx), pt_ne _ _ (Or.inr hx), pt_ne _ _ (Or.inl (by omega))]
        exact h e he
theorem sli_w {T : TS} {q d : Nat} {v : Int} (hq : 7 ≤ q) (h : SLI T q) : SLI (pt T (q + 7) d v) q := by
  intro e he
  rw [pt_ne (a := q + 5) _ _ (Or.inl (by omega)), pt_ne (a := q + 6) _ _ (Or.inl (by omega)), pt_ne (a := 1) _ _ (Or.inl (by omega)), pt_ne (a := 2) _ _ (Or.inl (by omega))]
  exact h e he
theorem sea_rd {T : TS} {q d : Nat} (hq : 7 ≤ q) (h : SEA T) : SEA (rdT T q d) := fun e he => by rw [rdT_ne (a := 2) (by omega) (by omega), rdT_ne (a := 0) (by omega) (by omega)]; exact h e he
theorem sli_ds {T : TS} {q p : Nat} (hq : 7 ≤ q) (hd : (T (q + 2) p).toNat < 8) (he : (T (q + 3) p).toNat < 8) (h : SLI T q) (ha : AMW T) (hs : SEA T) : SLI (dsT T q p) q := by
  have r1 := sli_rd hq hd h ha hs
  unfold dsT
  split
  · exact r1
  · split
    · exact sli_w hq h
    · split
      · exact sli_w hq r1
      · unfold cyT
        split
        · exact r1
        · exact sli_w hq (sli_w hq (sli_rd hq he r1 (am_rd ha hq) (sea_rd hq hs)))
/-! what holds at every point: the calls keep it -/
theorem so_iv {T : TS} {c : Nat} : (∀ j d, (j = 5 ∨ j = 6 ∨ j = 7) → d < 8 → soT T (7 + 8 * c) 8 (7 + 8 * c + j) d = -1) := fun j d hj hd => soT_s hj hd
theorem sli_0 {T : TS} {q : Nat} (h : ∀ j d, (j = 5 ∨ j = 6 ∨ j = 7) → d < 8 → T (q + j) d = -1) : SLI T q := fun d hd => ⟨fun _ => h 6 d (by omega) hd, fun h9 => absurd (h 5 d (by omega) hd) h9⟩
theorem sli_eq {T T' : TS} {q : Nat} (h : SLI T q) (he : ∀ j d, (j = 5 ∨ j = 6) → d < 8 → T' (q + j) d = T (q + j) d) (h1 : ∀ d, d < 8 → T' 1 d = T 1 d) (h2 : ∀ d, d < 8 → T' 2 d = T 2 d) : SLI T' q := fun d hd => by
  rw [he 5 d (by omega) hd, he 6 d (by omega) hd, h1 d hd, h2 d hd]
  exact h d hd
/-- a closing: drawers that got an amount have a seal that nobody remembers -/
theorem sli_cl {T T' : TS} {q : Nat} (h : SLI T q) (hs : SEA T) (he : ∀ j d, (j = 5 ∨ j = 6) → d < 8 → T' (q + j) d = T (q + j) d) (h12 : ∀ d, d < 8 → (T' 1 d = T 1 d ∧ T' 2 d = T 2 d) ∨ T' 2 d = T 0 2 + 1) : SLI T' q := fun d hd => by
  obtain ⟨a1, a2⟩ := h d hd
  have s9 := hs d hd
  rw [he 5 d (by omega) hd, he 6 d (by omega) hd]
  refine ⟨a1, fun h9 => ?_⟩
  obtain ⟨b1, b2, b3⟩ := a2 h9
  rcases h12 d hd with ⟨c1, c2⟩ | c2
  · rw [c1, c2]; exact ⟨b1, b2, b3⟩
  · rw [c2]; exact ⟨b1, by omega, fun h8 => absurd h8 (by omega)⟩
theorem iv_so {T : TS} {M : Int} {c : Nat} (h : IV T) (hw : WF T M) : IV (soT T (7 + 8 * c) 8) := by
  obtain ⟨h1, h2⟩ := h
  refine ⟨fun d hd => by rw [soT_ne (by omega), soT_ne (by omega)]; exact h1 d hd, fun c9 hc9 => ?_⟩
  rw [soT_ne (by omega)] at hc9
  by_cases hx : c9 = c
  · subst hx
    exact ⟨sli_0 so_iv, rpl_0 soT_1 so_iv⟩
  · obtain ⟨s1, s2⟩ := h2 c9 hc9
    have k := hw.2.2.2.2.2 c9 hc9
    refine ⟨sli_eq s1 (fun j d hj hd => soT_ne (by omega)) (fun d hd => soT_ne (by omega)) (fun d hd => soT_ne (by omega)), rpl_fr s2 (wf_prg hw hc9) hw.2.1.2 (soT_ne (by omega)) k.2.1.2 (fun a b h1 h2 => soT_ne (by omega))⟩
theorem iv_fr {T T' : TS} {M : Int} (h : IV T) (hw : WF T M) (h00 : T' 0 0 = T 0 0) (h01 : T' 0 1 = T 0 1) (hr : ∀ a b, 7 ≤ a → T' a b = T a b) (h02 : T' 0 2 = T 0 2 ∨ T' 0 2 = T 0 2 + 1) (h12 : ∀ d, d < 8 → (T' 1 d = T 1 d ∧ T' 2 d = T 2 d) ∨ (T' 2 d = T 0 2 + 1 ∧ T' 0 2 = T 0 2 + 1)) : IV T' := by
  obtain ⟨h1, h2⟩ := h
  have hz := hw.2.2.2.1.1
  refine ⟨fun d hd => ?_, fun c9 hc9 => ?_⟩
  · have := h1 d hd
    rcases h12 d hd with ⟨c1, c2⟩ | ⟨c1, c2⟩ <;> omega
  · rw [h01] at hc9
    obtain ⟨s1, s2⟩ := h2 c9 hc9
    have k := hw.2.2.2.2.2 c9 hc9
    exact ⟨sli_cl s1 h1 (fun j d hj hd => hr _ _ (by omega)) (fun d hd => (h12 d hd).imp id And.left), rpl_fr s2 (wf_prg hw hc9) hw.2.1.2 h00 k.2.1.2 (fun a b h1 h2 => hr a b (by omega))⟩
theorem iv_kc {T : TS} {M : Int} (h : IV T) (hw : WF T M) (x w : Int) : IV (kcT T x w) :=
  iv_fr h hw (kcT_ne (by omega)) (kcT_ne (by omega)) (fun a b ha => kcT_ne (by omega)) (Or.inl (kcT_ne (by omega))) (fun d hd => Or.inl ⟨kcT_ne (by omega), kcT_ne (by omega)⟩)
theorem iv_py {T : TS} {M : Int} (h : IV T) (hw : WF T M) {d : Nat} {v : Int} : IV (pyT T d v) := by
  unfold pyT
  have e : ∀ a b, 3 ≤ a → pt (pt (pt T 0 2 (T 0 2 + 1)) 1 d v) 2 d (T 0 2 + 1) a b = T a b := fun a b ha => by rw [pt_ne _ _ (Or.inl (by omega)), pt_ne _ _ (Or.inl (by omega)), pt_ne _ _ (Or.inl (by omega))]
  have e0 : ∀ b, b ≠ 2 → pt (pt (pt T 0 2 (T 0 2 + 1)) 1 d v) 2 d (T 0 2 + 1) 0 b = T 0 b := fun b hb => by rw [pt_ne _ _ (Or.inl (by omega)), pt_ne _ _ (Or.inl (by omega)), pt_ne _ _ (Or.inr hb)]
  have e2 : pt (pt (pt T 0 2 (T 0 2 + 1)) 1 d v) 2 d (T 0 2 + 1) 0 2 = T 0 2 + 1 := by rw [pt_ne _ _ (Or.inl (by omega)), pt_ne _ _ (Or.inl (by omega)), pt_at]
  have i1 : IV (pt (pt (pt T 0 2 (T 0 2 + 1)) 1 d v) 2 d (T 0 2 + 1)) := by
    refine iv_fr h hw (e0 0 (by omega)) (e0 1 (by omega)) (fun a b ha => e a b (by omega)) (Or.inr e2) (fun d9 hd => ?_)
    by_cases hx : d9 = d
    · subst hx
      exact Or.inr ⟨pt_at _ _ _ _, e2⟩
    · exact Or.inl ⟨by rw [pt_ne _ _ (Or.inl (by omega)), pt_ne _ _ (Or.inr hx), pt_ne _ _ (Or.inl (by omega))], by rw [pt_ne _ _ (Or.inr hx), pt_ne _ _ (Or.inl (by omega)), pt_ne _ _ (Or.inl (by omega))]⟩
  obtain ⟨i2, i3⟩ := id i1
  refine ⟨fun d9 hd => by rw [kcT_ne (by omega), kcT_ne (by omega)]; exact i2 d9 hd, fun c9 hc9 => ?_⟩
  rw [kcT_ne (by omega), e0 1 (by omega)] at hc9
  obtain ⟨s1, s2⟩ := i3 c9 (by rw [e0 1 (by omega)]; exact hc9)
  have k := hw.2.2.2.2.2 c9 hc9
  have g9 := wf_prg hw hc9
  refine ⟨sli_eq s1 (fun j d hj hd => kcT_ne (by omega)) (fun d hd => kcT_ne (by omega)) (fun d hd => kcT_ne (by omega)), rpl_fr s2 ?_ (by rw [e0 0 (by omega)]; exact hw.2.1.2) (kcT_ne (by omega)) (by rw [e _ _ (by omega), e _ _ (by omega)]; exact k.2.1.2) (fun a b h1 h2 => kcT_ne (by omega))⟩
  unfold PRG
  rw [e _ _ (by omega)]
  exact ⟨g9.1, fun s hs => by rw [e _ _ (by omega), e _ _ (by omega)]; exact g9.2 s hs⟩
/-- what a closing makes of the till -/
theorem cl_12 {T : TS} {q : Nat} {x : Int} (hq : 7 ≤ q) {d : Nat} : clT T q x 1 d = (if d < nd T ∧ T (q + 7) d ≠ -1 then T (q + 7) d else T 1 d) ∧ clT T q x 2 d = (if d < nd T ∧ T (q + 7) d ≠ -1 then T 0 2 + 1 else T 2 d) := by
  unfold clT
  rw [kcT_ne (by omega), kcT_ne (by omega), pt_ne _ _ (Or.inl (by omega)), pt_ne _ _ (Or.inl (by omega))]
  unfold clL
  rw [pt_ne (a := q + 7) _ _ (Or.inl (by omega)), pt_ne (a := 1) _ _ (Or.inl (by omega)), pt_ne (a := 2) _ _ (Or.inl (by omega))]
  refine ⟨?_, ?_⟩
  · by_cases h : d < nd T ∧ T (q + 7) d ≠ -1
    · rw [if_pos ⟨rfl, h⟩, if_pos h]
    · rw [if_neg (fun h9 => h h9.2), if_neg (fun h9 => absurd h9.1 (by decide)), if_neg h]
  · by_cases h : d < nd T ∧ T (q + 7) d ≠ -1
    · rw [if_neg (fun h9 => absurd h9.1 (by decide)), if_pos ⟨rfl, h⟩, if_pos h]
    · rw [if_neg (fun h9 => absurd h9.1 (by decide)), if_neg (fun h9 => h h9.2), if_neg h]
theorem cl_0 {T : TS} {q b : Nat} {x : Int} (hq : 7 ≤ q) : clT T q x 0 b = if b = 2 then T 0 2 + 1 else T 0 b := by
  unfold clT
  rw [kcT_ne (by omega), pt_ne _ _ (Or.inl (by omega)), clL_ne (by omega) (by omega)]
  by_cases h : b = 2
  · subst h; rw [pt_at, if_pos rfl]
  · rw [pt_ne _ _ (Or.inr h), if_neg h]
theorem cl_q {T : TS} {q a b : Nat} {x : Int} (ha : 7 ≤ a) (h : a ≠ q ∨ b ≠ 2) : clT T q x a b = T a b := by
  unfold clT
  rw [kcT_ne (by omega), pt_ne _ _ h, clL_ne (by omega) (by omega), pt_ne _ _ (Or.inl (by omega))]
theorem iv_cl {T : TS} {M : Int} (h : IV T) (hw : WF T M) {c : Nat} : IV (clT T (7 + 8 * c) c) := by
  obtain ⟨h1, h2⟩ := h
  have e0 : ∀ b, b ≠ 2 → clT T (7 + 8 * c) c 0 b = T 0 b := fun b hb => by rw [cl_0 (by omega), if_neg hb]
  have e2 : clT T (7 + 8 * c) c 0 2 = T 0 2 + 1 := by rw [cl_0 (by omega), if_pos rfl]
  have hz := hw.2.2.2.1.1
  have h12 : ∀ d, d < 8 → (clT T (7 + 8 * c) c 1 d = T 1 d ∧ clT T (7 + 8 * c) c 2 d = T 2 d) ∨ clT T (7 + 8 * c) c 2 d = T 0 2 + 1 := fun d hd => by
    obtain ⟨a1, a2⟩ := cl_12 (T := T) (q := 7 + 8 * c) (x := c) (d := d) (by omega)
    rw [a1, a2]
    by_cases h : d < nd T ∧ T (7 + 8 * c + 7) d ≠ -1
    · rw [if_pos h, if_pos h]; exact Or.inr rfl
    · rw [if_neg h, if_neg h]; exact Or.inl ⟨rfl, rfl⟩
  refine ⟨fun d hd => ?_, fun c9 hc9 => ?_⟩
  · have := h1 d hd
    rw [e2]
    rcases h12 d hd with ⟨c1, c2⟩ | c2 <;> rw [c2] <;> omega
  · rw [e0 1 (by omega)] at hc9
    obtain ⟨s1, s2⟩ := h2 c9 hc9
    have k := hw.2.2.2.2.2 c9 hc9
    refine ⟨sli_cl s1 h1 (fun j d hj hd => cl_q (by omega) (by omega)) h12, ?_⟩
    by_cases hx : c9 = c
    · subst hx
      intro h9
      rw [clT_2 (by omega)] at h9
      exact absurd h9 (by decide)
    · exact rpl_fr s2 (wf_prg hw hc9) hw.2.1.2 (e0 0 (by omega)) k.2.1.2 (fun a b h1 h2 => cl_q (by omega) (by omega))
/-- a step -/
theorem iv_st {T : TS} {M : Int} (h : IV T) (hw : WF T M) {c : Nat} (hc : (c : Int) < T 0 1) (hp : T (7 + 8 * c) 1 < T (7 + 8 * c) 0) : IV (pt (dsT T (7 + 8 * c) (T (7 + 8 * c) 1).toNat) (7 + 8 * c) 1 (T (7 + 8 * c) 1 + 1)) := by
  obtain ⟨h1, h2⟩ := h
  obtain ⟨w1, w2, w3, w4, w5, w6⟩ := id hw
  obtain ⟨k1, k2, k3, k4, k5, k6⟩ := w6 c hc
  have hp0 : (T (7 + 8 * c) 1).toNat < 8 := by omega
  have g9 := wf_prg hw hc
  obtain ⟨gd, ge⟩ := g9.2 (T (7 + 8 * c) 1).toNat (by omega)
  obtain ⟨p1, p2, p3, p4, p5, p6⟩ := k5 (T (7 + 8 * c) 1).toNat (by omega)
  have ed : ∀ a b, (a < 7 + 8 * c + 5 ∨ 7 + 8 * c + 7 < a) → dsT T (7 + 8 * c) (T (7 + 8 * c) 1).toNat a b = T a b := fun a b ha => dsT_ne (by omega) (by omega) (by omega)
  have er : ∀ a b, (a ≠ 7 + 8 * c) → pt (dsT T (7 + 8 * c) (T (7 + 8 * c) 1).toNat) (7 + 8 * c) 1 (T (7 + 8 * c) 1 + 1) a b = dsT T (7 + 8 * c) (T (7 + 8 * c) 1).toNat a b := fun a b ha => pt_ne _ _ (Or.inl ha)
  have eq : ∀ b, b ≠ 1 → pt (dsT T (7 + 8 * c) (T (7 + 8 * c) 1).toNat) (7 + 8 * c) 1 (T (7 + 8 * c) 1 + 1) (7 + 8 * c) b = T (7 + 8 * c) b := fun b hb => by rw [pt_ne _ _ (Or.inr hb), ed _ _ (by omega)]
  refine ⟨fun d hd => by rw [er _ _ (by omega), er _ _ (by omega), ed _ _ (by omega), ed _ _ (by omega)]; exact h1 d hd, fun c9 hc9 => ?_⟩
  rw [er _ _ (by omega), ed _ _ (by omega)] at hc9
  obtain ⟨s1, s2⟩ := h2 c9 hc9
  have k9 := w6 c9 hc9
  by_cases hx : c9 = c
  · subst hx
    have sl : SLI (dsT T (7 + 8 * c9) (T (7 + 8 * c9) 1).toNat) (7 + 8 * c9) := sli_ds (by omega) gd ge s1 w5 h1
    refine ⟨sli_eq sl (fun j d hj hd => er _ _ (by omega)) (fun d hd => er _ _ (by omega)) (fun d hd => er _ _ (by omega)), ?_⟩
    intro hz A S hA j d hj hd
    rw [eq 2 (by omega)] at hz
    have eA : AGS T (7 + 8 * c9) A S := fun d hd h9 => by
      have k7 := ds_keep (T := T) (q := 7 + 8 * c9) (p := (T (7 + 8 * c9) 1).toNat) (e := d) h9
      have := hA d hd
      rw [er _ _ (by omega), er _ _ (by omega), k7.1, k7.2] at this
      exact this h9
    obtain ⟨s, hs⟩ := Int.eq_ofNat_of_zero_le k1.1
    have ht0 : TT T A S 0 0 ≤ 8 := by rw [tt_ne (by omega)]; exact w2.2
    have hts : TT T A S (7 + 8 * c9) 0 = (s : Int) := by rw [tt_ne (by omega)]; exact hs
    have ag : AGQ (7 + 8 * c9) (wal (TT T A S) c9 0) (wal (TT (pt (dsT T (7 + 8 * c9) (T (7 + 8 * c9) 1).toNat) (7 + 8 * c9) 1 (T (7 + 8 * c9) 1 + 1)) A S) c9 0) := by
      rw [wal, wal]
      intro a b hr
      by_cases h5 : a = 7 + 8 * c9 + 5 ∨ a = 7 + 8 * c9 + 6 ∨ a = 7 + 8 * c9 + 7
      · have e5 : a = 7 + 8 * c9 + (a - (7 + 8 * c9)) := by omega
        rw [e5, soT_s (by omega) (by omega), soT_s (by omega) (by omega)]
      · by_cases h6 : a = 7 + 8 * c9
        · subst h6
          rcases (show b = 0 ∨ b = 1 ∨ b = 2 ∨ b = 3 by omega) with rfl | rfl | rfl | rfl
          · rw [soT_0, soT_0, tt_ne (by omega), tt_ne (by omega), eq 0 (by omega)]
          · rw [soT_1, soT_1]
          · rw [soT_2, soT_2]
          · rw [soT_3, soT_3, tt_ne (by omega), tt_ne (by omega), eq 3 (by omega)]
        · rw [soT_ne (by omega), soT_ne (by omega)]
          unfold TT
          split
          · rfl
          · split
            · rfl
            · rw [er _ _ h6, ed _ _ (by omega)]
    have hp9 : PRG (TT T A S) (7 + 8 * c9) := by
      unfold PRG
      rw [tt_ne (by omega)]
      exact ⟨g9.1, fun s hs => by rw [tt_ne (by omega), tt_ne (by omega)]; exact g9.2 s hs⟩
    have agw := ag_wal (c := c9) (X := TT T A S) (X' := TT (pt (dsT T (7 + 8 * c9) (T (7 + 8 * c9) 1).toNat) (7 + 8 * c9) 1 (T (7 + 8 * c9) 1 + 1)) A S) ag hp9 ht0 (by rw [tt_ne (by omega), er _ _ (by omega), ed _ _ (by omega)]; exact w2.2)
    obtain ⟨a1, a2, a3, -⟩ := wal_st (c := c9) ht0 hts (T (7 + 8 * c9) 1).toNat (by omega)
    have e1 : pt (dsT T (7 + 8 * c9) (T (7 + 8 * c9) 1).toNat) (7 + 8 * c9) 1 (T (7 + 8 * c9) 1 + 1) (7 + 8 * c9) 1 = T (7 + 8 * c9) 1 + 1 := pt_at _ _ _ _
    rw [e1, er _ _ (by omega)]
    have et : (T (7 + 8 * c9) 1 + 1).toNat = (T (7 + 8 * c9) 1).toNat + 1 := by omega
    have w9 := agw ((T (7 + 8 * c9) 1).toNat + 1) (by rw [tt_ne (by omega)]; omega) (7 + 8 * c9 + j) d (by omega)
    rw [et, w9]
    have wt : wal (TT T A S) c9 ((T (7 + 8 * c9) 1).toNat + 1) = pt (dsT (wal (TT T A S) c9 (T (7 + 8 * c9) 1).toNat) (7 + 8 * c9) (T (7 + 8 * c9) 1).toNat) (7 + 8 * c9) 1 (wal (TT T A S) c9 (T (7 + 8 * c9) 1).toNat (7 + 8 * c9) 1 + 1) := by
      rw [wal]
      unfold tkT
      rw [if_pos (by omega), a2]
      rfl
    rw [wt, pt_ne _ _ (Or.inl (by omega))]
    have rp := s2 hz A S eA
    have hcl : CLM T (wal (TT T A S) c9 (T (7 + 8 * c9) 1).toNat) (7 + 8 * c9) := by
      intro a b ⟨ha, hb, hb8⟩
      by_cases h5 : a = 7 + 8 * c9 + 5 ∨ a = 7 + 8 * c9 + 6 ∨ a = 7 + 8 * c9 + 7
      · have e5 : a = 7 + 8 * c9 + (a - (7 + 8 * c9)) := by omega
        rw [e5]
        exact rp _ b (by omega) hb8
      · rw [wal_ne ht0 hts (by omega) _ (by omega), tt_ne (by omega)]
    have fin := clm_ds (q := 7 + 8 * c9) (p := (T (7 + 8 * c9) 1).toNat) (by omega) hp0 gd ge hcl w5 (fun d hd h9 => by
      rw [wal_ne ht0 hts (by omega) _ (by omega), wal_ne ht0 hts (by omega) _ (by omega)]
      have := hA d hd
      rw [er _ _ (by omega), er _ _ (by omega)] at this
      exact this h9)
    exact fin (7 + 8 * c9 + j) d (by omega)
  · have e9 : ∀ a b, 7 + 8 * c9 ≤ a → a < 7 + 8 * c9 + 8 → pt (dsT T (7 + 8 * c) (T (7 + 8 * c) 1).toNat) (7 + 8 * c) 1 (T (7 + 8 * c) 1 + 1) a b = T a b := fun a b h1 h2 => by rw [er _ _ (by omega), ed _ _ (by omega)]
    exact ⟨sli_eq s1 (fun j d hj hd => e9 _ _ (by omega) (by omega)) (fun d hd => by rw [er _ _ (by omega), ed _ _ (by omega)]) (fun d hd => by rw [er _ _ (by omega), ed _ _ (by omega)]), rpl_fr s2 (wf_prg hw hc9) w2.2 (by rw [er _ _ (by omega), ed _ _ (by omega)]) k9.2.1.2 e9⟩
