/-! what holds of a shop's ints at every point of a run -/
theorem kcT_ne {T : TS} {c w : Int} {a b : Nat} (h : a < 4 ∨ 6 < a) : kcT T c w a b = T a b := by
  unfold kcT
  rw [pt_ne _ _ (Or.inl (by omega)), pt_ne _ _ (Or.inl (by omega)), pt_ne _ _ (Or.inl (by omega))]
  unfold shT
  rw [if_neg (by omega)]
theorem soT_ne {T : TS} {q d a b : Nat} (h : a ≠ q ∧ a ≠ q + 5 ∧ a ≠ q + 6 ∧ a ≠ q + 7) : soT T q d a b = T a b := by
  unfold soT
  rw [if_neg (by omega), if_neg (by omega)]
theorem soT_0 {T : TS} {q d : Nat} : soT T q d q 0 = T q 0 := by
  unfold soT
  rw [if_neg (by omega), if_neg (by omega)]
theorem soT_3 {T : TS} {q d : Nat} : soT T q d q 3 = T q 3 := by
  unfold soT
  rw [if_neg (by omega), if_neg (by omega)]
theorem soT_1 {T : TS} {q d : Nat} : soT T q d q 1 = 0 := by unfold soT; rw [if_pos (by omega)]
theorem soT_2 {T : TS} {q d : Nat} : soT T q d q 2 = 0 := by unfold soT; rw [if_pos (by omega)]
theorem soT_s {T : TS} {q d j b : Nat} (hj : j = 5 ∨ j = 6 ∨ j = 7) (hb : b < d) : soT T q d (q + j) b = -1 := by
  unfold soT
  rw [if_neg (by omega), if_pos (by omega)]
theorem sm_bd {f : Nat → Int} : ∀ n : Nat, (∀ d, d < n → -1 ≤ f d ∧ f d ≤ 9999) → -(n : Int) ≤ sm n f ∧ sm n f ≤ 9999 * n
  | 0, _ => ⟨by show -((0 : Nat) : Int) ≤ 0; omega, by show (0 : Int) ≤ 9999 * ((0 : Nat) : Int); omega⟩
  | n + 1, h => by
    have h1 := sm_bd n (fun d hd => h d (by omega))
    have h2 := h n (by omega)
    show -((n + 1 : Nat) : Int) ≤ sm n f + f n ∧ sm n f + f n ≤ 9999 * ((n + 1 : Nat) : Int)
    omega
theorem sm_c {f g : Nat → Int} : ∀ n : Nat, (∀ d, d < n → f d = g d) → sm n f = sm n g
  | 0, _ => rfl
  | n + 1, h => by
    show sm n f + f n = sm n g + g n
    rw [sm_c n (fun d hd => h d (by omega)), h n (by omega)]
theorem rg_sum {f : Nat → Int} {n : Nat} (hn : n ≤ 8) (h : ∀ d, d < 8 → -1 ≤ f d ∧ f d ≤ 9999) : rg (sm n f) := by
  have := sm_bd (f := f) n (fun d hd => h d (by omega))
  exact ⟨by omega, by omega⟩
def W8 (T : TS) (c : Nat) : Prop := (T (7 + 8 * c) 2 = 0 ∨ T (7 + 8 * c) 2 = 1) ∧ sm (nd T) (rmF T (7 + 8 * c)) = sm 8 (rmF T (7 + 8 * c)) ∧ sm (nd T) (wrF T (7 + 8 * c)) = sm 8 (wrF T (7 + 8 * c))
/-- a clerk's slip: bounds, and empty beyond the drawers -/
def SB (T : TS) (q : Nat) : Prop := ∀ d : Nat, d < 8 → (-1 ≤ T (q + 5) d ∧ T (q + 5) d ≤ 9999) ∧ (-1 ≤ T (q + 7) d ∧ T (q + 7) d ≤ 9999) ∧ (T 0 0 ≤ (d : Int) → T (q + 5) d = -1 ∧ T (q + 7) d = -1)
def PGW (T : TS) (q : Nat) : Prop := ∀ s : Nat, (s : Int) < T q 0 → (0 ≤ T (q + 1) s ∧ T (q + 1) s ≤ 3) ∧ (0 ≤ T (q + 2) s ∧ T (q + 2) s < T 0 0) ∧ (0 ≤ T (q + 3) s ∧ T (q + 3) s < T 0 0) ∧ (-999 ≤ T (q + 4) s ∧ T (q + 4) s ≤ 999) ∧ (T (q + 1) s = 1 → 0 ≤ T (q + 4) s) ∧ (T (q + 1) s = 3 → 1 ≤ T (q + 4) s)
def CKW (T : TS) (q : Nat) (M : Int) : Prop := (0 ≤ T q 0 ∧ T q 0 ≤ 8) ∧ (0 ≤ T q 1 ∧ T q 1 ≤ T q 0) ∧ (T q 2 = 0 ∨ T q 2 = 1) ∧ (0 ≤ T q 3 ∧ T q 3 ≤ M) ∧ PGW T q ∧ SB T q
def AMW (T : TS) : Prop := ∀ d : Nat, d < 8 → 0 ≤ T 1 d ∧ T 1 d ≤ 9999
def WF (T : TS) (M : Int) : Prop := RG T ∧ (1 ≤ T 0 0 ∧ T 0 0 ≤ 8) ∧ (0 ≤ T 0 1 ∧ T 0 1 ≤ 6) ∧ (0 ≤ T 0 2 ∧ T 0 2 ≤ M) ∧ AMW T ∧ ∀ c : Nat, (c : Int) < T 0 1 → CKW T (7 + 8 * c) M
theorem ckw_mono {T : TS} {q : Nat} {M M' : Int} (h : CKW T q M) (hm : M ≤ M') : CKW T q M' := by
  obtain ⟨h1, h2, h3, h4, h5, h6⟩ := h
  exact ⟨h1, h2, h3, ⟨h4.1, by omega⟩, h5, h6⟩
theorem wf_mono {T : TS} {M M' : Int} (h : WF T M) (hm : M ≤ M') : WF T M' := by
  obtain ⟨h1, h2, h3, h4, h5, h6⟩ := h
  exact ⟨h1, h2, h3, ⟨h4.1, by omega⟩, h5, fun c hc => ckw_mono (h6 c hc) hm⟩
theorem ckw_eq {T T' : TS} {q : Nat} {M : Int} (h : CKW T q M) (h0 : T' 0 0 = T 0 0) (hr : ∀ b, b < 4 → T' q b = T q b) (hs : ∀ j, 0 < j → j < 8 → ∀ b, b < 8 → T' (q + j) b = T (q + j) b) : CKW T' q M := by
  obtain ⟨h1, h2, h3, h4, h5, h6⟩ := h
  refine ⟨?_, ?_, ?_, ?_, fun s hs9 => ?_, fun d hd => ?_⟩
  · rw [hr 0 (by omega)]; exact h1
  · rw [hr 0 (by omega), hr 1 (by omega)]; exact h2
  · rw [hr 2 (by omega)]; exact h3
  · rw [hr 3 (by omega)]; exact h4
  · rw [hr 0 (by omega)] at hs9
    rw [hs 1 (by omega) (by omega) s (by omega), hs 2 (by omega) (by omega) s (by omega), hs 3 (by omega) (by omega) s (by omega), hs 4 (by omega) (by omega) s (by omega), h0]
    exact h5 s hs9
  · rw [hs 5 (by omega) (by omega) d hd, hs 7 (by omega) (by omega) d hd, h0]
    exact h6 d hd
theorem ckw_fr {T T' : TS} {q : Nat} {M : Int} (h : CKW T q M) (h0 : T' 0 0 = T 0 0) (hr : ∀ a b, q ≤ a → a < q + 8 → T' a b = T a b) : CKW T' q M := ckw_eq h h0 (fun b _ => hr q b (by omega) (by omega)) (fun j h1 h2 b _ => hr _ b (by omega) (by omega))
/-- a change in a clerk's rows alone -/
theorem wf_ck {T T' : TS} {M M' : Int} {c : Nat} (h : WF T M) (hm : M ≤ M') (hr : ∀ a b, ¬ (7 + 8 * c ≤ a ∧ a < 7 + 8 * c + 8) → T' a b = T a b) (hg : RG T') (hc : (c : Int) < T 0 1 → CKW T' (7 + 8 * c) M') : WF T' M' := by
  obtain ⟨h1, h2, h3, h4, h5, h6⟩ := wf_mono h hm
  have e0 : ∀ b, T' 0 b = T 0 b := fun b => hr 0 b (by omega)
  refine ⟨hg, by rw [e0]; exact h2, by rw [e0]; exact h3, by rw [e0]; exact h4, fun d hd => by rw [hr 1 d (by omega)]; exact h5 d hd, fun c9 hc9 => ?_⟩
  rw [e0] at hc9
  by_cases e : c9 = c
  · subst e; exact hc hc9
  · exact ckw_fr (h6 c9 hc9) (e0 0) (fun a b ha hb => hr a b (by omega))
/-- a change of the till's rows alone -/
theorem wf_sh {T T' : TS} {M M' : Int} (h : WF T M) (hm : M ≤ M') (h0 : T' 0 0 = T 0 0) (h01 : T' 0 1 = T 0 1) (hr : ∀ a b, 7 ≤ a → T' a b = T a b) (hg : RG T') (h02 : 0 ≤ T' 0 2 ∧ T' 0 2 ≤ M') (ha : AMW T') : WF T' M' := by
  obtain ⟨h1, h2, h3, h4, h5, h6⟩ := wf_mono h hm
  refine ⟨hg, by rw [h0]; exact h2, by rw [h01]; exact h3, h02, ha, fun c9 hc9 => ?_⟩
  rw [h01] at hc9
  exact ckw_fr (h6 c9 hc9) h0 (fun a b ha hb => hr a b (by omega))
/-! slips -/
theorem sb_rd {T : TS} {q d : Nat} (h : SB T q) (ha : AMW T) (hq : 7 ≤ q) (hd : (d : Int) < T 0 0) (hn : T 0 0 ≤ 8) : SB (rdT T q d) q := by
  have e00 : rdT T q d 0 0 = T 0 0 := rdT_ne (by omega) (by omega)
  intro e he
  obtain ⟨h1, h2, h3⟩ := h e he
  have had := ha d (by omega)
  rw [e00]
  unfold rdT
  split
  · exact ⟨h1, h2, h3⟩
  · split
    · exact ⟨h1, h2, h3⟩
    · have E7 : pt (pt T (q + 5) d (T 1 d)) (q + 6) d (T 2 d) (q + 7) e = T (q + 7) e := by rw [pt_ne _ _ (Or.inl (by omega)), pt_ne _ _ (Or.inl (by omega))]
      have E5 : pt (pt T (q + 5) d (T 1 d)) (q + 6) d (T 2 d) (q + 5) e = pt T (q + 5) d (T 1 d) (q + 5) e := pt_ne _ _ (Or.inl (by omega))
      rw [E7, E5]
      by_cases hx : e = d
      · subst hx
        rw [pt_at]
        exact ⟨⟨by omega, by omega⟩, h2, fun h9 => absurd h9 (by omega)⟩
      · rw [pt_ne _ _ (Or.inr hx)]
        exact ⟨h1, h2, h3⟩
theorem sb_w {T : TS} {q d : Nat} {v : Int} (h : SB T q) (hq : 7 ≤ q) (hd : (d : Int) < T 0 0) (hv : 0 ≤ v ∧ v ≤ 9999) : SB (pt T (q + 7) d v) q := by
  intro e he
  obtain ⟨h1, h2, h3⟩ := h e he
  rw [pt_ne _ _ (Or.inl (by omega)), pt_ne (a := 0) _ _ (Or.inl (by omega))]
  by_cases hx : e = d
  · subst hx
    rw [pt_at]
    exact ⟨h1, ⟨by omega, by omega⟩, fun h9 => absurd h9 (by omega)⟩
  · rw [pt_ne _ _ (Or.inr hx)]
    exact ⟨h1, h2, h3⟩
theorem am_rd {T : TS} {q d : Nat} (ha : AMW T) (hq : 7 ≤ q) : AMW (rdT T q d) := fun e he => by rw [rdT_ne (by omega) (by omega)]; exact ha e he
theorem rdV_b {T : TS} {q d : Nat} (h : SB T q) (ha : AMW T) (hd : d < 8) : 0 ≤ rdV T q d ∧ rdV T q d ≤ 9999 := by
  obtain ⟨h1, h2, -⟩ := h d hd
  have had := ha d hd
  unfold rdV
  (repeat' split) <;> omega
theorem sb_cy {T : TS} {q d e : Nat} {b : Int} (h : SB T q) (ha : AMW T) (hq : 7 ≤ q) (hd : (d : Int) < T 0 0) (he : (e : Int) < T 0 0) (hn : T 0 0 ≤ 8) (hb : 1 ≤ b) : SB (cyT T q d e b) q := by
  have hb1 := rdV_b h ha (d := d) (by omega)
  have s1 := sb_rd h ha hq hd hn
  have e1 : rdT T q d 0 0 = T 0 0 := rdT_ne (by omega) (by omega)
  have s2 := sb_rd s1 (am_rd ha hq) hq (d := e) (by rw [e1]; exact he) (by rw [e1]; exact hn)
  have e2 : rdT (rdT T q d) q e 0 0 = T 0 0 := (rdT_ne (by omega) (by omega)).trans e1
  unfold cyT
  split
  · exact s1
  · have s3 := sb_w (v := rdV T q d - b) s2 hq (d := d) (by rw [e2]; exact hd) ⟨by omega, by omega⟩
    exact sb_w s3 hq (d := e) (by rw [pt_ne _ _ (Or.inl (by omega)), e2]; exact he) (hl_b _)
theorem rg_ds {T : TS} {q p : Nat} {M : Int} (hg : RG T) (h : CKW T q M) (ha : AMW T) (hq : 7 ≤ q) (hn : T 0 0 ≤ 8) (hp : (p : Int) < T q 0) : RG (dsT T q p) := by
  obtain ⟨-, -, -, -, h5, h6⟩ := h
  obtain ⟨p1, p2, p3, p4, p5, p6⟩ := h5 p hp
  have hb1 := rdV_b h6 ha (d := (T (q + 2) p).toNat) (by omega)
  unfold dsT
  split
  · exact rg_rdT hg
  · split
    · exact rg_pt hg ⟨by omega, by omega⟩
    · split
      · have := hl_b (rdV T q (T (q + 2) p).toNat + T (q + 4) p)
        exact rg_pt (rg_rdT hg) ⟨by omega, by omega⟩
      · unfold cyT
        split
        · exact rg_rdT hg
        · have := hl_b (rdV (rdT T q (T (q + 2) p).toNat) q (T (q + 3) p).toNat + T (q + 4) p)
          exact rg_pt (rg_pt (rg_rdT (rg_rdT hg)) ⟨by omega, by omega⟩) ⟨by omega, by omega⟩
theorem sb_ds {T : TS} {q p : Nat} {M : Int} (h : CKW T q M) (ha : AMW T) (hq : 7 ≤ q) (hn : T 0 0 ≤ 8) (hp : (p : Int) < T q 0) : SB (dsT T q p) q := by
  obtain ⟨-, -, -, -, h5, h6⟩ := h
  obtain ⟨p1, p2, p3, p4, p5, p6⟩ := h5 p hp
  have ed : (((T (q + 2) p).toNat : Nat) : Int) < T 0 0 := by omega
  have ee : (((T (q + 3) p).toNat : Nat) : Int) < T 0 0 := by omega
  unfold dsT
  split
  · exact sb_rd h6 ha hq ed hn
  · split
    · rename_i k1
      have := p5 k1
      exact sb_w h6 hq ed ⟨by omega, by omega⟩
    · split
      · exact sb_w (sb_rd h6 ha hq ed hn) hq (by rw [rdT_ne (by omega) (by omega)]; exact ed) (hl_b _)
      · rename_i k0 k1 k2
        exact sb_cy h6 ha hq ed ee hn (p6 (by omega))
theorem ckw_ds {T : TS} {q p : Nat} {M : Int} (h : CKW T q M) (ha : AMW T) (hq : 7 ≤ q) (hn : T 0 0 ≤ 8) (hp : (p : Int) < T q 0) {v : Int} (hv : 0 ≤ v ∧ v ≤ T q 0) : CKW (pt (dsT T q p) q 1 v) q M := by
  have s := sb_ds h ha hq hn hp
  obtain ⟨h1, h2, h3, h4, h5, h6⟩ := h
  have e0 : dsT T q p 0 0 = T 0 0 := dsT_ne (by omega) (by omega) (by omega)
  have eq : ∀ b, b ≠ 1 → pt (dsT T q p) q 1 v q b = T q b := fun b hb => by rw [pt_ne _ _ (Or.inr hb), dsT_ne (by omega) (by omega) (by omega)]
  have er : ∀ j b, 0 < j → pt (dsT T q p) q 1 v (q + j) b = dsT T q p (q + j) b := fun j b hj => pt_ne _ _ (Or.inl (by omega))
  have e00 : pt (dsT T q p) q 1 v 0 0 = T 0 0 := by rw [pt_ne _ _ (Or.inl (by omega)), e0]
  refine ⟨by rw [eq 0 (by omega)]; exact h1, by rw [eq 0 (by omega), pt_at]; exact hv, by rw [eq 2 (by omega)]; exact h3, by rw [eq 3 (by omega)]; exact h4, fun s9 hs9 => ?_, fun d hd => ?_⟩
  · rw [eq 0 (by omega)] at hs9
    rw [er 1 _ (by omega), er 2 _ (by omega), er 3 _ (by omega), er 4 _ (by omega), dsT_ne (by omega) (by omega) (by omega), dsT_ne (by omega) (by omega) (by omega), dsT_ne (by omega) (by omega) (by omega), dsT_ne (by omega) (by omega) (by omega), e00]
    exact h5 s9 hs9
  · rw [er 5 _ (by omega), er 7 _ (by omega), e00]
    have := s d hd
    rw [e0] at this
    exact this
theorem ckw_f {T : TS} {q j : Nat} {v M M' : Int} (h : CKW T q M) (hq : 7 ≤ q) (hm : M ≤ M') (hj : j = 2 ∨ j = 3) (h2 : j = 2 → v = 0 ∨ v = 1) (h3 : j = 3 → 0 ≤ v ∧ v ≤ M') : CKW (pt T q j v) q M' := by
  obtain ⟨k1, k2, k3, k4, k5, k6⟩ := ckw_mono h hm
  have e : ∀ a b, (a ≠ q ∨ b ≠ j) → pt T q j v a b = T a b := fun a b hab => pt_ne _ _ hab
  have e0 := e q 0 (by omega)
  have e1 := e q 1 (by omega)
  have e00 := e 0 0 (by omega)
  refine ⟨by rw [e0]; exact k1, by rw [e0, e1]; exact k2, ?_, ?_, fun s9 hs9 => ?_, fun d hd => ?_⟩
  · rcases hj with rfl | rfl
    · rw [pt_at]; exact h2 rfl
    · rw [e q 2 (by omega)]; exact k3
  · rcases hj with rfl | rfl
    · rw [e q 3 (by omega)]; exact k4
    · rw [pt_at]; exact h3 rfl
  · rw [e0] at hs9
    rw [e (q + 1) s9 (by omega), e (q + 2) s9 (by omega), e (q + 3) s9 (by omega), e (q + 4) s9 (by omega), e00]
    exact k5 s9 hs9
  · rw [e (q + 5) d (by omega), e (q + 7) d (by omega), e00]
    exact k6 d hd
theorem rg_so {T : TS} (h : RG T) {q d : Nat} : RG (soT T q d) := by
  intro a b
  unfold soT
  (repeat' split) <;> first | exact h _ _ | exact ⟨by decide, by decide⟩
theorem ckw_so {T : TS} {q : Nat} {M : Int} (h : CKW T q M) (hq : 7 ≤ q) : CKW (soT T q 8) q M := by
  obtain ⟨h1, h2, h3, h4, h5, h6⟩ := h
  refine ⟨by rw [soT_0]; exact h1, by rw [soT_0, soT_1]; omega, Or.inl soT_2, by rw [soT_3]; exact h4, fun s9 hs9 => ?_, fun d hd => ?_⟩
  · rw [soT_0] at hs9
    rw [soT_ne (by omega), soT_ne (by omega), soT_ne (by omega), soT_ne (by omega), soT_ne (by omega)]
    exact h5 s9 hs9
  · rw [soT_s (by omega) hd, soT_s (by omega) hd]
    exact ⟨⟨by omega, by omega⟩, ⟨by omega, by omega⟩, fun _ => ⟨rfl, rfl⟩⟩
theorem wf_so {T : TS} {M : Int} {c : Nat} (h : WF T M) (hc : (c : Int) < T 0 1) : WF (soT T (7 + 8 * c) 8) M :=
  wf_ck (c := c) h (Int.le_refl _) (fun a b hab => soT_ne (by omega)) (rg_so h.1) (fun _ => ckw_so (h.2.2.2.2.2 c hc) (by omega))
/-! a closing -/
theorem rg_kc {T : TS} (h : RG T) {c w : Int} (hc : rg c) (hw : rg w) (hs : rg (sm (nd T) (T 1))) : RG (kcT T c w) := rg_pt (rg_pt (rg_pt (rg_sh h 0) hc) hw) hs
theorem am_sum {T : TS} (h : AMW T) (hn : T 0 0 ≤ 8) : rg (sm (nd T) (T 1)) := rg_sum (by unfold nd; omega) (fun d hd => by have := h d hd; omega)
theorem wf_kc {T : TS} {M : Int} (h : WF T M) {c w : Int} (hc : rg c) (hw : rg w) : WF (kcT T c w) M := by
  obtain ⟨h1, h2, h3, h4, h5, h6⟩ := id h
  refine wf_sh h (Int.le_refl _) (kcT_ne (by omega)) (kcT_ne (by omega)) (fun a b ha => kcT_ne (by omega)) (rg_kc h1 hc hw (am_sum h5 h2.2)) (by rw [kcT_ne (by omega)]; exact h4) (fun d hd => by rw [kcT_ne (by omega)]; exact h5 d hd)
theorem wf_py {T : TS} {M : Int} (h : WF T M) (hM : M < 2147483646) {d : Nat} {v : Int} (hv : 0 ≤ v ∧ v ≤ 9999) : WF (pyT T d v) (M + 1) := by
  obtain ⟨h1, h2, h3, h4, h5, h6⟩ := id h
  unfold pyT
  refine wf_kc (wf_sh h (by omega) ?_ ?_ (fun a b ha => ?_) (rg_pt (rg_pt (rg_pt h1 ⟨by omega, by omega⟩) ⟨by omega, by omega⟩) ⟨by omega, by omega⟩) ?_ (fun e he => ?_)) ⟨by decide, by decide⟩ ⟨by decide, by decide⟩
  · rw [pt_ne _ _ (Or.inl (by omega)), pt_ne _ _ (Or.inl (by omega)), pt_ne _ _ (Or.inr (by omega))]
  · rw [pt_ne _ _ (Or.inl (by omega)), pt_ne _ _ (Or.inl (by omega)), pt_ne _ _ (Or.inr (by omega))]
  · rw [pt_ne _ _ (Or.inl (by omega)), pt_ne _ _ (Or.inl (by omega)), pt_ne _ _ (Or.inl (by omega))]
  · rw [pt_ne _ _ (Or.inl (by omega)), pt_ne _ _ (Or.inl (by omega)), pt_at]; omega
  · rw [pt_ne _ _ (Or.inl (by omega))]
    by_cases hx : e = d
    · subst hx; rw [pt_at]; exact hv
    · rw [pt_ne _ _ (Or.inr hx), pt_ne _ _ (Or.inl (by omega))]; exact h5 e he
theorem wf_cl {T : TS} {M : Int} (h : WF T M) (hM : M < 2147483646) {c : Nat} (hc : (c : Int) < T 0 1) : WF (clT T (7 + 8 * c) c) (M + 1) := by
  obtain ⟨h1, h2, h3, h4, h5, h6⟩ := id h
  obtain ⟨k1, k2, k3, k4, k5, k6⟩ := h6 c hc
  have hz : rg (T 0 2 + 1) := ⟨by omega, by omega⟩
  have hw := wrF_b T (7 + 8 * c)
  have g1 : RG (pt T 0 2 (T 0 2 + 1)) := rg_pt h1 hz
  have w1 : WF (clL (pt T 0 2 (T 0 2 + 1)) (7 + 8 * c) (nd T) (T 0 2 + 1)) (M + 1) := by
    refine wf_sh h (by omega) ?_ ?_ (fun a b ha => ?_) (rg_clL g1 hz) ?_ (fun e he => ?_)
    · rw [clL_ne (by omega) (by omega), pt_ne _ _ (Or.inr (by omega))]
    · rw [clL_ne (by omega) (by omega), pt_ne _ _ (Or.inr (by omega))]
    · rw [clL_ne (by omega) (by omega), pt_ne _ _ (Or.inl (by omega))]
    · rw [clL_ne (by omega) (by omega), pt_at]; omega
    · have hk := k6 e he
      have ha := h5 e he
      unfold clL
      rw [pt_ne (a := 7 + 8 * c + 7) _ _ (Or.inl (by omega)), pt_ne (a := 1) _ _ (Or.inl (by omega))]
      (repeat' split) <;> omega
  have hc9 : (c : Int) < clL (pt T 0 2 (T 0 2 + 1)) (7 + 8 * c) (nd T) (T 0 2 + 1) 0 1 := by rw [clL_ne (by omega) (by omega), pt_ne _ _ (Or.inr (by omega))]; exact hc
  have w2 : WF (pt (clL (pt T 0 2 (T 0 2 + 1)) (7 + 8 * c) (nd T) (T 0 2 + 1)) (7 + 8 * c) 2 1) (M + 1) :=
    wf_ck (T' := pt (clL (pt T 0 2 (T 0 2 + 1)) (7 + 8 * c) (nd T) (T 0 2 + 1)) (7 + 8 * c) 2 1) (c := c) w1 (Int.le_refl _) (fun a b hab => pt_ne _ _ (Or.inl (by omega))) (rg_pt w1.1 ⟨by decide, by decide⟩) (fun _ => ckw_f (w1.2.2.2.2.2 c hc9) (by omega) (Int.le_refl _) (Or.inl rfl) (fun _ => Or.inr rfl) (fun h => absurd h (by omega)))
  unfold clT
  exact wf_kc w2 ⟨by omega, by omega⟩ ⟨by omega, by omega⟩
theorem wf_tk {T : TS} {M : Int} (h : WF T M) (hM : M < 2147483646) {c : Nat} (hc : (c : Int) < T 0 1) : WF (tkT T c) (M + 1) := by
  obtain ⟨h1, h2, h3, h4, h5, h6⟩ := id h
  have hk := h6 c hc
  obtain ⟨k1, k2, k3, k4, k5, k6⟩ := id hk
  unfold tkT
  split
  · rename_i hp
    refine wf_ck (c := c) h (by omega) (fun a b hab => ?_) (rg_pt (rg_ds h1 hk h5 (by omega) h2.2 (by omega)) ⟨by omega, by omega⟩) (fun _ => ckw_mono (ckw_ds hk h5 (by omega) h2.2 (by omega) ⟨by omega, by omega⟩) (by omega))
    rw [pt_ne _ _ (Or.inl (by omega)), dsT_ne (by omega) (by omega) (by omega)]
  · split
    · refine wf_ck (T' := soT (pt T (7 + 8 * c) 3 (T (7 + 8 * c) 3 + 1)) (7 + 8 * c) 8) (c := c) h (by omega) (fun a b hab => ?_) (rg_so (rg_pt h1 ⟨by omega, by omega⟩)) (fun _ => ckw_so (ckw_f (M := M) hk (by omega) (by omega) (Or.inr rfl) (fun h => absurd h (by omega)) (fun _ => ⟨by omega, by omega⟩)) (by omega))
      rw [soT_ne (by omega), pt_ne _ _ (Or.inl (by omega))]
    · exact wf_cl h hM hc
theorem tk_00 {T : TS} {c b : Nat} (hb : b ≠ 2) : tkT T c 0 b = T 0 b := by
  unfold tkT
  split
  · rw [pt_ne _ _ (Or.inl (by omega)), dsT_ne (by omega) (by omega) (by omega)]
  · split
    · rw [soT_ne (by omega), pt_ne _ _ (Or.inl (by omega))]
    · unfold clT
      rw [kcT_ne (by omega), pt_ne _ _ (Or.inl (by omega)), clL_ne (by omega) (by omega), pt_ne _ _ (Or.inr hb)]
theorem grz_0 {T : TS} {b : Nat} (hb : b ≠ 2) : ∀ c : Nat, (gr T c).1 0 b = T 0 b
  | 0 => rfl
  | c + 1 => by
    rw [gr]
    split
    · exact (tk_00 hb).trans (grz_0 hb c)
    · exact grz_0 hb c
theorem wf_gr {T : TS} {M : Int} (h : WF T M) (hM : M < 2147483000) : ∀ c : Nat, (c : Int) ≤ T 0 1 → WF (gr T c).1 (M + c)
  | 0, _ => by rw [gr]; exact wf_mono h (by omega)
  | c + 1, hc => by
    have h3 := h.2.2.1
    have ih := wf_gr h hM c (by omega)
    rw [gr]
    split
    · have := wf_tk ih (by omega) (c := c) (by rw [grz_0 (by omega)]; omega)
      exact wf_mono this (by omega)
    · exact wf_mono ih (by omega)
theorem nc_i {T : TS} {M : Int} (h : WF T M) : ((nc T : Nat) : Int) = T 0 1 := Int.toNat_of_nonneg h.2.2.1.1
theorem wf_grs {T : TS} {M : Int} (h : WF T M) (hM : M < 2147400000) : ∀ j : Nat, j ≤ 1000 → WF (grs T j).1 (M + 6 * j)
  | 0, _ => by rw [grs]; exact wf_mono h (by omega)
  | j + 1, hj => by
    have ih := wf_grs h hM j (by omega)
    have h3 := ih.2.2.1
    have := wf_gr ih (by omega) (nc (grs T j).1) (by rw [nc_i ih]; omega)
    rw [grs]
    refine wf_mono this ?_
    have := nc_i ih
    omega
theorem wf_wal {T : TS} {M : Int} (h : WF T M) (hM : M < 2147400000) {c : Nat} (hc : (c : Int) < T 0 1) : ∀ t : Nat, t ≤ 1000 → WF (wal T c t) (M + t) ∧ wal T c t 0 1 = T 0 1 ∧ wal T c t 0 0 = T 0 0
  | 0, _ => ⟨by rw [wal]; exact wf_mono (wf_so h hc) (by omega), soT_ne (by omega), soT_ne (by omega)⟩
  | t + 1, ht => by
    obtain ⟨ih1, ih2, ih3⟩ := wf_wal h hM hc t (by omega)
    refine ⟨?_, (tk_00 (by omega)).trans ih2, (tk_00 (by omega)).trans ih3⟩
    rw [wal]
    exact wf_mono (wf_tk ih1 (by omega) (by rw [ih2]; exact hc)) (by omega)
/-! what the contracts ask -/
theorem sm_tail {f : Nat → Int} {n : Nat} : ∀ m : Nat, n ≤ m → (∀ d, n ≤ d → d < m → f d = 0) → sm n f = sm m f
  | 0, h, _ => by rw [show n = 0 by omega]
  | m + 1, h, hf => by
    by_cases e : n = m + 1
    · rw [e]
    · show sm n f = sm m f + f m
      rw [hf m (by omega) (by omega), sm_tail m (by omega) (fun d h1 h2 => hf d h1 (by omega))]
      omega
theorem wf_vb {T : TS} {M : Int} (h : WF T M) {c : Nat} (hc : (c : Int) < T 0 1) : VB T (7 + 8 * c) := fun d hd => by
  obtain ⟨-, -, -, -, h5, h6⟩ := h
  obtain ⟨-, -, -, -, -, k6⟩ := h6 c hc
  have := h5 d hd
  have := k6 d hd
  omega
theorem wf_tkok {T : TS} {M : Int} (h : WF T M) (hM : M < 2147483647) {c : Nat} (hc : (c : Int) < T 0 1) : TKok T (7 + 8 * c) := by
  have hv := wf_vb h hc
  obtain ⟨h1, h2, h3, h4, h5, h6⟩ := h
  obtain ⟨k1, k2, k3, k4, k5, k6⟩ := h6 c hc
  refine ⟨⟨by omega, by omega⟩, ⟨by omega, by omega⟩, fun hp => ?_, hv, ⟨by omega, by omega⟩, ⟨by omega, by omega⟩⟩
  obtain ⟨p1, p2, p3, p4, p5, p6⟩ := k5 (T (7 + 8 * c) 1).toNat (by omega)
  exact ⟨⟨by omega, by omega⟩, ⟨by omega, by omega⟩, ⟨by omega, by omega⟩⟩
theorem wf_w8 {T : TS} {M : Int} (h : WF T M) {c : Nat} (hc : (c : Int) < T 0 1) : W8 T c := by
  obtain ⟨h1, h2, h3, h4, h5, h6⟩ := h
  obtain ⟨k1, k2, k3, k4, k5, k6⟩ := h6 c hc
  have hn : ((nd T : Nat) : Int) = T 0 0 := Int.toNat_of_nonneg (by omega)
  refine ⟨k3, sm_tail 8 (by omega) (fun d h7 h8 => ?_), sm_tail 8 (by omega) (fun d h7 h8 => ?_)⟩
  · exact bz_f (fun h9 => h9 ((k6 d h8).2.2 (by omega)).1)
  · exact bz_f (fun h9 => h9 ((k6 d h8).2.2 (by omega)).2)
theorem wf_grok {T : TS} {M : Int} (h : WF T M) (hM : M < 2147400000) : GRok T := by
  obtain ⟨h1, h2, h3, h4, h5, h6⟩ := id h
  refine ⟨h1, h3, fun c => grz_0 (by omega) c, fun c hc => ?_⟩
  have w := wf_gr h (by omega) c (by omega)
  exact ⟨w.1, wf_tkok w (by omega) (by rw [grz_0 (by omega)]; exact hc)⟩
theorem wf_shp {T : TS} {M : Int} (h : WF T M) (hM : M < 2147483647) : SHP T := ⟨h.1, h.2.1, h.2.2.1, h.2.2.2.1.1, by have := h.2.2.2.1.2; omega⟩
/-! the calls of a clerk's program, of a new till, of a new clerk -/
theorem rg_bg {T : TS} {m : Int} (h : RG T) (hm : rg m) : RG (bgT T m 8) := by
  intro a b
  unfold bgT
  (repeat' split) <;> first | exact hm | exact h _ _ | exact ⟨by decide, by decide⟩
theorem wf_bg {T : TS} {M : Int} (h : RG T) (hM : 0 ≤ M) {m : Int} (hm : 1 ≤ m ∧ m ≤ 8) : WF (bgT T m 8) M := by
  have e1 : bgT T m 8 0 1 = 0 := rfl
  have e2 : bgT T m 8 0 2 = 0 := rfl
  refine ⟨rg_bg h ⟨by omega, by omega⟩, hm, ⟨by omega, by omega⟩, ⟨by omega, by omega⟩, fun d hd => ?_, fun c hc => ?_⟩
  · unfold bgT
    rw [if_neg (by omega), if_neg (by omega), if_pos ⟨Or.inl rfl, hd⟩]
    exact ⟨by decide, by decide⟩
  · have : bgT T m 8 0 1 = 0 := rfl
    omega
theorem wf_ac {T : TS} {M : Int} (h : WF T M) (hc : T 0 1 < 6) : WF (acT T) M := by
  obtain ⟨h1, h2, h3, h4, h5, h6⟩ := id h
  have hn := nc_i h
  have r0 : rg 0 := ⟨by decide, by decide⟩
  have en : (T 0 1).toNat = nc T := rfl
  have e : ∀ a b, ¬ (7 + 8 * nc T ≤ a ∧ a < 7 + 8 * nc T + 8) → (a ≠ 0 ∨ b ≠ 1) → acT T a b = T a b := fun a b ha hb => by
    unfold acT baT
    rw [en, pt_ne _ _ hb, soT_ne (by omega), pt_ne _ _ (Or.inl (by omega)), pt_ne _ _ (Or.inl (by omega))]
  have e1 : acT T 0 1 = T 0 1 + 1 := by unfold acT; rw [pt_at]
  refine ⟨?_, by rw [e 0 0 (by omega) (by omega)]; exact h2, by rw [e1]; omega, by rw [e 0 2 (by omega) (by omega)]; exact h4, fun d hd => by rw [e 1 d (by omega) (by omega)]; exact h5 d hd, fun c hc9 => ?_⟩
  · unfold acT baT
    exact rg_pt (rg_so (rg_pt (rg_pt h1 r0) r0)) ⟨by omega, by omega⟩
  · rw [e1] at hc9
    by_cases hx : c = nc T
    · subst hx
      have q1 : ∀ a b, a ≠ 0 → acT T a b = soT (pt (pt T (7 + 8 * nc T) 0 0) (7 + 8 * nc T) 3 0) (7 + 8 * nc T) 8 a b := fun a b ha => by
        unfold acT baT
        rw [en, pt_ne _ _ (Or.inl ha)]
      refine ⟨?_, ?_, ?_, ?_, fun s9 hs9 => ?_, fun d hd => ?_⟩
      · rw [q1 _ _ (by omega), soT_0, pt_ne _ _ (Or.inr (by omega)), pt_at]; omega
      · rw [q1 _ _ (by omega), q1 _ _ (by omega), soT_0, soT_1, pt_ne _ _ (Or.inr (by omega)), pt_at]; omega
      · rw [q1 _ _ (by omega), soT_2]; exact Or.inl rfl
      · rw [q1 _ _ (by omega), soT_3, pt_at]; omega
      · rw [q1 _ _ (by omega), soT_0, pt_ne _ _ (Or.inr (by omega)), pt_at] at hs9
        exact absurd hs9 (by omega)
      · rw [q1 _ _ (by omega), q1 _ _ (by omega), soT_s (by omega) hd, soT_s (by omega) hd]
        exact ⟨⟨by omega, by omega⟩, ⟨by omega, by omega⟩, fun _ => ⟨rfl, rfl⟩⟩
    · exact ckw_fr (h6 c (by omega)) (e 0 0 (by omega) (by omega)) (fun a b ha hb => e a b (by omega) (by omega))
theorem wf_as {T : TS} {M : Int} (h : WF T M) {c kd d e b : Int} (hs : syP T c kd d e) (hf : fkP kd d e b) (hk : skP T c) : WF (asT T (7 + 8 * c.toNat) kd d e b) M := by
  obtain ⟨h1, h2, h3, h4, h5, h6⟩ := id h
  obtain ⟨s1, s2, s3, s4⟩ := hs
  obtain ⟨f1, f2, f3⟩ := hf
  obtain ⟨g1, g2, g3⟩ := hk
  obtain ⟨k1, k2, k3, k4, k5, k6⟩ := h6 c.toNat (by omega)
  generalize hq : 7 + 8 * c.toNat = q at *
  have hc1 : ((c.toNat : Nat) : Int) < T 0 1 := by omega
  have Y : ∀ a b', (a < q ∨ q + 4 < a) → asT T q kd d e b a b' = T a b' := fun a b' ha => by
    unfold asT
    rw [pt_ne _ _ (Or.inl (by omega)), pt_ne _ _ (Or.inl (by omega)), pt_ne _ _ (Or.inl (by omega)), pt_ne _ _ (Or.inl (by omega)), pt_ne _ _ (Or.inl (by omega))]
  have Y0 : ∀ b', b' ≠ 0 → asT T q kd d e b q b' = T q b' := fun b' hb => by
    unfold asT
    rw [pt_ne _ _ (Or.inr hb), pt_ne _ _ (Or.inl (by omega)), pt_ne _ _ (Or.inl (by omega)), pt_ne _ _ (Or.inl (by omega)), pt_ne _ _ (Or.inl (by omega))]
  have Y00 : asT T q kd d e b q 0 = T q 0 + 1 := by unfold asT; rw [pt_at]
  have Yi : ∀ a b', q < a → b' ≠ (T q 0).toNat → asT T q kd d e b a b' = T a b' := fun a b' ha hb => by
    unfold asT
    rw [pt_ne _ _ (Or.inl (by omega)), pt_ne _ _ (Or.inr hb), pt_ne _ _ (Or.inr hb), pt_ne _ _ (Or.inr hb), pt_ne _ _ (Or.inr hb)]
  have V1 : asT T q kd d e b (q + 1) (T q 0).toNat = kd := by unfold asT; rw [pt_ne _ _ (Or.inl (by omega)), pt_ne _ _ (Or.inl (by omega)), pt_ne _ _ (Or.inl (by omega)), pt_ne _ _ (Or.inl (by omega)), pt_at]
  have V2 : asT T q kd d e b (q + 2) (T q 0).toNat = d := by unfold asT; rw [pt_ne _ _ (Or.inl (by omega)), pt_ne _ _ (Or.inl (by omega)), pt_ne _ _ (Or.inl (by omega)), pt_at]
  have V3 : asT T q kd d e b (q + 3) (T q 0).toNat = e := by unfold asT; rw [pt_ne _ _ (Or.inl (by omega)), pt_ne _ _ (Or.inl (by omega)), pt_at]
  have V4 : asT T q kd d e b (q + 4) (T q 0).toNat = b := by unfold asT; rw [pt_ne _ _ (Or.inl (by omega)), pt_at]
  have rgA : RG (asT T q kd d e b) := rg_pt (rg_pt (rg_pt (rg_pt (rg_pt h1 ⟨by omega, by omega⟩) ⟨by omega, by omega⟩) ⟨by omega, by omega⟩) ⟨by omega, by omega⟩) ⟨by omega, by omega⟩
  refine wf_ck (c := c.toNat) h (Int.le_refl _) (fun a b' hab => Y a b' (by omega)) rgA (fun _ => ?_)
  rw [hq]
  have e00 : asT T q kd d e b 0 0 = T 0 0 := Y 0 0 (by omega)
  refine ⟨by rw [Y00]; omega, by rw [Y00, Y0 1 (by omega)]; omega, by rw [Y0 2 (by omega)]; exact k3, by rw [Y0 3 (by omega)]; exact k4, fun s9 hs9 => ?_, fun d9 hd9 => ?_⟩
  · rw [Y00] at hs9
    by_cases hx : s9 = (T q 0).toNat
    · subst hx
      rw [V1, V2, V3, V4, e00]
      exact ⟨s2, s3, s4, f1, f2, fun h9 => (f3 h9).1⟩
    · rw [Yi _ _ (by omega) hx, Yi _ _ (by omega) hx, Yi _ _ (by omega) hx, Yi _ _ (by omega) hx, e00]
      exact k5 s9 (by omega)
  · rw [Y _ _ (by omega), Y _ _ (by omega), e00]
    exact k6 d9 hd9
/-! the trial -/
theorem bsC_at {T T0 : TS} : ∀ (n c j b : Nat), c < n → j < 8 → (j = 0 → b < 4) → b < 8 → bsC T T0 n (7 + 8 * c + j) b = T0 (7 + 8 * c + j) b
  | 0, c, j, b, hc, _, _, _ => absurd hc (by omega)
  | n + 1, c, j, b, hc, hj, h4, h8 => by
    show bcT (bsC T T0 n) T0 (7 + 8 * n) 8 8 (7 + 8 * c + j) b = _
    by_cases e : c = n
    · subst e
      unfold bcT
      rcases (show j = 0 ∨ (1 ≤ j ∧ j ≤ 4) ∨ (5 ≤ j ∧ j ≤ 7) by omega) with h | h | h
      · rw [if_pos ⟨by omega, h4 h⟩]
      · rw [if_neg (by omega), if_pos ⟨by omega, h8⟩]
      · rw [if_neg (by omega), if_neg (by omega), if_pos ⟨by omega, h8⟩]
    · rw [bcT_ne (by omega)]
      exact bsC_at n c j b (by omega) hj h4 h8
theorem be_q {T1 T : TS} {c j b : Nat} (hc : c < nc T) (hj : j < 8) (h4 : j = 0 → b < 4) (h8 : b < 8) : beT T1 T (7 + 8 * c + j) b = T (7 + 8 * c + j) b := by
  unfold beT bs3
  rw [if_neg (by omega)]
  exact bsC_at _ c j b hc hj h4 h8
theorem be_0 {T1 T : TS} {b : Nat} (hb : b < 3) : beT T1 T 0 b = T 0 b := by
  unfold beT bs3
  rw [if_neg (by omega), bsC_ne (by omega)]
  unfold bs1
  rw [if_neg (by omega)]
  unfold bs0 pt
  rcases (show b = 0 ∨ b = 1 ∨ b = 2 by omega) with h | h | h <;> subst h <;> rfl
theorem be_1 {T1 T : TS} {a b : Nat} (ha : a = 1 ∨ a = 2) (hb : b < 8) : beT T1 T a b = T a b := by
  unfold beT bs3
  rw [if_neg (by omega), bsC_ne (by omega)]
  unfold bs1
  rw [if_pos ⟨ha, hb⟩]
theorem be_4 {T1 T : TS} {a b : Nat} (ha : a = 4 ∨ a = 5 ∨ a = 6) (hb : b < 10) : beT T1 T a b = T a b := by
  unfold beT bs3
  rw [if_pos ⟨ha, hb⟩]
theorem wf_be {T1 T : TS} {M : Int} (h1 : RG T1) (h : WF T M) : WF (beT T1 T) M := by
  have hn := nc_i h
  obtain ⟨g1, g2, g3, g4, g5, g6⟩ := h
  refine ⟨rg_be h1 g1, by rw [be_0 (by omega)]; exact g2, by rw [be_0 (by omega)]; exact g3, by rw [be_0 (by omega)]; exact g4, fun d hd => by rw [be_1 (Or.inl rfl) hd]; exact g5 d hd, fun c hc => ?_⟩
  rw [be_0 (by omega)] at hc
  exact ckw_eq (g6 c hc) (be_0 (by omega)) (fun b hb => be_q (j := 0) (by omega) (by omega) (fun _ => hb) (by omega)) (fun j j1 j2 b hb => be_q (by omega) j2 (fun h => absurd h (by omega)) hb)
/-! alone: where the class stops, the reference's last turn has no more to say -/
/-- a slip that what is now agrees with -/
def CO (T : TS) (q : Nat) : Prop := ∀ d : Nat, d < 8 → T (q + 5) d ≠ -1 → T (q + 6) d = T 2 d
theorem co_rd {T : TS} {q d : Nat} (h : CO T q) (hq : 7 ≤ q) : CO (rdT T q d) q := by
  intro e he
  have e2 : rdT T q d 2 e = T 2 e := rdT_ne (by omega) (by omega)
  rw [e2]
  unfold rdT
  split
  · exact h e he
  · split
    · exact h e he
    · have E5 : pt (pt T (q + 5) d (T 1 d)) (q + 6) d (T 2 d) (q + 5) e = pt T (q + 5) d (T 1 d) (q + 5) e := pt_ne _ _ (Or.inl (by omega))
      rw [E5]
      by_cases hx : e = d
      · subst hx
        intro _
        rw [pt_at]
      · rw [pt_ne _ _ (Or.inr hx), pt_ne _ _ (Or.inr hx), pt_ne _ _ (Or.inl (by omega))]
        exact h e he
theorem co_w {T : TS} {q d : Nat} {v : Int} (h : CO T q) (hq : 7 ≤ q) : CO (pt T (q + 7) d v) q := by
  intro e he
  rw [pt_ne _ _ (Or.inl (by omega)), pt_ne _ _ (Or.inl (by omega)), pt_ne _ _ (Or.inl (by omega))]
  exact h e he
theorem co_ds {T : TS} {q p : Nat} (h : CO T q) (hq : 7 ≤ q) : CO (dsT T q p) q := by
  unfold dsT
  split
  · exact co_rd h hq
  · split
    · exact co_w h hq
    · split
      · exact co_w (co_rd h hq) hq
      · unfold cyT
        split
        · exact co_rd h hq
        · exact co_w (co_w (co_rd (co_rd h hq) hq) hq) hq
theorem co_no {T : TS} {q : Nat} (h : CO T q) (hn : T 0 0 ≤ 8) : ¬ odP T q (nd T) := by
  rintro ⟨d, hd, h1, h2⟩
  exact h2 (h d (by unfold nd at hd; omega) h1)
/-- what is so behind t turns of the s steps -/
theorem wal_st {T : TS} {c s : Nat} (h0 : T 0 0 ≤ 8) (hs : T (7 + 8 * c) 0 = (s : Int)) : ∀ t : Nat, t ≤ s → wal T c t (7 + 8 * c) 0 = (s : Int) ∧ wal T c t (7 + 8 * c) 1 = (t : Int) ∧ wal T c t (7 + 8 * c) 2 = 0 ∧ CO (wal T c t) (7 + 8 * c) ∧ (∀ b, b ≠ 2 → wal T c t 0 b = T 0 b) ∧ (∀ b, wal T c t 1 b = T 1 b)
  | 0, _ => by
    rw [wal]
    refine ⟨by rw [soT_0]; exact hs, by rw [soT_1]; rfl, soT_2, fun d hd h9 => ?_, fun b hb => soT_ne (by omega), fun b => soT_ne (by omega)⟩
    rw [soT_s (by omega) hd] at h9
    exact absurd rfl h9
  | t + 1, ht => by
    obtain ⟨i1, i2, i3, i4, i5, i6⟩ := wal_st h0 hs t (by omega)
    have e : wal T c (t + 1) = pt (dsT (wal T c t) (7 + 8 * c) (wal T c t (7 + 8 * c) 1).toNat) (7 + 8 * c) 1 (wal T c t (7 + 8 * c) 1 + 1) := by
      rw [wal]
      unfold tkT
      rw [if_pos (by omega)]
    have co := co_ds (p := (wal T c t (7 + 8 * c) 1).toNat) i4 (by omega)
    rw [e]
    refine ⟨?_, ?_, ?_, fun d hd => ?_, fun b hb => ?_, fun b => ?_⟩
    · rw [pt_ne _ _ (Or.inr (by omega)), dsT_ne (by omega) (by omega) (by omega)]; exact i1
    · rw [pt_at, i2]; omega
    · rw [pt_ne _ _ (Or.inr (by omega)), dsT_ne (by omega) (by omega) (by omega)]; exact i3
    · rw [pt_ne _ _ (Or.inl (by omega)), pt_ne _ _ (Or.inl (by omega)), pt_ne _ _ (Or.inl (by omega))]
      exact co d hd
    · rw [pt_ne _ _ (Or.inl (by omega)), dsT_ne (by omega) (by omega) (by omega)]; exact i5 b hb
    · rw [pt_ne _ _ (Or.inl (by omega)), dsT_ne (by omega) (by omega) (by omega)]; exact i6 b
theorem wal_end {T : TS} {c s : Nat} (h0 : T 0 0 ≤ 8) (hs : T (7 + 8 * c) 0 = (s : Int)) : wal T c (s + 1) = clT (wal T c s) (7 + 8 * c) c := by
  obtain ⟨i1, i2, i3, i4, i5, i6⟩ := wal_st h0 hs s (by omega)
  rw [wal]
  unfold tkT
  rw [if_neg (by omega), if_neg (by rw [bz_f (co_no i4 (by rw [i5 0 (by omega)]; exact h0))]; decide)]
theorem clT_2 {T : TS} {q : Nat} {c : Int} (hq : 7 ≤ q) : clT T q c q 2 = 1 := by
  unfold clT
  rw [kcT_ne (by omega), pt_at]
theorem clT_1 {T : TS} {q d : Nat} {c : Int} (hq : 7 ≤ q) (h : T (q + 7) d = -1) : clT T q c 1 d = T 1 d := by
  unfold clT
  rw [kcT_ne (by omega), pt_ne _ _ (Or.inl (by omega))]
  unfold clL
  rw [pt_ne (a := q + 7) _ _ (Or.inl (by omega)), if_neg (fun h9 => h9.2.2 h), if_neg (fun h9 => absurd h9.1 (by omega)), pt_ne _ _ (Or.inl (by omega))]
theorem al_eq {T : TS} {M : Int} (h : WF T M) {c i d : Nat} (hc : (c : Int) < T 0 1) (hd : d < 8) (hi : i ≤ 9) (h1 : ∀ j, j < i → awP (wal T c j) c) (h2 : i = 9 ∨ ¬ awP (wal T c i) c) : wal T c i 1 d = wal T c ((T (7 + 8 * c) 0).toNat + 1) 1 d := by
  obtain ⟨g1, g2, g3, g4, g5, g6⟩ := h
  obtain ⟨k1, -⟩ := g6 c hc
  obtain ⟨s, hs⟩ := Int.eq_ofNat_of_zero_le k1.1
  have es : (T (7 + 8 * c) 0).toNat = s := by omega
  rw [es]
  have st := wal_st (c := c) (s := s) g2.2 hs
  by_cases hz : s = 0
  · subst hz
    have h9 : i = 0 := by
      by_cases e : i = 0
      · exact e
      · have := h1 0 (by omega)
        obtain ⟨a, b⟩ := this
        rw [(st 0 (by omega)).1] at b
        exact absurd b (by decide)
    subst h9
    rw [wal_end g2.2 hs, clT_1 (by omega) (by rw [wal, soT_s (by omega) hd])]
  · have ha : ∀ t, t ≤ s → awP (wal T c t) c := fun t ht => ⟨(st t ht).2.2.1, by rw [(st t ht).1]; omega⟩
    have hb : ¬ awP (wal T c (s + 1)) c := fun h9 => by
      have := h9.1
      rw [wal_end g2.2 hs, clT_2 (by omega)] at this
      exact absurd this (by decide)
    have e : i = s + 1 := by
      rcases Nat.lt_trichotomy i (s + 1) with h9 | h9 | h9
      · rcases h2 with h3 | h3
        · omega
        · exact absurd (ha i (by omega)) h3
      · exact h9
      · exact absurd (h1 (s + 1) h9) hb
    rw [e]
theorem wal_0 {T : TS} {c : Nat} {M : Int} (h : WF T M) (hc : (c : Int) < T 0 1) : ∀ t : Nat, (t : Int) ≤ T (7 + 8 * c) 0 → wal T c t (7 + 8 * c) 0 = T (7 + 8 * c) 0 := by
  intro t ht
  obtain ⟨g1, g2, g3, g4, g5, g6⟩ := h
  obtain ⟨k1, -⟩ := g6 c hc
  obtain ⟨s, hs⟩ := Int.eq_ofNat_of_zero_le k1.1
  rw [(wal_st (c := c) (s := s) g2.2 hs t (by omega)).1]
  exact hs.symm
/-- the first shop -/
theorem wf_0 : WF T0i 0 := by
  refine ⟨fun a b => ?_, ⟨by decide, by decide⟩, ⟨by decide, by decide⟩, ⟨by decide, by decide⟩, fun d hd => ⟨by show (0 : Int) ≤ 0; decide, by show (0 : Int) ≤ 9999; decide⟩, fun c hc => absurd hc (by show ¬ ((c : Int) < 0); omega)⟩
  unfold T0i
  split
  · show rg (if b = 0 then 6 else 0)
    split <;> exact ⟨by decide, by decide⟩
  · split
    · show rg 0
      exact rg_0
    · exact rg_so (fun _ _ => ⟨by show (-2147483648 : Int) ≤ 0; decide, by show (0 : Int) < 2147483648; decide⟩) _ _
