/-! what holds at every point: turns, rounds, programs; what is asked and what comes -/
theorem iv_emp {T T' : TS} {M : Int} {c : Nat} (h : IV T) (hw : WF T M) (he : ∀ a b, a ≠ 0 → a ≠ 7 + 8 * c → a ≠ 7 + 8 * c + 5 → a ≠ 7 + 8 * c + 6 → a ≠ 7 + 8 * c + 7 → T' a b = T a b) (h00 : T' 0 0 = T 0 0) (h02 : T' 0 2 = T 0 2) (hc : ∀ c9 : Nat, (c9 : Int) < T' 0 1 → c9 = c ∨ (c9 : Int) < T 0 1) (h1 : T' (7 + 8 * c) 1 = 0) (hs : ∀ j d, (j = 5 ∨ j = 6 ∨ j = 7) → d < 8 → T' (7 + 8 * c + j) d = -1) : IV T' := by
  obtain ⟨i1, i2⟩ := h
  refine ⟨fun d hd => by rw [he 2 d (by omega) (by omega) (by omega) (by omega) (by omega), h02]; exact i1 d hd, fun c9 hc9 => ?_⟩
  by_cases hx : c9 = c
  · subst hx
    exact ⟨sli_0 hs, rpl_0 h1 hs⟩
  · have hc8 := (hc c9 hc9).resolve_left hx
    obtain ⟨s1, s2⟩ := i2 c9 hc8
    have k := hw.2.2.2.2.2 c9 hc8
    have e : ∀ a b, 7 + 8 * c9 ≤ a → a < 7 + 8 * c9 + 8 → T' a b = T a b := fun a b h1 h2 => he a b (by omega) (by omega) (by omega) (by omega) (by omega)
    exact ⟨sli_eq s1 (fun j d hj hd => e _ _ (by omega) (by omega)) (fun d hd => he _ _ (by omega) (by omega) (by omega) (by omega) (by omega)) (fun d hd => he _ _ (by omega) (by omega) (by omega) (by omega) (by omega)), rpl_fr s2 (wf_prg hw hc8) hw.2.1.2 h00 k.2.1.2 e⟩
theorem iv_tk {T : TS} {M : Int} (h : IV T) (hw : WF T M) {c : Nat} (hc : (c : Int) < T 0 1) : IV (tkT T c) := by
  unfold tkT
  split
  · rename_i hp
    exact iv_st h hw hc hp
  · split
    · refine iv_emp (T' := soT (pt T (7 + 8 * c) 3 (T (7 + 8 * c) 3 + 1)) (7 + 8 * c) 8) (c := c) h hw (fun a b h1 h2 h3 h4 h5 => by rw [soT_ne (by omega), pt_ne _ _ (Or.inl (by omega))]) (by rw [soT_ne (by omega), pt_ne _ _ (Or.inl (by omega))]) (by rw [soT_ne (by omega), pt_ne _ _ (Or.inl (by omega))]) (fun c9 hc9 => by rw [soT_ne (by omega), pt_ne _ _ (Or.inl (by omega))] at hc9; exact Or.inr hc9) soT_1 (fun j d hj hd => soT_s hj hd)
    · exact iv_cl h hw
theorem iv_gr {T : TS} {M : Int} (h : IV T) (hw : WF T M) (hM : M < 2147483000) : ∀ c : Nat, (c : Int) ≤ T 0 1 → IV (gr T c).1
  | 0, _ => h
  | c + 1, hc => by
    have ih := iv_gr h hw hM c (by omega)
    have w := wf_gr hw hM c (by omega)
    rw [gr]
    split
    · exact iv_tk ih w (by rw [grz_0 (by omega)]; omega)
    · exact ih
theorem iv_grs {T : TS} {M : Int} (h : IV T) (hw : WF T M) (hM : M < 2147400000) : ∀ j : Nat, j ≤ 1000 → IV (grs T j).1
  | 0, _ => h
  | j + 1, hj => by
    have ih := iv_grs h hw hM j (by omega)
    have w := wf_grs hw hM j (by omega)
    have hi := nc_i w
    rw [grs]
    exact iv_gr ih w (by omega) _ (by omega)
theorem iv_ac {T : TS} {M : Int} (h : IV T) (hw : WF T M) : IV (acT T) := by
  have hi := nc_i hw
  have en : (T 0 1).toNat = nc T := rfl
  have e : ∀ a b, a ≠ 0 ∨ b ≠ 1 → acT T a b = soT (pt (pt T (7 + 8 * nc T) 0 0) (7 + 8 * nc T) 3 0) (7 + 8 * nc T) 8 a b := fun a b ha => by
    unfold acT baT
    rw [en, pt_ne _ _ ha]
  refine iv_emp (c := nc T) h hw (fun a b h1 h2 h3 h4 h5 => ?_) ?_ ?_ (fun c9 hc9 => ?_) ?_ (fun j d hj hd => ?_)
  · rw [e _ _ (Or.inl h1), soT_ne (by omega), pt_ne _ _ (Or.inl h2), pt_ne _ _ (Or.inl h2)]
  · rw [e _ _ (Or.inr (by omega)), soT_ne (by omega), pt_ne _ _ (Or.inl (by omega)), pt_ne _ _ (Or.inl (by omega))]
  · rw [e _ _ (Or.inr (by omega)), soT_ne (by omega), pt_ne _ _ (Or.inl (by omega)), pt_ne _ _ (Or.inl (by omega))]
  · have e1 : acT T 0 1 = T 0 1 + 1 := by unfold acT; rw [pt_at]
    rw [e1] at hc9
    omega
  · rw [e _ _ (Or.inl (by omega)), soT_1]
  · rw [e _ _ (Or.inl (by omega)), soT_s hj hd]
theorem iv_bg {T : TS} {m : Int} : IV (bgT T m 8) := by
  have e1 : bgT T m 8 0 1 = 0 := rfl
  refine ⟨fun d hd => ?_, fun c hc => absurd hc (by rw [e1]; omega)⟩
  have e2 : bgT T m 8 2 d = 0 := by unfold bgT; rw [if_neg (by omega), if_neg (by omega), if_pos ⟨Or.inr rfl, hd⟩]
  have e3 : bgT T m 8 0 2 = 0 := rfl
  rw [e2, e3]
  exact ⟨Int.le_refl _, Int.le_refl _⟩
/-- an own slip at the beginning is empty -/
theorem rpl_em {T : TS} {c : Nat} (h : RPL T c) (hz : T (7 + 8 * c) 2 = 0) (hp : T (7 + 8 * c) 1 = 0) : ∀ j d, (j = 5 ∨ j = 6 ∨ j = 7) → d < 8 → T (7 + 8 * c + j) d = -1 := fun j d hj hd => by
  have h9 := h hz (T (7 + 8 * c + 5)) (T (7 + 8 * c + 6)) (fun d _ _ => ⟨rfl, rfl⟩) j d hj hd
  rw [← h9, hp]
  show wal _ c 0 (7 + 8 * c + j) d = -1
  rw [wal, soT_s hj hd]
theorem as_ne {T : TS} {q : Nat} {kd d e b : Int} {a b' : Nat} (h : (a < q ∨ q + 4 < a) ∨ (a = q ∧ b' ≠ 0)) : asT T q kd d e b a b' = T a b' := by
  unfold asT
  rw [pt_ne _ _ (by omega), pt_ne _ _ (Or.inl (by omega)), pt_ne _ _ (Or.inl (by omega)), pt_ne _ _ (Or.inl (by omega)), pt_ne _ _ (Or.inl (by omega))]
theorem iv_as {T : TS} {M : Int} (h : IV T) (hw : WF T M) {c : Nat} {kd d e b : Int} (hc : (c : Int) < T 0 1) (hk : T (7 + 8 * c) 2 = 0 ∧ T (7 + 8 * c) 1 = 0) : IV (asT T (7 + 8 * c) kd d e b) := by
  obtain ⟨i1, i2⟩ := h
  refine ⟨fun d hd => by rw [as_ne (by omega), as_ne (by omega)]; exact i1 d hd, fun c9 hc9 => ?_⟩
  rw [as_ne (by omega)] at hc9
  obtain ⟨s1, s2⟩ := i2 c9 hc9
  by_cases hx : c9 = c
  · subst hx
    have em := rpl_em s2 hk.1 hk.2
    have em9 : ∀ j d9, (j = 5 ∨ j = 6 ∨ j = 7) → d9 < 8 → asT T (7 + 8 * c9) kd d e b (7 + 8 * c9 + j) d9 = -1 := fun j d9 hj hd9 => by rw [as_ne (by omega)]; exact em j d9 hj hd9
    exact ⟨sli_0 em9, rpl_0 (by rw [as_ne (by omega)]; exact hk.2) em9⟩
  · have k := hw.2.2.2.2.2 c9 hc9
    have e9 : ∀ a b', 7 + 8 * c9 ≤ a → a < 7 + 8 * c9 + 8 → asT T (7 + 8 * c) kd d e b a b' = T a b' := fun a b' h1 h2 => as_ne (by omega)
    exact ⟨sli_eq s1 (fun j d hj hd => e9 _ _ (by omega) (by omega)) (fun d hd => as_ne (by omega)) (fun d hd => as_ne (by omega)), rpl_fr s2 (wf_prg hw hc9) hw.2.1.2 (as_ne (by omega)) k.2.1.2 e9⟩
/-! alone -/
theorem al_fin {T T1 : TS} {M : Int} (h : WF T M) (hM : M < 2147400000) (h1 : RG T1) {c i d : Nat} (hc : (c : Int) < T 0 1) (hd : d < 8) (hi : i ≤ 9) (a1 : ∀ j, j < i → awP (wal (beT T1 T) c j) c) (a2 : i = 9 ∨ ¬ awP (wal (beT T1 T) c i) c) : wal (beT T1 T) c i 1 d = wal T c ((T (7 + 8 * c) 0).toNat + 1) 1 d := by
  have hn := nc_i h
  have hb := wf_be h1 h
  have k := h.2.2.2.2.2 c hc
  rw [al_eq hb (by rw [be_0 (by omega)]; exact hc) hd hi a1 a2]
  have e0 : beT T1 T (7 + 8 * c) 0 = T (7 + 8 * c) 0 := be_q (j := 0) (by omega) (by omega) (fun _ => by omega) (by omega)
  rw [e0]
  have k1 := k.1
  exact eq_wal (eq_be h) rfl h hM (by omega) _ (by omega) _ _ (rv1 (Or.inl rfl) hd)
theorem tt_self (T : TS) : TT T (T 1) (T 2) = T := by
  funext a b
  unfold TT
  split
  · rename_i h; rw [h]
  · split
    · rename_i h; rw [h]
    · rfl
/-- as a clerk closes, the till becomes what it alone would have made of it -/
theorem al_cl {T : TS} {M : Int} (h : IV T) (hw : WF T M) {c d : Nat} (hc : (c : Int) < T 0 1) (hd : d < 8) (hz : T (7 + 8 * c) 2 = 0) (hp : T (7 + 8 * c) 1 = T (7 + 8 * c) 0) (ho : ¬ odP T (7 + 8 * c) (nd T)) : wal T c ((T (7 + 8 * c) 0).toNat + 1) 1 d = clT T (7 + 8 * c) c 1 d := by
  obtain ⟨i1, i2⟩ := h
  obtain ⟨s1, s2⟩ := i2 c hc
  obtain ⟨w1, w2, w3, w4, w5, w6⟩ := hw
  obtain ⟨k1, k2, k3, k4, k5, k6⟩ := w6 c hc
  obtain ⟨s, hs⟩ := Int.eq_ofNat_of_zero_le k1.1
  have es : (T (7 + 8 * c) 0).toNat = s := by omega
  obtain ⟨a1, a2, a3, a4, a5, a6⟩ := wal_st (c := c) w2.2 hs s (Nat.le_refl _)
  have hA : AGS T (7 + 8 * c) (T 1) (T 2) := fun d hd h9 => by
    have e2 : T (7 + 8 * c + 6) d = T 2 d := by
      by_cases hx : d < nd T
      · exact Classical.byContradiction (fun h8 => ho ⟨d, hx, h9, h8⟩)
      · exact absurd ((k6 d hd).2.2 (by unfold nd at hx; omega)).1 h9
    exact ⟨((((s1 d hd).2 h9).2.2) e2).symm, e2.symm⟩
  have r7 := s2 hz (T 1) (T 2) hA 7 d (by omega) hd
  rw [tt_self, hp, es] at r7
  rw [es, wal_end w2.2 hs, (cl_12 (by omega)).1, (cl_12 (by omega)).1, r7, a6 d]
  have en : nd (wal T c s) = nd T := by unfold nd; rw [a5 0 (by omega)]
  rw [en]
/-! until -/
theorem anP_be {T T1 : TS} {M : Int} (h : WF T M) (hM : M < 2147400000) {j : Nat} (hj : j ≤ 1000) : anP (grs (beT T1 T) j).1 ↔ anP (grs T j).1 := by
  have e := eq_grs (eq_be (T1 := T1) h) rfl h hM j hj
  exact eq_anP e.1 e.2.2.symm
def UNT (T : TS) (z : Int) : Prop := (∃ T1, RG T1 ∧ ((∃ r : Nat, r ≤ 200 ∧ (∀ j, j < r → anP (grs (beT T1 T) j).1) ∧ ¬ anP (grs (beT T1 T) r).1 ∧ z = r) ∨ ((∀ j, j ≤ 200 → anP (grs (beT T1 T) j).1) ∧ z = -1)))
theorem un_1 {T : TS} {M z : Int} (h : WF T M) (hM : M < 2147400000) (hu : UNT T z) {k : Nat} (hz : z = ((k : Nat) : Int)) : ¬ anP (grs T k).1 := by
  obtain ⟨T1, h1, ⟨r, hr, h2, h3, h4⟩ | ⟨h2, h4⟩⟩ := hu
  · have e : r = k := by omega
    subst e
    rw [anP_be h hM (by omega)] at h3
    exact h3
  · omega
theorem un_2 {T : TS} {M z : Int} (h : WF T M) (hM : M < 2147400000) (hu : UNT T z) (hn : ¬ anP T) : z = 0 := by
  obtain ⟨T1, h1, ⟨r, hr, h2, h3, h4⟩ | ⟨h2, h4⟩⟩ := hu
  · by_cases hx : r = 0
    · omega
    · have := (anP_be (T1 := T1) h hM (j := 0) (by omega)).mp (h2 0 (by omega))
      exact absurd this hn
  · have := (anP_be (T1 := T1) h hM (j := 0) (by omega)).mp (h2 0 (by omega))
    exact absurd this hn
theorem un_rg {T : TS} {z : Int} (hu : UNT T z) : -1 ≤ z ∧ z ≤ 200 := by
  obtain ⟨T1, h1, ⟨r, hr, h2, h3, h4⟩ | ⟨h2, h4⟩⟩ := hu <;> omega
/-! foresee -/
theorem fo_eq {T T1 : TS} {M : Int} (h : WF T M) (hM : M < 2147400000) {r : Nat} (hr : r ≤ 1000) {what : Int} : cnV (grs (beT T1 T) r).1 what = cnV (grs T r).1 what := by
  have e := eq_grs (eq_be (T1 := T1) h) rfl h hM r hr
  have w := wf_grs h hM r hr
  exact eq_cnV e.1 e.2.2.symm w.2.1.2
/-! a turn -/
theorem tk_1 {T : TS} {c : Nat} (h : tkV T c = 1) : tkT T c = clT T (7 + 8 * c) c ∧ ¬ T (7 + 8 * c) 1 < T (7 + 8 * c) 0 ∧ ¬ odP T (7 + 8 * c) (nd T) := by
  unfold tkV at h
  unfold tkT
  by_cases hp : T (7 + 8 * c) 1 < T (7 + 8 * c) 0
  · rw [if_pos hp] at h; omega
  · rw [if_neg hp] at h ⊢
    by_cases ho : bz (odP T (7 + 8 * c) (nd T)) = 1
    · rw [if_pos ho] at h; omega
    · rw [if_neg ho]
      exact ⟨rfl, hp, fun h9 => ho (bz_t h9)⟩
theorem tk_not1 {T : TS} {c d : Nat} (h : tkV T c ≠ 1) : tkT T c 1 d = T 1 d ∧ tkT T c 2 d = T 2 d := by
  unfold tkV at h
  unfold tkT
  by_cases hp : T (7 + 8 * c) 1 < T (7 + 8 * c) 0
  · rw [if_pos hp]
    exact ⟨by rw [pt_ne _ _ (Or.inl (by omega)), dsT_ne (by omega) (by omega) (by omega)], by rw [pt_ne _ _ (Or.inl (by omega)), dsT_ne (by omega) (by omega) (by omega)]⟩
  · rw [if_neg hp] at h ⊢
    by_cases ho : bz (odP T (7 + 8 * c) (nd T)) = 1
    · rw [if_pos ho]
      exact ⟨by rw [soT_ne (by omega), pt_ne _ _ (Or.inl (by omega))], by rw [soT_ne (by omega), pt_ne _ _ (Or.inl (by omega))]⟩
    · rw [if_neg ho] at h
      exact absurd rfl h
/-- the seals that a closing changes are those of the drawers written -/
theorem cl_cnt {T : TS} {M : Int} (h : IV T) (hw : WF T M) {c : Nat} (hc : (c : Int) < T 0 1) : sm (nd T) (fun d => bz (clT T (7 + 8 * c) c 2 d ≠ T 2 d)) = sm 8 (wrF T (7 + 8 * c)) := by
  rw [← (wf_w8 hw hc).2.2]
  have hn : nd T ≤ 8 := by have := hw.2.1; unfold nd; omega
  refine sm_c _ (fun d hd => ?_)
  unfold wrF
  refine bz_c ?_
  have s9 := h.1 d (by omega)
  rw [(cl_12 (by omega)).2]
  by_cases h7 : T (7 + 8 * c + 7) d ≠ -1
  · rw [if_pos ⟨hd, h7⟩]
    exact ⟨fun _ => h7, fun _ h9 => by omega⟩
  · rw [if_neg (fun h9 => h7 h9.2)]
    exact ⟨fun h9 => absurd rfl h9, fun h9 => absurd h9 h7⟩
theorem cl_45 {T : TS} {q : Nat} {x : Int} (hq : 7 ≤ q) : clT T q x 4 0 = x ∧ clT T q x 5 0 = sm 8 (wrF T q) ∧ clT T q x 6 0 = sm (nd (clT T q x)) (clT T q x 1) := by
  have e0 : nd (clT T q x) = nd T := by unfold nd; rw [cl_0 hq, if_neg (by omega)]
  have e1 : ∀ Z : TS, ∀ y w : Int, sm (nd Z) (kcT Z y w 1) = sm (nd Z) (Z 1) := fun Z y w => sm_c _ (fun d _ => kcT_ne (by omega))
  refine ⟨?_, ?_, ?_⟩
  · unfold clT kcT
    rw [pt_ne _ _ (Or.inl (by omega)), pt_ne _ _ (Or.inl (by omega)), pt_at]
  · unfold clT kcT
    rw [pt_ne _ _ (Or.inl (by omega)), pt_at]
  · rw [e0]
    have e2 : nd (pt (clL (pt T 0 2 (T 0 2 + 1)) q (nd T) (T 0 2 + 1)) q 2 1) = nd T := by
      unfold nd
      rw [pt_ne _ _ (Or.inl (by omega)), clL_ne (by omega) (by omega), pt_ne _ _ (Or.inr (by omega))]
    have e3 := e1 (pt (clL (pt T 0 2 (T 0 2 + 1)) q (nd T) (T 0 2 + 1)) q 2 1) x (sm 8 (wrF T q))
    rw [e2] at e3
    unfold clT
    rw [e3]
    unfold kcT
    rw [pt_at, e2]
/-- who remembers what a clerk that closes has written would lose then -/
theorem cl_lose {T : TS} {M : Int} (h : IV T) (hw : WF T M) {c b : Nat} (hb : (b : Int) < T 0 1) (hk : clP T c b) : loF (clT T (7 + 8 * c) c) b = 1 := by
  obtain ⟨h1, h2, h3, d, hd, h4, h5⟩ := hk
  have hn : nd T ≤ 8 := by have := hw.2.1; unfold nd; omega
  have e0 : nd (clT T (7 + 8 * c) c) = nd T := by unfold nd; rw [cl_0 (by omega), if_neg (by omega)]
  have s9 := h.1 d (by omega)
  have s8 := (((h.2 b hb).1 d (by omega)).2 h5)
  unfold loF
  refine bz_t ⟨by rw [cl_q (by omega) (by omega)]; exact h3, ?_⟩
  rw [e0]
  refine ⟨d, hd, by rw [cl_q (by omega) (by omega)]; exact h5, ?_⟩
  rw [cl_q (by omega) (by omega), (cl_12 (by omega)).2, if_pos ⟨hd, h4⟩]
  omega
