/-! the reference: say -/
section SAYW
variable {g : GT} {md : Nat → Nat} {h : Int} {Q : Nat → TS} {k : Nat} {R : TS} {e e' : Nat × va_E}
theorem RW_len : (RW g md h Q k R).length = 29 := by unfold RW MW; rw [List.length_map, List.length_range]
theorem RW_t : (RW g md h Q k R ++ [e])[29]? = some e := by
  have := apx (W := RW g md h Q k R) (L := [e]) 0 rfl
  rw [RW_len] at this
  exact this
theorem RW_ts : (RW g md h Q k R ++ [e]).set 29 e' = RW g md h Q k R ++ [e'] := by
  have := aps (W := RW g md h Q k R) (L := [e]) 0 (e := e')
  rw [RW_len] at this
  exact this
theorem RW_cp4 {kd d ee b : Int} {o : Nat} (hk : k < 2) : (RW g md h Q k R ++ [e]).set (iy k 3) (md (iy k 3), .inl (g.2.1, 192, .inl (va_cpy (upd (upd (upd (upd (fun _ => iZ 0) 0 (iZ kd)) 1 (iZ d)) 2 (iZ ee)) 3 (iZ b)) (arI R 3) 0 o 4))) = RW g md h Q k (pt (pt (pt (pt R 3 o kd) 3 (o + 1) d) 3 (o + 2) ee) 3 (o + 3) b) ++ [e] := by
  refine apt (RW_a hk 3 (by decide) (n := 192) rfl) (RW_set (by decide) ?_ (fun a ha => by rw [pt_row a ha, pt_row a ha, pt_row a ha, pt_row a ha]))
  rw [rc_a (by decide)]
  show Sum.inl (g.2.1, 192, Sum.inl _) = _
  congr 3
  congr 1
  funext i
  unfold va_cpy arI upd pt
  simp only [true_and, Nat.zero_le, Nat.zero_add]
  by_cases h1 : o ≤ i ∧ i < o + 4
  · rcases (show i = o ∨ i = o + 1 ∨ i = o + 2 ∨ i = o + 3 by omega) with h2 | h2 | h2 | h2 <;> subst h2 <;> simp
  · rw [if_neg (by omega), if_neg (by omega), if_neg (by omega), if_neg (by omega), if_neg (by omega)]
end SAYW
def SG (R : TS) (c s : Nat) (kd d e b : Int) : TS := pt (pt (pt (pt (pt R 3 (32 * c + 4 * s) kd) 3 (32 * c + 4 * s + 1) d) 3 (32 * c + 4 * s + 2) e) 3 (32 * c + 4 * s + 3) b) 4 c (R 4 c + 1)
theorem rel_say {R T : TS} {c s : Nat} {kd d e b : Int} (h : REL R T) (hc1 : (c : Int) < T 0 1) (hs : T (7 + 8 * c) 0 = (s : Int)) (hs7 : s < 8) (h8 : ∀ c9 : Nat, (c9 : Int) < T 0 1 → T (7 + 8 * c9) 0 ≤ 8) (r1 : rg kd) (r2 : rg d) (r3 : rg e) (r4 : rg b) : REL (SG R c s kd d e b) (asT T (7 + 8 * c) kd d e b) := by
  obtain ⟨⟨h1, h2, h3, h4, h5, h6⟩, hn⟩ := h
  have es : (T (7 + 8 * c) 0).toNat = s := by omega
  have X : ∀ a b', a ≠ 3 → a ≠ 4 → SG R c s kd d e b a b' = R a b' := fun a b' ha hb => by
    unfold SG
    rw [pt_ne _ _ (Or.inl hb), pt_ne _ _ (Or.inl ha), pt_ne _ _ (Or.inl ha), pt_ne _ _ (Or.inl ha), pt_ne _ _ (Or.inl ha)]
  have X4 : ∀ c9, c9 ≠ c → SG R c s kd d e b 4 c9 = R 4 c9 := fun c9 hc => by
    unfold SG
    rw [pt_ne _ _ (Or.inr hc), pt_ne _ _ (Or.inl (by omega)), pt_ne _ _ (Or.inl (by omega)), pt_ne _ _ (Or.inl (by omega)), pt_ne _ _ (Or.inl (by omega))]
  have X3 : ∀ i, (i < 32 * c + 4 * s ∨ 32 * c + 4 * s + 3 < i) → SG R c s kd d e b 3 i = R 3 i := fun i hi => by
    unfold SG
    rw [pt_ne _ _ (Or.inl (by omega)), pt_ne _ _ (Or.inr (by omega)), pt_ne _ _ (Or.inr (by omega)), pt_ne _ _ (Or.inr (by omega)), pt_ne _ _ (Or.inr (by omega))]
  have Y : ∀ a b', (a < 7 + 8 * c ∨ 7 + 8 * c + 4 < a) → asT T (7 + 8 * c) kd d e b a b' = T a b' := fun a b' ha => by
    unfold asT
    rw [pt_ne _ _ (Or.inl (by omega)), pt_ne _ _ (Or.inl (by omega)), pt_ne _ _ (Or.inl (by omega)), pt_ne _ _ (Or.inl (by omega)), pt_ne _ _ (Or.inl (by omega))]
  have Y0 : ∀ b', b' ≠ 0 → asT T (7 + 8 * c) kd d e b (7 + 8 * c) b' = T (7 + 8 * c) b' := fun b' hb => by
    unfold asT
    rw [pt_ne _ _ (Or.inr hb), pt_ne _ _ (Or.inl (by omega)), pt_ne _ _ (Or.inl (by omega)), pt_ne _ _ (Or.inl (by omega)), pt_ne _ _ (Or.inl (by omega))]
  have Y00 : asT T (7 + 8 * c) kd d e b (7 + 8 * c) 0 = T (7 + 8 * c) 0 + 1 := by unfold asT; rw [pt_at]
  have Yi : ∀ a b', 7 + 8 * c < a → b' ≠ s → asT T (7 + 8 * c) kd d e b a b' = T a b' := fun a b' ha hb => by
    unfold asT
    rw [es, pt_ne _ _ (Or.inl (by omega)), pt_ne _ _ (Or.inr hb), pt_ne _ _ (Or.inr hb), pt_ne _ _ (Or.inr hb), pt_ne _ _ (Or.inr hb)]
  have hsr := h1 4 c
  obtain ⟨k1, k2, k3, k4, k5, k6⟩ := h6 c hc1
  refine ⟨⟨?_, ?_, ?_, ?_, fun d9 hd9 => ?_, fun c9 hc9 => ?_⟩, fun b9 hb9 hz => ?_⟩
  · exact rg_pt (rg_pt (rg_pt (rg_pt (rg_pt h1 r1) r2) r3) r4) ⟨by omega, by omega⟩
  · rw [X _ _ (by omega) (by omega), Y _ _ (by omega)]; exact h2
  · rw [X _ _ (by omega) (by omega), Y _ _ (by omega)]; exact h3
  · rw [X _ _ (by omega) (by omega), Y _ _ (by omega)]; exact h4
  · rw [X _ _ (by omega) (by omega), X _ _ (by omega) (by omega), Y _ _ (by omega), Y _ _ (by omega)]; exact h5 d9 hd9
  · rw [Y _ _ (by omega)] at hc9
    obtain ⟨a1, a2, a3, a4, a5, a6⟩ := h6 c9 hc9
    have h89 := h8 c9 hc9
    by_cases hc : c9 = c
    · subst hc
      refine ⟨?_, ?_, ?_, ?_, fun s9 hs9 => ?_, fun d9 hd9 => ?_⟩
      · rw [Y00, ← a1]; unfold SG; rw [pt_at]
      · rw [X _ _ (by omega) (by omega), Y0 _ (by omega)]; exact a2
      · rw [X _ _ (by omega) (by omega), Y0 _ (by omega)]; exact a3
      · rw [X _ _ (by omega) (by omega), Y0 _ (by omega)]; exact a4
      · rw [Y00] at hs9
        by_cases he : s9 = s
        · subst he
          refine ⟨?_, ?_, ?_, ?_⟩
          · unfold SG asT
            rw [es, pt_ne _ _ (Or.inl (by omega)), pt_ne _ _ (Or.inr (by omega)), pt_ne _ _ (Or.inr (by omega)), pt_ne _ _ (Or.inr (by omega)), pt_at, pt_ne _ _ (Or.inl (by omega)), pt_ne _ _ (Or.inl (by omega)), pt_ne _ _ (Or.inl (by omega)), pt_ne _ _ (Or.inl (by omega)), pt_at]
          · unfold SG asT
            rw [es, pt_ne _ _ (Or.inl (by omega)), pt_ne _ _ (Or.inr (by omega)), pt_ne _ _ (Or.inr (by omega)), pt_at, pt_ne _ _ (Or.inl (by omega)), pt_ne _ _ (Or.inl (by omega)), pt_ne _ _ (Or.inl (by omega)), pt_at]
          · unfold SG asT
            rw [es, pt_ne _ _ (Or.inl (by omega)), pt_ne _ _ (Or.inr (by omega)), pt_at, pt_ne _ _ (Or.inl (by omega)), pt_ne _ _ (Or.inl (by omega)), pt_at]
          · unfold SG asT
            rw [es, pt_ne _ _ (Or.inl (by omega)), pt_at, pt_ne _ _ (Or.inl (by omega)), pt_at]
        · obtain ⟨b1, b2, b3, b4⟩ := a5 s9 (by omega)
          rw [X3 _ (by omega), X3 _ (by omega), X3 _ (by omega), X3 _ (by omega), Yi _ _ (by omega) he, Yi _ _ (by omega) he, Yi _ _ (by omega) he, Yi _ _ (by omega) he]
          exact ⟨b1, b2, b3, b4⟩
      · rw [X _ _ (by omega) (by omega), X _ _ (by omega) (by omega), X _ _ (by omega) (by omega), Y _ _ (by omega), Y _ _ (by omega), Y _ _ (by omega)]
        exact a6 d9 hd9
    · refine ⟨?_, ?_, ?_, ?_, fun s9 hs9 => ?_, fun d9 hd9 => ?_⟩
      · rw [X4 _ hc, Y _ _ (by omega)]; exact a1
      · rw [X _ _ (by omega) (by omega), Y _ _ (by omega)]; exact a2
      · rw [X _ _ (by omega) (by omega), Y _ _ (by omega)]; exact a3
      · rw [X _ _ (by omega) (by omega), Y _ _ (by omega)]; exact a4
      · rw [Y _ _ (by omega)] at hs9
        obtain ⟨b1, b2, b3, b4⟩ := a5 s9 hs9
        rw [X3 _ (by omega), X3 _ (by omega), X3 _ (by omega), X3 _ (by omega), Y _ _ (by omega), Y _ _ (by omega), Y _ _ (by omega), Y _ _ (by omega)]
        exact ⟨b1, b2, b3, b4⟩
      · rw [X _ _ (by omega) (by omega), X _ _ (by omega) (by omega), X _ _ (by omega) (by omega), Y _ _ (by omega), Y _ _ (by omega), Y _ _ (by omega)]
        exact a6 d9 hd9
  · rw [Y _ _ (by omega)] at hz ⊢
    rw [X _ _ (by omega) (by omega), X _ _ (by omega) (by omega), X _ _ (by omega) (by omega), Y _ _ (by omega), Y _ _ (by omega), Y _ _ (by omega)]
    exact hn b9 hb9 hz
theorem RMx1 {a b maxL k n : Nat} (h : b < a) (hm : maxL ≤ 21) (hk : k ≤ 1) (hn : n ≤ 6) : RM (rmX a 1) (rmN b) maxL k n := ⟨h, by show 8 + (maxL + 11) + 40 * b ≤ 40 * a; omega, hk, hn⟩
set_option maxHeartbeats 4000000 in
set_option maxRecDepth 100000 in
theorem z_say (l : Launch) {g : GT} {md : Nat → Nat} {h : Int} {Q : Nat → TS} (R T : TS) (hR : REL R T) (hn1 : 1 ≤ T 0 0) (hn8 : T 0 0 ≤ 8) (hc0 : 0 ≤ T 0 1) (hc6 : T 0 1 ≤ 6) {c kd d e b : Int} (hc : rg c) (hkd : rg kd) (hd : rg d) (he : rg e) (hb : rg b) (hs0 : 0 ≤ c → c < T 0 1 → 0 ≤ T (7 + 8 * c.toNat) 0) (hs8 : ∀ c : Nat, (c : Int) < T 0 1 → T (7 + 8 * c) 0 ≤ 8) (hdc : 0 ≤ c → c < T 0 1 → T (7 + 8 * c.toNat) 2 = 0 ∨ T (7 + 8 * c.toNat) 2 = 1) : MI l yX4_say cX4_say 7 .int (rmX 2 1) g [.ref (md 0), .int (iZ (c)), .int (iZ (kd)), .int (iZ (d)), .int (iZ (e)), .int (iZ (b))] (RW g md h Q 0 R) (fun z ws9 => ((syP T c kd d e ∧ fkP kd d e b ∧ skP T c) ∧ z = T (7 + 8 * c.toNat) 0 + 1 ∧ (∃ R9, REL R9 (asT T (7 + 8 * c.toNat) kd d e b) ∧ ws9 = RW g md 0 Q 0 R9)) ∨ (¬ syP T c kd d e ∧ ws9 = RW g md 1 Q 0 R) ∨ (syP T c kd d e ∧ ¬ fkP kd d e b ∧ ws9 = RW g md 2 Q 0 R) ∨ (syP T c kd d e ∧ fkP kd d e b ∧ ¬ skP T c ∧ ws9 = RW g md 3 Q 0 R)) := by
  refine MI.of (own := RX4) (by decide) rfl (Nat.le_of_ble_eq_true rfl) (fun x hx hE => ?_)
  have hk : 0 < 2 := by decide
  obtain ⟨hT, r00, r01, r02, r12, rcc⟩ := id hR.1
  refine V_lv (lv' := [(0, .ref (md 0)), (1, .int (iZ (c))), (2, .int (iZ (kd))), (3, .int (iZ (d))), (4, .int (iZ (e))), (5, .int (iZ (b)))]) rfl ?_
  refine V_aload_n hx dX4_say_0 0 rfl ?_
  refine V_iconst hx dX4_say_1 ?_
  refine pf_X4_19 hx 0 RW_o (Nat.le_of_ble_eq_true rfl) (RW g md 0 Q 0 R) RW_seth dX4_say_2 ?_
  refine V_aload_n hx dX4_say_5 0 rfl ?_
  refine V_iload_n hx dX4_say_6 1 rfl ?_
  refine V_calli hx (z_isClerk l R T hR (by omega) (by omega) (d := c) (by first | assumption | exact hT _ _ | exact ⟨by omega, by omega⟩)) cw_X4_57 (RMx1 (by decide) (by decide) (by omega) (by omega)) rfl 0 RW_o rfl rfl (Nat.le_of_ble_eq_true rfl) dX4_say_7 0 0 rfl rfl (fun z1 ws1 e1 => ?_)
  obtain ⟨rfl, rfl⟩ := e1
  refine V_ifb_eq hx dX4_say_10 39 (by decide) (fun h10 => ?_) (fun h10 => ?_)
  · refine V_aload_n hx dX4_say_39 0 rfl ?_
    refine V_iconst hx dX4_say_40 ?_
    refine V_calli hx (z_no l R (n := 1)) cw_X4_33 (RMx1 (by decide) (by decide) (by omega) (by omega)) rfl 0 RW_o rfl rfl (Nat.le_of_ble_eq_true rfl) dX4_say_41 0 0 rfl rfl (fun z2 ws2 e2 => ?_)
    obtain ⟨rfl, rfl⟩ := e2
    refine V_widen (k' := (rmX 2 1).cells) (n' := (rmX 2 1).slots) (Nat.le_of_ble_eq_true rfl) (Nat.le_of_ble_eq_true rfl) ?_
    exact hE _ _ _ _ dX4_say_44 rfl (Or.inr (Or.inl ⟨fun h9 => by unfold syP at h9; omega, rfl⟩))
  · refine V_iload_n hx dX4_say_13 2 rfl ?_
    refine V_iconst hx dX4_say_14 ?_
    refine V_iconst hx dX4_say_15 ?_
    refine V_callSi hx (z_isIn l (h := 0) (Q := Q) R (v := kd) (lo := 0) (hi := 3) (by first | assumption | exact hT _ _ | exact ⟨by omega, by omega⟩) ⟨by decide, by decide⟩ ⟨by decide, by decide⟩) cw_X4_26 (RMx1 (by decide) (by decide) (by omega) (by omega)) rfl rfl (Nat.le_of_ble_eq_true rfl) dX4_say_16 0 0 rfl rfl (fun z3 ws3 e3 => ?_)
    obtain ⟨rfl, rfl⟩ := e3
    refine V_ifb_eq hx dX4_say_19 39 (by decide) (fun h19 => ?_) (fun h19 => ?_)
    · refine V_aload_n hx dX4_say_39 0 rfl ?_
      refine V_iconst hx dX4_say_40 ?_
      refine V_calli hx (z_no l R (n := 1)) cw_X4_33 (RMx1 (by decide) (by decide) (by omega) (by omega)) rfl 0 RW_o rfl rfl (Nat.le_of_ble_eq_true rfl) dX4_say_41 0 0 rfl rfl (fun z4 ws4 e4 => ?_)
      obtain ⟨rfl, rfl⟩ := e4
      refine V_widen (k' := (rmX 2 1).cells) (n' := (rmX 2 1).slots) (Nat.le_of_ble_eq_true rfl) (Nat.le_of_ble_eq_true rfl) ?_
      exact hE _ _ _ _ dX4_say_44 rfl (Or.inr (Or.inl ⟨fun h9 => by unfold syP at h9; omega, rfl⟩))
    · refine V_aload_n hx dX4_say_22 0 rfl ?_
      refine V_iload_n hx dX4_say_23 3 rfl ?_
      refine V_calli hx (z_isDrawer l R T hR (by omega) (by omega) (d := d) (by first | assumption | exact hT _ _ | exact ⟨by omega, by omega⟩)) cw_X4_41 (RMx1 (by decide) (by decide) (by omega) (by omega)) rfl 0 RW_o rfl rfl (Nat.le_of_ble_eq_true rfl) dX4_say_24 0 0 rfl rfl (fun z5 ws5 e5 => ?_)
      obtain ⟨rfl, rfl⟩ := e5
      refine V_ifb_eq hx dX4_say_27 39 (by decide) (fun h27 => ?_) (fun h27 => ?_)
      · refine V_aload_n hx dX4_say_39 0 rfl ?_
        refine V_iconst hx dX4_say_40 ?_
        refine V_calli hx (z_no l R (n := 1)) cw_X4_33 (RMx1 (by decide) (by decide) (by omega) (by omega)) rfl 0 RW_o rfl rfl (Nat.le_of_ble_eq_true rfl) dX4_say_41 0 0 rfl rfl (fun z6 ws6 e6 => ?_)
        obtain ⟨rfl, rfl⟩ := e6
        refine V_widen (k' := (rmX 2 1).cells) (n' := (rmX 2 1).slots) (Nat.le_of_ble_eq_true rfl) (Nat.le_of_ble_eq_true rfl) ?_
        exact hE _ _ _ _ dX4_say_44 rfl (Or.inr (Or.inl ⟨fun h9 => by unfold syP at h9; omega, rfl⟩))
      · refine V_aload_n hx dX4_say_30 0 rfl ?_
        refine V_iload hx dX4_say_31 4 rfl ?_
        refine V_calli hx (z_isDrawer l R T hR (by omega) (by omega) (d := e) (by first | assumption | exact hT _ _ | exact ⟨by omega, by omega⟩)) cw_X4_41 (RMx1 (by decide) (by decide) (by omega) (by omega)) rfl 0 RW_o rfl rfl (Nat.le_of_ble_eq_true rfl) dX4_say_33 0 0 rfl rfl (fun z7 ws7 e7 => ?_)
        obtain ⟨rfl, rfl⟩ := e7
        refine V_ifb_ne hx dX4_say_36 45 (by decide) (fun h36 => ?_) (fun h36 => ?_)
        · refine V_iload hx dX4_say_45 5 rfl ?_
          refine V_sipush hx dX4_say_47 rfl ?_
          refine V_sipush hx dX4_say_50 rfl ?_
          refine V_callSi hx (z_isIn l (h := 0) (Q := Q) R (v := b) (lo := (-999)) (hi := 999) (by first | assumption | exact hT _ _ | exact ⟨by omega, by omega⟩) ⟨by decide, by decide⟩ ⟨by decide, by decide⟩) cw_X4_26 (RMx1 (by decide) (by decide) (by omega) (by omega)) rfl rfl (Nat.le_of_ble_eq_true rfl) dX4_say_53 0 0 rfl rfl (fun z8 ws8 e8 => ?_)
          obtain ⟨rfl, rfl⟩ := e8
          refine V_ifb_eq hx dX4_say_56 86 (by decide) (fun h56 => ?_) (fun h56 => ?_)
          · refine V_aload_n hx dX4_say_86 0 rfl ?_
            refine V_iconst hx dX4_say_87 ?_
            refine V_calli hx (z_no l R (n := 2)) cw_X4_33 (RMx1 (by decide) (by decide) (by omega) (by omega)) rfl 0 RW_o rfl rfl (Nat.le_of_ble_eq_true rfl) dX4_say_88 0 0 rfl rfl (fun z9 ws9 e9 => ?_)
            obtain ⟨rfl, rfl⟩ := e9
            refine V_widen (k' := (rmX 2 1).cells) (n' := (rmX 2 1).slots) (Nat.le_of_ble_eq_true rfl) (Nat.le_of_ble_eq_true rfl) ?_
            exact hE _ _ _ _ dX4_say_91 rfl (Or.inr (Or.inr (Or.inl ⟨by unfold syP; omega, fun h9 => by unfold fkP at h9; omega, rfl⟩)))
          · refine V_iload_n hx dX4_say_59 2 rfl ?_
            refine V_iconst hx dX4_say_60 ?_
            refine V_icmp_ne hx dX4_say_61 69 (by decide) (by first | assumption | exact hT _ _ | exact ⟨by omega, by omega⟩) ⟨by decide, by decide⟩ (fun h61 => ?_) (fun h61 => ?_)
            · refine V_iload_n hx dX4_say_69 2 rfl ?_
              refine V_iconst hx dX4_say_70 ?_
              refine V_icmp_ne hx dX4_say_71 92 (by decide) (by first | assumption | exact hT _ _ | exact ⟨by omega, by omega⟩) ⟨by decide, by decide⟩ (fun h71 => ?_) (fun h71 => ?_)
              · have hs0 := hs0 (by omega) (by omega)
                have hdc := hdc (by omega) (by omega)
                obtain ⟨a1, a2, a3, a4, a5, a6⟩ := rcc c.toNat (by omega)
                have hs9 := hs8 c.toNat (by omega)
                refine V_aload_n hx dX4_say_92 0 rfl ?_
                refine gf_X4_10 hx 0 RW_o rfl dX4_say_93 ?_
                refine gf_X4_60 hx (iy 0 0) (RW_s hk) rfl dX4_say_96 ?_
                refine V_iload_n hx dX4_say_99 1 rfl ?_
                refine V_iald hx (by omega) (by omega) (by decide) (iy 0 6) (RW_a hk 6 (by decide) (n := 6) rfl) (v := R 6 c.toNat) rfl dX4_say_100 ?_
                refine V_iconst hx dX4_say_101 ?_
                refine V_icmp_eq hx dX4_say_102 131 (by decide) (by first | assumption | exact hT _ _ | exact ⟨by omega, by omega⟩) ⟨by decide, by decide⟩ (fun h102 => ?_) (fun h102 => ?_)
                · refine V_aload_n hx dX4_say_131 0 rfl ?_
                  refine V_iconst hx dX4_say_132 ?_
                  refine V_calli hx (z_no l R (n := 3)) cw_X4_33 (RMx1 (by decide) (by decide) (by omega) (by omega)) rfl 0 RW_o rfl rfl (Nat.le_of_ble_eq_true rfl) dX4_say_133 0 0 rfl rfl (fun z10 ws10 e10 => ?_)
                  obtain ⟨rfl, rfl⟩ := e10
                  refine V_widen (k' := (rmX 2 1).cells) (n' := (rmX 2 1).slots) (Nat.le_of_ble_eq_true rfl) (Nat.le_of_ble_eq_true rfl) ?_
                  exact hE _ _ _ _ dX4_say_136 rfl (Or.inr (Or.inr (Or.inr ⟨by unfold syP; omega, by unfold fkP; omega, fun h9 => by unfold skP at h9; omega, rfl⟩)))
                · refine V_aload_n hx dX4_say_105 0 rfl ?_
                  refine gf_X4_10 hx 0 RW_o rfl dX4_say_106 ?_
                  refine gf_X4_63 hx (iy 0 0) (RW_s hk) rfl dX4_say_109 ?_
                  refine V_iload_n hx dX4_say_112 1 rfl ?_
                  refine V_iald hx (by omega) (by omega) (by decide) (iy 0 5) (RW_a hk 5 (by decide) (n := 6) rfl) (v := R 5 c.toNat) rfl dX4_say_113 ?_
                  refine V_if_ne hx dX4_say_114 131 (by decide) (by first | assumption | exact hT _ _ | exact ⟨by omega, by omega⟩) (fun h114 => ?_) (fun h114 => ?_)
                  · refine V_aload_n hx dX4_say_131 0 rfl ?_
                    refine V_iconst hx dX4_say_132 ?_
                    refine V_calli hx (z_no l R (n := 3)) cw_X4_33 (RMx1 (by decide) (by decide) (by omega) (by omega)) rfl 0 RW_o rfl rfl (Nat.le_of_ble_eq_true rfl) dX4_say_133 0 0 rfl rfl (fun z11 ws11 e11 => ?_)
                    obtain ⟨rfl, rfl⟩ := e11
                    refine V_widen (k' := (rmX 2 1).cells) (n' := (rmX 2 1).slots) (Nat.le_of_ble_eq_true rfl) (Nat.le_of_ble_eq_true rfl) ?_
                    exact hE _ _ _ _ dX4_say_136 rfl (Or.inr (Or.inr (Or.inr ⟨by unfold syP; omega, by unfold fkP; omega, fun h9 => by unfold skP at h9; omega, rfl⟩)))
                  · refine V_aload_n hx dX4_say_117 0 rfl ?_
                    refine gf_X4_10 hx 0 RW_o rfl dX4_say_118 ?_
                    refine gf_X4_66 hx (iy 0 0) (RW_s hk) rfl dX4_say_121 ?_
                    refine V_iload_n hx dX4_say_124 1 rfl ?_
                    refine V_iald hx (by omega) (by omega) (by decide) (iy 0 4) (RW_a hk 4 (by decide) (n := 6) rfl) (v := R 4 c.toNat) rfl dX4_say_125 ?_
                    refine V_bipush hx dX4_say_126 rfl ?_
                    refine V_icmp_ne hx dX4_say_128 137 (by decide) (by first | assumption | exact hT _ _ | exact ⟨by omega, by omega⟩) ⟨by decide, by decide⟩ (fun h128 => ?_) (fun h128 => ?_)
                    · refine V_iconst hx dX4_say_137 ?_
                      refine V_newa hx 4 rfl (by decide) (Nat.le_of_ble_eq_true rfl) (Nat.le_of_ble_eq_true rfl) dX4_say_138 (fun q => ?_)
                      refine V_widen (k' := 1) (n' := 6) (by omega) (by omega) ?_
                      refine V_dup hx dX4_say_140 rfl ?_
                      refine V_iconst hx dX4_say_141 ?_
                      refine V_iload_n hx dX4_say_142 2 rfl ?_
                      refine V_iast hx (by decide) (by decide) (by decide) 29 RW_t (RW g md 0 Q 0 R ++ [(q, .inl (g.2.1, 4, .inl (upd (fun _ => iZ 0) 0 (iZ kd))))]) RW_ts dX4_say_143 ?_
                      refine V_dup hx dX4_say_144 rfl ?_
                      refine V_iconst hx dX4_say_145 ?_
                      refine V_iload_n hx dX4_say_146 3 rfl ?_
                      refine V_iast hx (by decide) (by decide) (by decide) 29 RW_t (RW g md 0 Q 0 R ++ [(q, .inl (g.2.1, 4, .inl (upd (upd (fun _ => iZ 0) 0 (iZ kd)) 1 (iZ d))))]) RW_ts dX4_say_147 ?_
                      refine V_dup hx dX4_say_148 rfl ?_
                      refine V_iconst hx dX4_say_149 ?_
                      refine V_iload hx dX4_say_150 4 rfl ?_
                      refine V_iast hx (by decide) (by decide) (by decide) 29 RW_t (RW g md 0 Q 0 R ++ [(q, .inl (g.2.1, 4, .inl (upd (upd (upd (fun _ => iZ 0) 0 (iZ kd)) 1 (iZ d)) 2 (iZ e))))]) RW_ts dX4_say_152 ?_
                      refine V_dup hx dX4_say_153 rfl ?_
                      refine V_iconst hx dX4_say_154 ?_
                      refine V_iload hx dX4_say_155 5 rfl ?_
                      refine V_iast hx (by decide) (by decide) (by decide) 29 RW_t (RW g md 0 Q 0 R ++ [(q, .inl (g.2.1, 4, .inl (upd (upd (upd (upd (fun _ => iZ 0) 0 (iZ kd)) 1 (iZ d)) 2 (iZ e)) 3 (iZ b))))]) RW_ts dX4_say_157 ?_
                      refine V_astore hx dX4_say_158 [(6, .ref (q)), (0, .ref (md 0)), (1, .int (iZ (c))), (2, .int (iZ (kd))), (3, .int (iZ (d))), (4, .int (iZ (e))), (5, .int (iZ (b)))] (by decide) rfl ?_
                      refine V_aload hx dX4_say_160 0 rfl ?_
                      refine V_iconst hx dX4_say_162 ?_
                      refine V_aload_n hx dX4_say_163 1 rfl ?_
                      refine gf_X4_10 hx 0 (apl RW_o) rfl dX4_say_164 ?_
                      refine gf_X4_69 hx (iy 0 0) (apl (RW_s hk)) rfl dX4_say_167 ?_
                      refine V_iconst hx dX4_say_170 ?_
                      refine V_bipush hx dX4_say_171 rfl ?_
                      refine V_iload_n hx dX4_say_173 2 rfl ?_
                      refine V_imul hx dX4_say_174 ?_
                      refine V_aload_n hx dX4_say_175 1 rfl ?_
                      refine gf_X4_10 hx 0 (apl RW_o) rfl dX4_say_176 ?_
                      refine gf_X4_66 hx (iy 0 0) (apl (RW_s hk)) rfl dX4_say_179 ?_
                      refine V_iload_n hx dX4_say_182 2 rfl ?_
                      refine V_iald hx (by omega) (by omega) (by decide) (iy 0 4) (apl (RW_a hk 4 (by decide) (n := 6) rfl)) (v := R 4 c.toNat) rfl dX4_say_183 ?_
                      refine V_iadd hx dX4_say_184 ?_
                      refine V_imul hx dX4_say_185 ?_
                      refine V_iconst hx dX4_say_186 ?_
                      refine V_copy hx qm715 29 (iy 0 3) RW_t (apl (RW_a hk 3 (by decide) (n := 192) rfl)) (by omega) (by omega) (by omega) (by omega) (by omega) (by decide) (by decide) (Nat.le_of_ble_eq_true rfl) (Nat.le_of_ble_eq_true rfl) (RW g md 0 Q 0 (pt (pt (pt (pt R 3 (32 * c.toNat + 4 * (T (7 + 8 * c.toNat) 0).toNat) kd) 3 (32 * c.toNat + 4 * (T (7 + 8 * c.toNat) 0).toNat + 1) d) 3 (32 * c.toNat + 4 * (T (7 + 8 * c.toNat) 0).toNat + 2) e) 3 (32 * c.toNat + 4 * (T (7 + 8 * c.toNat) 0).toNat + 3) b) ++ [(q, .inl (g.2.1, 4, .inl (upd (upd (upd (upd (fun _ => iZ 0) 0 (iZ kd)) 1 (iZ d)) 2 (iZ e)) 3 (iZ b))))]) (by rw [show (4 * ((8 * c) + R 4 c.toNat) : Int).toNat = 32 * c.toNat + 4 * (T (7 + 8 * c.toNat) 0).toNat by omega]; exact RW_cp4 hk) dX4_say_187 ?_
                      refine V_perm (ws' := RW g md 0 Q 0 (pt (pt (pt (pt R 3 (32 * c.toNat + 4 * (T (7 + 8 * c.toNat) 0).toNat) kd) 3 (32 * c.toNat + 4 * (T (7 + 8 * c.toNat) 0).toNat + 1) d) 3 (32 * c.toNat + 4 * (T (7 + 8 * c.toNat) 0).toNat + 2) e) 3 (32 * c.toNat + 4 * (T (7 + 8 * c.toNat) 0).toNat + 3) b)) [(q, .inl (g.2.1, 4, .inl (upd (upd (upd (upd (fun _ => iZ 0) 0 (iZ kd)) 1 (iZ d)) 2 (iZ e)) 3 (iZ b))))] (List.Perm.refl _) ?_
                      refine V_aload_n hx dX4_say_190 1 rfl ?_
                      refine gf_X4_10 hx 0 RW_o rfl dX4_say_191 ?_
                      refine gf_X4_66 hx (iy 0 0) (RW_s hk) rfl dX4_say_194 ?_
                      refine V_iload_n hx dX4_say_197 2 rfl ?_
                      refine V_dup2 hx dX4_say_198 rfl rfl ?_
                      refine V_iald hx (by omega) (by omega) (by decide) (iy 0 4) (RW_a hk 4 (by decide) (n := 6) rfl) (v := R 4 c.toNat) (by show iZ _ = iZ _; rw [pt_ne _ _ (Or.inl (by omega)), pt_ne _ _ (Or.inl (by omega)), pt_ne _ _ (Or.inl (by omega)), pt_ne _ _ (Or.inl (by omega))] <;> rfl) dX4_say_199 ?_
                      refine V_iconst hx dX4_say_200 ?_
                      refine V_iadd hx dX4_say_201 ?_
                      refine V_iast hx (by omega) (by omega) (by decide) (iy 0 4) (RW_a hk 4 (by decide) (n := 6) rfl) (RW g md 0 Q 0 (pt (pt (pt (pt (pt R (3) (32 * c.toNat + 4 * (T (7 + 8 * c.toNat) 0).toNat) (kd)) (3) (32 * c.toNat + 4 * (T (7 + 8 * c.toNat) 0).toNat + 1) (d)) (3) (32 * c.toNat + 4 * (T (7 + 8 * c.toNat) 0).toNat + 2) (e)) (3) (32 * c.toNat + 4 * (T (7 + 8 * c.toNat) 0).toNat + 3) (b)) (4) (c.toNat) ((R 4 c.toNat) + 1))) (RW_sa (by decide) rfl) dX4_say_202 ?_
                      refine V_aload_n hx dX4_say_203 1 rfl ?_
                      refine gf_X4_10 hx 0 RW_o rfl dX4_say_204 ?_
                      refine gf_X4_66 hx (iy 0 0) (RW_s hk) rfl dX4_say_207 ?_
                      refine V_iload_n hx dX4_say_210 2 rfl ?_
                      refine V_iald hx (by omega) (by omega) (by decide) (iy 0 4) (RW_a hk 4 (by decide) (n := 6) rfl) (v := (R 4 c.toNat) + 1) (by show iZ _ = iZ _; rw [pt_at] <;> rfl) dX4_say_211 ?_
                      exact hE _ _ _ _ dX4_say_212 rfl (Or.inl ⟨⟨by unfold syP; omega, by unfold fkP; omega, by unfold skP; omega⟩, by omega, _, rel_say hR (by omega) (Int.toNat_of_nonneg (by omega)).symm (by omega) hs8 hkd hd he hb, rfl⟩)
                    · refine V_aload_n hx dX4_say_131 0 rfl ?_
                      refine V_iconst hx dX4_say_132 ?_
                      refine V_calli hx (z_no l R (n := 3)) cw_X4_33 (RMx1 (by decide) (by decide) (by omega) (by omega)) rfl 0 RW_o rfl rfl (Nat.le_of_ble_eq_true rfl) dX4_say_133 0 0 rfl rfl (fun z12 ws12 e12 => ?_)
                      obtain ⟨rfl, rfl⟩ := e12
                      refine V_widen (k' := (rmX 2 1).cells) (n' := (rmX 2 1).slots) (Nat.le_of_ble_eq_true rfl) (Nat.le_of_ble_eq_true rfl) ?_
                      exact hE _ _ _ _ dX4_say_136 rfl (Or.inr (Or.inr (Or.inr ⟨by unfold syP; omega, by unfold fkP; omega, fun h9 => by unfold skP at h9; omega, rfl⟩)))
              · refine V_iload hx dX4_say_74 5 rfl ?_
                refine V_iconst hx dX4_say_76 ?_
                refine V_icmp_lt hx dX4_say_77 86 (by decide) (by first | assumption | exact hT _ _ | exact ⟨by omega, by omega⟩) ⟨by decide, by decide⟩ (fun h77 => ?_) (fun h77 => ?_)
                · refine V_aload_n hx dX4_say_86 0 rfl ?_
                  refine V_iconst hx dX4_say_87 ?_
                  refine V_calli hx (z_no l R (n := 2)) cw_X4_33 (RMx1 (by decide) (by decide) (by omega) (by omega)) rfl 0 RW_o rfl rfl (Nat.le_of_ble_eq_true rfl) dX4_say_88 0 0 rfl rfl (fun z13 ws13 e13 => ?_)
                  obtain ⟨rfl, rfl⟩ := e13
                  refine V_widen (k' := (rmX 2 1).cells) (n' := (rmX 2 1).slots) (Nat.le_of_ble_eq_true rfl) (Nat.le_of_ble_eq_true rfl) ?_
                  exact hE _ _ _ _ dX4_say_91 rfl (Or.inr (Or.inr (Or.inl ⟨by unfold syP; omega, fun h9 => by unfold fkP at h9; omega, rfl⟩)))
                · refine V_iload_n hx dX4_say_80 3 rfl ?_
                  refine V_iload hx dX4_say_81 4 rfl ?_
                  refine V_icmp_ne hx dX4_say_83 92 (by decide) (by first | assumption | exact hT _ _ | exact ⟨by omega, by omega⟩) (by first | assumption | exact hT _ _ | exact ⟨by omega, by omega⟩) (fun h83 => ?_) (fun h83 => ?_)
                  · have hs0 := hs0 (by omega) (by omega)
                    have hdc := hdc (by omega) (by omega)
                    obtain ⟨a1, a2, a3, a4, a5, a6⟩ := rcc c.toNat (by omega)
                    have hs9 := hs8 c.toNat (by omega)
                    refine V_aload_n hx dX4_say_92 0 rfl ?_
                    refine gf_X4_10 hx 0 RW_o rfl dX4_say_93 ?_
                    refine gf_X4_60 hx (iy 0 0) (RW_s hk) rfl dX4_say_96 ?_
                    refine V_iload_n hx dX4_say_99 1 rfl ?_
                    refine V_iald hx (by omega) (by omega) (by decide) (iy 0 6) (RW_a hk 6 (by decide) (n := 6) rfl) (v := R 6 c.toNat) rfl dX4_say_100 ?_
                    refine V_iconst hx dX4_say_101 ?_
                    refine V_icmp_eq hx dX4_say_102 131 (by decide) (by first | assumption | exact hT _ _ | exact ⟨by omega, by omega⟩) ⟨by decide, by decide⟩ (fun h102_2 => ?_) (fun h102_2 => ?_)
                    · refine V_aload_n hx dX4_say_131 0 rfl ?_
                      refine V_iconst hx dX4_say_132 ?_
                      refine V_calli hx (z_no l R (n := 3)) cw_X4_33 (RMx1 (by decide) (by decide) (by omega) (by omega)) rfl 0 RW_o rfl rfl (Nat.le_of_ble_eq_true rfl) dX4_say_133 0 0 rfl rfl (fun z14 ws14 e14 => ?_)
                      obtain ⟨rfl, rfl⟩ := e14
                      refine V_widen (k' := (rmX 2 1).cells) (n' := (rmX 2 1).slots) (Nat.le_of_ble_eq_true rfl) (Nat.le_of_ble_eq_true rfl) ?_
                      exact hE _ _ _ _ dX4_say_136 rfl (Or.inr (Or.inr (Or.inr ⟨by unfold syP; omega, by unfold fkP; omega, fun h9 => by unfold skP at h9; omega, rfl⟩)))
                    · refine V_aload_n hx dX4_say_105 0 rfl ?_
                      refine gf_X4_10 hx 0 RW_o rfl dX4_say_106 ?_
                      refine gf_X4_63 hx (iy 0 0) (RW_s hk) rfl dX4_say_109 ?_
                      refine V_iload_n hx dX4_say_112 1 rfl ?_
                      refine V_iald hx (by omega) (by omega) (by decide) (iy 0 5) (RW_a hk 5 (by decide) (n := 6) rfl) (v := R 5 c.toNat) rfl dX4_say_113 ?_
                      refine V_if_ne hx dX4_say_114 131 (by decide) (by first | assumption | exact hT _ _ | exact ⟨by omega, by omega⟩) (fun h114_2 => ?_) (fun h114_2 => ?_)
                      · refine V_aload_n hx dX4_say_131 0 rfl ?_
                        refine V_iconst hx dX4_say_132 ?_
                        refine V_calli hx (z_no l R (n := 3)) cw_X4_33 (RMx1 (by decide) (by decide) (by omega) (by omega)) rfl 0 RW_o rfl rfl (Nat.le_of_ble_eq_true rfl) dX4_say_133 0 0 rfl rfl (fun z15 ws15 e15 => ?_)
                        obtain ⟨rfl, rfl⟩ := e15
                        refine V_widen (k' := (rmX 2 1).cells) (n' := (rmX 2 1).slots) (Nat.le_of_ble_eq_true rfl) (Nat.le_of_ble_eq_true rfl) ?_
                        exact hE _ _ _ _ dX4_say_136 rfl (Or.inr (Or.inr (Or.inr ⟨by unfold syP; omega, by unfold fkP; omega, fun h9 => by unfold skP at h9; omega, rfl⟩)))
                      · refine V_aload_n hx dX4_say_117 0 rfl ?_
                        refine gf_X4_10 hx 0 RW_o rfl dX4_say_118 ?_
                        refine gf_X4_66 hx (iy 0 0) (RW_s hk) rfl dX4_say_121 ?_
                        refine V_iload_n hx dX4_say_124 1 rfl ?_
                        refine V_iald hx (by omega) (by omega) (by decide) (iy 0 4) (RW_a hk 4 (by decide) (n := 6) rfl) (v := R 4 c.toNat) rfl dX4_say_125 ?_
                        refine V_bipush hx dX4_say_126 rfl ?_
                        refine V_icmp_ne hx dX4_say_128 137 (by decide) (by first | assumption | exact hT _ _ | exact ⟨by omega, by omega⟩) ⟨by decide, by decide⟩ (fun h128_2 => ?_) (fun h128_2 => ?_)
                        · refine V_iconst hx dX4_say_137 ?_
                          refine V_newa hx 4 rfl (by decide) (Nat.le_of_ble_eq_true rfl) (Nat.le_of_ble_eq_true rfl) dX4_say_138 (fun q => ?_)
                          refine V_widen (k' := 1) (n' := 6) (by omega) (by omega) ?_
                          refine V_dup hx dX4_say_140 rfl ?_
                          refine V_iconst hx dX4_say_141 ?_
                          refine V_iload_n hx dX4_say_142 2 rfl ?_
                          refine V_iast hx (by decide) (by decide) (by decide) 29 RW_t (RW g md 0 Q 0 R ++ [(q, .inl (g.2.1, 4, .inl (upd (fun _ => iZ 0) 0 (iZ kd))))]) RW_ts dX4_say_143 ?_
                          refine V_dup hx dX4_say_144 rfl ?_
                          refine V_iconst hx dX4_say_145 ?_
                          refine V_iload_n hx dX4_say_146 3 rfl ?_
                          refine V_iast hx (by decide) (by decide) (by decide) 29 RW_t (RW g md 0 Q 0 R ++ [(q, .inl (g.2.1, 4, .inl (upd (upd (fun _ => iZ 0) 0 (iZ kd)) 1 (iZ d))))]) RW_ts dX4_say_147 ?_
                          refine V_dup hx dX4_say_148 rfl ?_
                          refine V_iconst hx dX4_say_149 ?_
                          refine V_iload hx dX4_say_150 4 rfl ?_
                          refine V_iast hx (by decide) (by decide) (by decide) 29 RW_t (RW g md 0 Q 0 R ++ [(q, .inl (g.2.1, 4, .inl (upd (upd (upd (fun _ => iZ 0) 0 (iZ kd)) 1 (iZ d)) 2 (iZ e))))]) RW_ts dX4_say_152 ?_
                          refine V_dup hx dX4_say_153 rfl ?_
                          refine V_iconst hx dX4_say_154 ?_
                          refine V_iload hx dX4_say_155 5 rfl ?_
                          refine V_iast hx (by decide) (by decide) (by decide) 29 RW_t (RW g md 0 Q 0 R ++ [(q, .inl (g.2.1, 4, .inl (upd (upd (upd (upd (fun _ => iZ 0) 0 (iZ kd)) 1 (iZ d)) 2 (iZ e)) 3 (iZ b))))]) RW_ts dX4_say_157 ?_
                          refine V_astore hx dX4_say_158 [(6, .ref (q)), (0, .ref (md 0)), (1, .int (iZ (c))), (2, .int (iZ (kd))), (3, .int (iZ (d))), (4, .int (iZ (e))), (5, .int (iZ (b)))] (by decide) rfl ?_
                          refine V_aload hx dX4_say_160 0 rfl ?_
                          refine V_iconst hx dX4_say_162 ?_
                          refine V_aload_n hx dX4_say_163 1 rfl ?_
                          refine gf_X4_10 hx 0 (apl RW_o) rfl dX4_say_164 ?_
                          refine gf_X4_69 hx (iy 0 0) (apl (RW_s hk)) rfl dX4_say_167 ?_
                          refine V_iconst hx dX4_say_170 ?_
                          refine V_bipush hx dX4_say_171 rfl ?_
                          refine V_iload_n hx dX4_say_173 2 rfl ?_
                          refine V_imul hx dX4_say_174 ?_
                          refine V_aload_n hx dX4_say_175 1 rfl ?_
                          refine gf_X4_10 hx 0 (apl RW_o) rfl dX4_say_176 ?_
                          refine gf_X4_66 hx (iy 0 0) (apl (RW_s hk)) rfl dX4_say_179 ?_
                          refine V_iload_n hx dX4_say_182 2 rfl ?_
                          refine V_iald hx (by omega) (by omega) (by decide) (iy 0 4) (apl (RW_a hk 4 (by decide) (n := 6) rfl)) (v := R 4 c.toNat) rfl dX4_say_183 ?_
                          refine V_iadd hx dX4_say_184 ?_
                          refine V_imul hx dX4_say_185 ?_
                          refine V_iconst hx dX4_say_186 ?_
                          refine V_copy hx qm715 29 (iy 0 3) RW_t (apl (RW_a hk 3 (by decide) (n := 192) rfl)) (by omega) (by omega) (by omega) (by omega) (by omega) (by decide) (by decide) (Nat.le_of_ble_eq_true rfl) (Nat.le_of_ble_eq_true rfl) (RW g md 0 Q 0 (pt (pt (pt (pt R 3 (32 * c.toNat + 4 * (T (7 + 8 * c.toNat) 0).toNat) kd) 3 (32 * c.toNat + 4 * (T (7 + 8 * c.toNat) 0).toNat + 1) d) 3 (32 * c.toNat + 4 * (T (7 + 8 * c.toNat) 0).toNat + 2) e) 3 (32 * c.toNat + 4 * (T (7 + 8 * c.toNat) 0).toNat + 3) b) ++ [(q, .inl (g.2.1, 4, .inl (upd (upd (upd (upd (fun _ => iZ 0) 0 (iZ kd)) 1 (iZ d)) 2 (iZ e)) 3 (iZ b))))]) (by rw [show (4 * ((8 * c) + R 4 c.toNat) : Int).toNat = 32 * c.toNat + 4 * (T (7 + 8 * c.toNat) 0).toNat by omega]; exact RW_cp4 hk) dX4_say_187 ?_
                          refine V_perm (ws' := RW g md 0 Q 0 (pt (pt (pt (pt R 3 (32 * c.toNat + 4 * (T (7 + 8 * c.toNat) 0).toNat) kd) 3 (32 * c.toNat + 4 * (T (7 + 8 * c.toNat) 0).toNat + 1) d) 3 (32 * c.toNat + 4 * (T (7 + 8 * c.toNat) 0).toNat + 2) e) 3 (32 * c.toNat + 4 * (T (7 + 8 * c.toNat) 0).toNat + 3) b)) [(q, .inl (g.2.1, 4, .inl (upd (upd (upd (upd (fun _ => iZ 0) 0 (iZ kd)) 1 (iZ d)) 2 (iZ e)) 3 (iZ b))))] (List.Perm.refl _) ?_
                          refine V_aload_n hx dX4_say_190 1 rfl ?_
                          refine gf_X4_10 hx 0 RW_o rfl dX4_say_191 ?_
                          refine gf_X4_66 hx (iy 0 0) (RW_s hk) rfl dX4_say_194 ?_
                          refine V_iload_n hx dX4_say_197 2 rfl ?_
                          refine V_dup2 hx dX4_say_198 rfl rfl ?_
                          refine V_iald hx (by omega) (by omega) (by decide) (iy 0 4) (RW_a hk 4 (by decide) (n := 6) rfl) (v := R 4 c.toNat) (by show iZ _ = iZ _; rw [pt_ne _ _ (Or.inl (by omega)), pt_ne _ _ (Or.inl (by omega)), pt_ne _ _ (Or.inl (by omega)), pt_ne _ _ (Or.inl (by omega))] <;> rfl) dX4_say_199 ?_
                          refine V_iconst hx dX4_say_200 ?_
                          refine V_iadd hx dX4_say_201 ?_
                          refine V_iast hx (by omega) (by omega) (by decide) (iy 0 4) (RW_a hk 4 (by decide) (n := 6) rfl) (RW g md 0 Q 0 (pt (pt (pt (pt (pt R (3) (32 * c.toNat + 4 * (T (7 + 8 * c.toNat) 0).toNat) (kd)) (3) (32 * c.toNat + 4 * (T (7 + 8 * c.toNat) 0).toNat + 1) (d)) (3) (32 * c.toNat + 4 * (T (7 + 8 * c.toNat) 0).toNat + 2) (e)) (3) (32 * c.toNat + 4 * (T (7 + 8 * c.toNat) 0).toNat + 3) (b)) (4) (c.toNat) ((R 4 c.toNat) + 1))) (RW_sa (by decide) rfl) dX4_say_202 ?_
                          refine V_aload_n hx dX4_say_203 1 rfl ?_
                          refine gf_X4_10 hx 0 RW_o rfl dX4_say_204 ?_
                          refine gf_X4_66 hx (iy 0 0) (RW_s hk) rfl dX4_say_207 ?_
                          refine V_iload_n hx dX4_say_210 2 rfl ?_
                          refine V_iald hx (by omega) (by omega) (by decide) (iy 0 4) (RW_a hk 4 (by decide) (n := 6) rfl) (v := (R 4 c.toNat) + 1) (by show iZ _ = iZ _; rw [pt_at] <;> rfl) dX4_say_211 ?_
                          exact hE _ _ _ _ dX4_say_212 rfl (Or.inl ⟨⟨by unfold syP; omega, by unfold fkP; omega, by unfold skP; omega⟩, by omega, _, rel_say hR (by omega) (Int.toNat_of_nonneg (by omega)).symm (by omega) hs8 hkd hd he hb, rfl⟩)
                        · refine V_aload_n hx dX4_say_131 0 rfl ?_
                          refine V_iconst hx dX4_say_132 ?_
                          refine V_calli hx (z_no l R (n := 3)) cw_X4_33 (RMx1 (by decide) (by decide) (by omega) (by omega)) rfl 0 RW_o rfl rfl (Nat.le_of_ble_eq_true rfl) dX4_say_133 0 0 rfl rfl (fun z16 ws16 e16 => ?_)
                          obtain ⟨rfl, rfl⟩ := e16
                          refine V_widen (k' := (rmX 2 1).cells) (n' := (rmX 2 1).slots) (Nat.le_of_ble_eq_true rfl) (Nat.le_of_ble_eq_true rfl) ?_
                          exact hE _ _ _ _ dX4_say_136 rfl (Or.inr (Or.inr (Or.inr ⟨by unfold syP; omega, by unfold fkP; omega, fun h9 => by unfold skP at h9; omega, rfl⟩)))
                  · refine V_aload_n hx dX4_say_86 0 rfl ?_
                    refine V_iconst hx dX4_say_87 ?_
                    refine V_calli hx (z_no l R (n := 2)) cw_X4_33 (RMx1 (by decide) (by decide) (by omega) (by omega)) rfl 0 RW_o rfl rfl (Nat.le_of_ble_eq_true rfl) dX4_say_88 0 0 rfl rfl (fun z17 ws17 e17 => ?_)
                    obtain ⟨rfl, rfl⟩ := e17
                    refine V_widen (k' := (rmX 2 1).cells) (n' := (rmX 2 1).slots) (Nat.le_of_ble_eq_true rfl) (Nat.le_of_ble_eq_true rfl) ?_
                    exact hE _ _ _ _ dX4_say_91 rfl (Or.inr (Or.inr (Or.inl ⟨by unfold syP; omega, fun h9 => by unfold fkP at h9; omega, rfl⟩)))
            · refine V_iload hx dX4_say_64 5 rfl ?_
              refine V_if_lt hx dX4_say_66 86 (by decide) (by first | assumption | exact hT _ _ | exact ⟨by omega, by omega⟩) (fun h66 => ?_) (fun h66 => ?_)
              · refine V_aload_n hx dX4_say_86 0 rfl ?_
                refine V_iconst hx dX4_say_87 ?_
                refine V_calli hx (z_no l R (n := 2)) cw_X4_33 (RMx1 (by decide) (by decide) (by omega) (by omega)) rfl 0 RW_o rfl rfl (Nat.le_of_ble_eq_true rfl) dX4_say_88 0 0 rfl rfl (fun z18 ws18 e18 => ?_)
                obtain ⟨rfl, rfl⟩ := e18
                refine V_widen (k' := (rmX 2 1).cells) (n' := (rmX 2 1).slots) (Nat.le_of_ble_eq_true rfl) (Nat.le_of_ble_eq_true rfl) ?_
                exact hE _ _ _ _ dX4_say_91 rfl (Or.inr (Or.inr (Or.inl ⟨by unfold syP; omega, fun h9 => by unfold fkP at h9; omega, rfl⟩)))
              · refine V_iload_n hx dX4_say_69 2 rfl ?_
                refine V_iconst hx dX4_say_70 ?_
                refine V_icmp_ne hx dX4_say_71 92 (by decide) (by first | assumption | exact hT _ _ | exact ⟨by omega, by omega⟩) ⟨by decide, by decide⟩ (fun h71_2 => ?_) (fun h71_2 => ?_)
                · have hs0 := hs0 (by omega) (by omega)
                  have hdc := hdc (by omega) (by omega)
                  obtain ⟨a1, a2, a3, a4, a5, a6⟩ := rcc c.toNat (by omega)
                  have hs9 := hs8 c.toNat (by omega)
                  refine V_aload_n hx dX4_say_92 0 rfl ?_
                  refine gf_X4_10 hx 0 RW_o rfl dX4_say_93 ?_
                  refine gf_X4_60 hx (iy 0 0) (RW_s hk) rfl dX4_say_96 ?_
                  refine V_iload_n hx dX4_say_99 1 rfl ?_
                  refine V_iald hx (by omega) (by omega) (by decide) (iy 0 6) (RW_a hk 6 (by decide) (n := 6) rfl) (v := R 6 c.toNat) rfl dX4_say_100 ?_
                  refine V_iconst hx dX4_say_101 ?_
                  refine V_icmp_eq hx dX4_say_102 131 (by decide) (by first | assumption | exact hT _ _ | exact ⟨by omega, by omega⟩) ⟨by decide, by decide⟩ (fun h102_3 => ?_) (fun h102_3 => ?_)
                  · refine V_aload_n hx dX4_say_131 0 rfl ?_
                    refine V_iconst hx dX4_say_132 ?_
                    refine V_calli hx (z_no l R (n := 3)) cw_X4_33 (RMx1 (by decide) (by decide) (by omega) (by omega)) rfl 0 RW_o rfl rfl (Nat.le_of_ble_eq_true rfl) dX4_say_133 0 0 rfl rfl (fun z19 ws19 e19 => ?_)
                    obtain ⟨rfl, rfl⟩ := e19
                    refine V_widen (k' := (rmX 2 1).cells) (n' := (rmX 2 1).slots) (Nat.le_of_ble_eq_true rfl) (Nat.le_of_ble_eq_true rfl) ?_
                    exact hE _ _ _ _ dX4_say_136 rfl (Or.inr (Or.inr (Or.inr ⟨by unfold syP; omega, by unfold fkP; omega, fun h9 => by unfold skP at h9; omega, rfl⟩)))
                  · refine V_aload_n hx dX4_say_105 0 rfl ?_
                    refine gf_X4_10 hx 0 RW_o rfl dX4_say_106 ?_
                    refine gf_X4_63 hx (iy 0 0) (RW_s hk) rfl dX4_say_109 ?_
                    refine V_iload_n hx dX4_say_112 1 rfl ?_
                    refine V_iald hx (by omega) (by omega) (by decide) (iy 0 5) (RW_a hk 5 (by decide) (n := 6) rfl) (v := R 5 c.toNat) rfl dX4_say_113 ?_
                    refine V_if_ne hx dX4_say_114 131 (by decide) (by first | assumption | exact hT _ _ | exact ⟨by omega, by omega⟩) (fun h114_3 => ?_) (fun h114_3 => ?_)
                    · refine V_aload_n hx dX4_say_131 0 rfl ?_
                      refine V_iconst hx dX4_say_132 ?_
                      refine V_calli hx (z_no l R (n := 3)) cw_X4_33 (RMx1 (by decide) (by decide) (by omega) (by omega)) rfl 0 RW_o rfl rfl (Nat.le_of_ble_eq_true rfl) dX4_say_133 0 0 rfl rfl (fun z20 ws20 e20 => ?_)
                      obtain ⟨rfl, rfl⟩ := e20
                      refine V_widen (k' := (rmX 2 1).cells) (n' := (rmX 2 1).slots) (Nat.le_of_ble_eq_true rfl) (Nat.le_of_ble_eq_true rfl) ?_
                      exact hE _ _ _ _ dX4_say_136 rfl (Or.inr (Or.inr (Or.inr ⟨by unfold syP; omega, by unfold fkP; omega, fun h9 => by unfold skP at h9; omega, rfl⟩)))
                    · refine V_aload_n hx dX4_say_117 0 rfl ?_
                      refine gf_X4_10 hx 0 RW_o rfl dX4_say_118 ?_
                      refine gf_X4_66 hx (iy 0 0) (RW_s hk) rfl dX4_say_121 ?_
                      refine V_iload_n hx dX4_say_124 1 rfl ?_
                      refine V_iald hx (by omega) (by omega) (by decide) (iy 0 4) (RW_a hk 4 (by decide) (n := 6) rfl) (v := R 4 c.toNat) rfl dX4_say_125 ?_
                      refine V_bipush hx dX4_say_126 rfl ?_
                      refine V_icmp_ne hx dX4_say_128 137 (by decide) (by first | assumption | exact hT _ _ | exact ⟨by omega, by omega⟩) ⟨by decide, by decide⟩ (fun h128_3 => ?_) (fun h128_3 => ?_)
                      · refine V_iconst hx dX4_say_137 ?_
                        refine V_newa hx 4 rfl (by decide) (Nat.le_of_ble_eq_true rfl) (Nat.le_of_ble_eq_true rfl) dX4_say_138 (fun q => ?_)
                        refine V_widen (k' := 1) (n' := 6) (by omega) (by omega) ?_
                        refine V_dup hx dX4_say_140 rfl ?_
                        refine V_iconst hx dX4_say_141 ?_
                        refine V_iload_n hx dX4_say_142 2 rfl ?_
                        refine V_iast hx (by decide) (by decide) (by decide) 29 RW_t (RW g md 0 Q 0 R ++ [(q, .inl (g.2.1, 4, .inl (upd (fun _ => iZ 0) 0 (iZ kd))))]) RW_ts dX4_say_143 ?_
                        refine V_dup hx dX4_say_144 rfl ?_
                        refine V_iconst hx dX4_say_145 ?_
                        refine V_iload_n hx dX4_say_146 3 rfl ?_
                        refine V_iast hx (by decide) (by decide) (by decide) 29 RW_t (RW g md 0 Q 0 R ++ [(q, .inl (g.2.1, 4, .inl (upd (upd (fun _ => iZ 0) 0 (iZ kd)) 1 (iZ d))))]) RW_ts dX4_say_147 ?_
                        refine V_dup hx dX4_say_148 rfl ?_
                        refine V_iconst hx dX4_say_149 ?_
                        refine V_iload hx dX4_say_150 4 rfl ?_
                        refine V_iast hx (by decide) (by decide) (by decide) 29 RW_t (RW g md 0 Q 0 R ++ [(q, .inl (g.2.1, 4, .inl (upd (upd (upd (fun _ => iZ 0) 0 (iZ kd)) 1 (iZ d)) 2 (iZ e))))]) RW_ts dX4_say_152 ?_
                        refine V_dup hx dX4_say_153 rfl ?_
                        refine V_iconst hx dX4_say_154 ?_
                        refine V_iload hx dX4_say_155 5 rfl ?_
                        refine V_iast hx (by decide) (by decide) (by decide) 29 RW_t (RW g md 0 Q 0 R ++ [(q, .inl (g.2.1, 4, .inl (upd (upd (upd (upd (fun _ => iZ 0) 0 (iZ kd)) 1 (iZ d)) 2 (iZ e)) 3 (iZ b))))]) RW_ts dX4_say_157 ?_
                        refine V_astore hx dX4_say_158 [(6, .ref (q)), (0, .ref (md 0)), (1, .int (iZ (c))), (2, .int (iZ (kd))), (3, .int (iZ (d))), (4, .int (iZ (e))), (5, .int (iZ (b)))] (by decide) rfl ?_
                        refine V_aload hx dX4_say_160 0 rfl ?_
                        refine V_iconst hx dX4_say_162 ?_
                        refine V_aload_n hx dX4_say_163 1 rfl ?_
                        refine gf_X4_10 hx 0 (apl RW_o) rfl dX4_say_164 ?_
                        refine gf_X4_69 hx (iy 0 0) (apl (RW_s hk)) rfl dX4_say_167 ?_
                        refine V_iconst hx dX4_say_170 ?_
                        refine V_bipush hx dX4_say_171 rfl ?_
                        refine V_iload_n hx dX4_say_173 2 rfl ?_
                        refine V_imul hx dX4_say_174 ?_
                        refine V_aload_n hx dX4_say_175 1 rfl ?_
                        refine gf_X4_10 hx 0 (apl RW_o) rfl dX4_say_176 ?_
                        refine gf_X4_66 hx (iy 0 0) (apl (RW_s hk)) rfl dX4_say_179 ?_
                        refine V_iload_n hx dX4_say_182 2 rfl ?_
                        refine V_iald hx (by omega) (by omega) (by decide) (iy 0 4) (apl (RW_a hk 4 (by decide) (n := 6) rfl)) (v := R 4 c.toNat) rfl dX4_say_183 ?_
                        refine V_iadd hx dX4_say_184 ?_
                        refine V_imul hx dX4_say_185 ?_
                        refine V_iconst hx dX4_say_186 ?_
                        refine V_copy hx qm715 29 (iy 0 3) RW_t (apl (RW_a hk 3 (by decide) (n := 192) rfl)) (by omega) (by omega) (by omega) (by omega) (by omega) (by decide) (by decide) (Nat.le_of_ble_eq_true rfl) (Nat.le_of_ble_eq_true rfl) (RW g md 0 Q 0 (pt (pt (pt (pt R 3 (32 * c.toNat + 4 * (T (7 + 8 * c.toNat) 0).toNat) kd) 3 (32 * c.toNat + 4 * (T (7 + 8 * c.toNat) 0).toNat + 1) d) 3 (32 * c.toNat + 4 * (T (7 + 8 * c.toNat) 0).toNat + 2) e) 3 (32 * c.toNat + 4 * (T (7 + 8 * c.toNat) 0).toNat + 3) b) ++ [(q, .inl (g.2.1, 4, .inl (upd (upd (upd (upd (fun _ => iZ 0) 0 (iZ kd)) 1 (iZ d)) 2 (iZ e)) 3 (iZ b))))]) (by rw [show (4 * ((8 * c) + R 4 c.toNat) : Int).toNat = 32 * c.toNat + 4 * (T (7 + 8 * c.toNat) 0).toNat by omega]; exact RW_cp4 hk) dX4_say_187 ?_
                        refine V_perm (ws' := RW g md 0 Q 0 (pt (pt (pt (pt R 3 (32 * c.toNat + 4 * (T (7 + 8 * c.toNat) 0).toNat) kd) 3 (32 * c.toNat + 4 * (T (7 + 8 * c.toNat) 0).toNat + 1) d) 3 (32 * c.toNat + 4 * (T (7 + 8 * c.toNat) 0).toNat + 2) e) 3 (32 * c.toNat + 4 * (T (7 + 8 * c.toNat) 0).toNat + 3) b)) [(q, .inl (g.2.1, 4, .inl (upd (upd (upd (upd (fun _ => iZ 0) 0 (iZ kd)) 1 (iZ d)) 2 (iZ e)) 3 (iZ b))))] (List.Perm.refl _) ?_
                        refine V_aload_n hx dX4_say_190 1 rfl ?_
                        refine gf_X4_10 hx 0 RW_o rfl dX4_say_191 ?_
                        refine gf_X4_66 hx (iy 0 0) (RW_s hk) rfl dX4_say_194 ?_
                        refine V_iload_n hx dX4_say_197 2 rfl ?_
                        refine V_dup2 hx dX4_say_198 rfl rfl ?_
                        refine V_iald hx (by omega) (by omega) (by decide) (iy 0 4) (RW_a hk 4 (by decide) (n := 6) rfl) (v := R 4 c.toNat) (by show iZ _ = iZ _; rw [pt_ne _ _ (Or.inl (by omega)), pt_ne _ _ (Or.inl (by omega)), pt_ne _ _ (Or.inl (by omega)), pt_ne _ _ (Or.inl (by omega))] <;> rfl) dX4_say_199 ?_
                        refine V_iconst hx dX4_say_200 ?_
                        refine V_iadd hx dX4_say_201 ?_
                        refine V_iast hx (by omega) (by omega) (by decide) (iy 0 4) (RW_a hk 4 (by decide) (n := 6) rfl) (RW g md 0 Q 0 (pt (pt (pt (pt (pt R (3) (32 * c.toNat + 4 * (T (7 + 8 * c.toNat) 0).toNat) (kd)) (3) (32 * c.toNat + 4 * (T (7 + 8 * c.toNat) 0).toNat + 1) (d)) (3) (32 * c.toNat + 4 * (T (7 + 8 * c.toNat) 0).toNat + 2) (e)) (3) (32 * c.toNat + 4 * (T (7 + 8 * c.toNat) 0).toNat + 3) (b)) (4) (c.toNat) ((R 4 c.toNat) + 1))) (RW_sa (by decide) rfl) dX4_say_202 ?_
                        refine V_aload_n hx dX4_say_203 1 rfl ?_
                        refine gf_X4_10 hx 0 RW_o rfl dX4_say_204 ?_
                        refine gf_X4_66 hx (iy 0 0) (RW_s hk) rfl dX4_say_207 ?_
                        refine V_iload_n hx dX4_say_210 2 rfl ?_
                        refine V_iald hx (by omega) (by omega) (by decide) (iy 0 4) (RW_a hk 4 (by decide) (n := 6) rfl) (v := (R 4 c.toNat) + 1) (by show iZ _ = iZ _; rw [pt_at] <;> rfl) dX4_say_211 ?_
                        exact hE _ _ _ _ dX4_say_212 rfl (Or.inl ⟨⟨by unfold syP; omega, by unfold fkP; omega, by unfold skP; omega⟩, by omega, _, rel_say hR (by omega) (Int.toNat_of_nonneg (by omega)).symm (by omega) hs8 hkd hd he hb, rfl⟩)
                      · refine V_aload_n hx dX4_say_131 0 rfl ?_
                        refine V_iconst hx dX4_say_132 ?_
                        refine V_calli hx (z_no l R (n := 3)) cw_X4_33 (RMx1 (by decide) (by decide) (by omega) (by omega)) rfl 0 RW_o rfl rfl (Nat.le_of_ble_eq_true rfl) dX4_say_133 0 0 rfl rfl (fun z21 ws21 e21 => ?_)
                        obtain ⟨rfl, rfl⟩ := e21
                        refine V_widen (k' := (rmX 2 1).cells) (n' := (rmX 2 1).slots) (Nat.le_of_ble_eq_true rfl) (Nat.le_of_ble_eq_true rfl) ?_
                        exact hE _ _ _ _ dX4_say_136 rfl (Or.inr (Or.inr (Or.inr ⟨by unfold syP; omega, by unfold fkP; omega, fun h9 => by unfold skP at h9; omega, rfl⟩)))
                · refine V_iload hx dX4_say_74 5 rfl ?_
                  refine V_iconst hx dX4_say_76 ?_
                  refine V_icmp_lt hx dX4_say_77 86 (by decide) (by first | assumption | exact hT _ _ | exact ⟨by omega, by omega⟩) ⟨by decide, by decide⟩ (fun h77_2 => ?_) (fun h77_2 => ?_)
                  · refine V_aload_n hx dX4_say_86 0 rfl ?_
                    refine V_iconst hx dX4_say_87 ?_
                    refine V_calli hx (z_no l R (n := 2)) cw_X4_33 (RMx1 (by decide) (by decide) (by omega) (by omega)) rfl 0 RW_o rfl rfl (Nat.le_of_ble_eq_true rfl) dX4_say_88 0 0 rfl rfl (fun z22 ws22 e22 => ?_)
                    obtain ⟨rfl, rfl⟩ := e22
                    refine V_widen (k' := (rmX 2 1).cells) (n' := (rmX 2 1).slots) (Nat.le_of_ble_eq_true rfl) (Nat.le_of_ble_eq_true rfl) ?_
                    exact hE _ _ _ _ dX4_say_91 rfl (Or.inr (Or.inr (Or.inl ⟨by unfold syP; omega, fun h9 => by unfold fkP at h9; omega, rfl⟩)))
                  · refine V_iload_n hx dX4_say_80 3 rfl ?_
                    refine V_iload hx dX4_say_81 4 rfl ?_
                    refine V_icmp_ne hx dX4_say_83 92 (by decide) (by first | assumption | exact hT _ _ | exact ⟨by omega, by omega⟩) (by first | assumption | exact hT _ _ | exact ⟨by omega, by omega⟩) (fun h83_2 => ?_) (fun h83_2 => ?_)
                    · have hs0 := hs0 (by omega) (by omega)
                      have hdc := hdc (by omega) (by omega)
                      obtain ⟨a1, a2, a3, a4, a5, a6⟩ := rcc c.toNat (by omega)
                      have hs9 := hs8 c.toNat (by omega)
                      refine V_aload_n hx dX4_say_92 0 rfl ?_
                      refine gf_X4_10 hx 0 RW_o rfl dX4_say_93 ?_
                      refine gf_X4_60 hx (iy 0 0) (RW_s hk) rfl dX4_say_96 ?_
                      refine V_iload_n hx dX4_say_99 1 rfl ?_
                      refine V_iald hx (by omega) (by omega) (by decide) (iy 0 6) (RW_a hk 6 (by decide) (n := 6) rfl) (v := R 6 c.toNat) rfl dX4_say_100 ?_
                      refine V_iconst hx dX4_say_101 ?_
                      refine V_icmp_eq hx dX4_say_102 131 (by decide) (by first | assumption | exact hT _ _ | exact ⟨by omega, by omega⟩) ⟨by decide, by decide⟩ (fun h102_4 => ?_) (fun h102_4 => ?_)
                      · refine V_aload_n hx dX4_say_131 0 rfl ?_
                        refine V_iconst hx dX4_say_132 ?_
                        refine V_calli hx (z_no l R (n := 3)) cw_X4_33 (RMx1 (by decide) (by decide) (by omega) (by omega)) rfl 0 RW_o rfl rfl (Nat.le_of_ble_eq_true rfl) dX4_say_133 0 0 rfl rfl (fun z23 ws23 e23 => ?_)
                        obtain ⟨rfl, rfl⟩ := e23
                        refine V_widen (k' := (rmX 2 1).cells) (n' := (rmX 2 1).slots) (Nat.le_of_ble_eq_true rfl) (Nat.le_of_ble_eq_true rfl) ?_
                        exact hE _ _ _ _ dX4_say_136 rfl (Or.inr (Or.inr (Or.inr ⟨by unfold syP; omega, by unfold fkP; omega, fun h9 => by unfold skP at h9; omega, rfl⟩)))
                      · refine V_aload_n hx dX4_say_105 0 rfl ?_
                        refine gf_X4_10 hx 0 RW_o rfl dX4_say_106 ?_
                        refine gf_X4_63 hx (iy 0 0) (RW_s hk) rfl dX4_say_109 ?_
                        refine V_iload_n hx dX4_say_112 1 rfl ?_
                        refine V_iald hx (by omega) (by omega) (by decide) (iy 0 5) (RW_a hk 5 (by decide) (n := 6) rfl) (v := R 5 c.toNat) rfl dX4_say_113 ?_
                        refine V_if_ne hx dX4_say_114 131 (by decide) (by first | assumption | exact hT _ _ | exact ⟨by omega, by omega⟩) (fun h114_4 => ?_) (fun h114_4 => ?_)
                        · refine V_aload_n hx dX4_say_131 0 rfl ?_
                          refine V_iconst hx dX4_say_132 ?_
                          refine V_calli hx (z_no l R (n := 3)) cw_X4_33 (RMx1 (by decide) (by decide) (by omega) (by omega)) rfl 0 RW_o rfl rfl (Nat.le_of_ble_eq_true rfl) dX4_say_133 0 0 rfl rfl (fun z24 ws24 e24 => ?_)
                          obtain ⟨rfl, rfl⟩ := e24
                          refine V_widen (k' := (rmX 2 1).cells) (n' := (rmX 2 1).slots) (Nat.le_of_ble_eq_true rfl) (Nat.le_of_ble_eq_true rfl) ?_
                          exact hE _ _ _ _ dX4_say_136 rfl (Or.inr (Or.inr (Or.inr ⟨by unfold syP; omega, by unfold fkP; omega, fun h9 => by unfold skP at h9; omega, rfl⟩)))
                        · refine V_aload_n hx dX4_say_117 0 rfl ?_
                          refine gf_X4_10 hx 0 RW_o rfl dX4_say_118 ?_
                          refine gf_X4_66 hx (iy 0 0) (RW_s hk) rfl dX4_say_121 ?_
                          refine V_iload_n hx dX4_say_124 1 rfl ?_
                          refine V_iald hx (by omega) (by omega) (by decide) (iy 0 4) (RW_a hk 4 (by decide) (n := 6) rfl) (v := R 4 c.toNat) rfl dX4_say_125 ?_
                          refine V_bipush hx dX4_say_126 rfl ?_
                          refine V_icmp_ne hx dX4_say_128 137 (by decide) (by first | assumption | exact hT _ _ | exact ⟨by omega, by omega⟩) ⟨by decide, by decide⟩ (fun h128_4 => ?_) (fun h128_4 => ?_)
                          · refine V_iconst hx dX4_say_137 ?_
                            refine V_newa hx 4 rfl (by decide) (Nat.le_of_ble_eq_true rfl) (Nat.le_of_ble_eq_true rfl) dX4_say_138 (fun q => ?_)
                            refine V_widen (k' := 1) (n' := 6) (by omega) (by omega) ?_
                            refine V_dup hx dX4_say_140 rfl ?_
                            refine V_iconst hx dX4_say_141 ?_
                            refine V_iload_n hx dX4_say_142 2 rfl ?_
                            refine V_iast hx (by decide) (by decide) (by decide) 29 RW_t (RW g md 0 Q 0 R ++ [(q, .inl (g.2.1, 4, .inl (upd (fun _ => iZ 0) 0 (iZ kd))))]) RW_ts dX4_say_143 ?_
                            refine V_dup hx dX4_say_144 rfl ?_
                            refine V_iconst hx dX4_say_145 ?_
                            refine V_iload_n hx dX4_say_146 3 rfl ?_
                            refine V_iast hx (by decide) (by decide) (by decide) 29 RW_t (RW g md 0 Q 0 R ++ [(q, .inl (g.2.1, 4, .inl (upd (upd (fun _ => iZ 0) 0 (iZ kd)) 1 (iZ d))))]) RW_ts dX4_say_147 ?_
                            refine V_dup hx dX4_say_148 rfl ?_
                            refine V_iconst hx dX4_say_149 ?_
                            refine V_iload hx dX4_say_150 4 rfl ?_
                            refine V_iast hx (by decide) (by decide) (by decide) 29 RW_t (RW g md 0 Q 0 R ++ [(q, .inl (g.2.1, 4, .inl (upd (upd (upd (fun _ => iZ 0) 0 (iZ kd)) 1 (iZ d)) 2 (iZ e))))]) RW_ts dX4_say_152 ?_
                            refine V_dup hx dX4_say_153 rfl ?_
                            refine V_iconst hx dX4_say_154 ?_
                            refine V_iload hx dX4_say_155 5 rfl ?_
                            refine V_iast hx (by decide) (by decide) (by decide) 29 RW_t (RW g md 0 Q 0 R ++ [(q, .inl (g.2.1, 4, .inl (upd (upd (upd (upd (fun _ => iZ 0) 0 (iZ kd)) 1 (iZ d)) 2 (iZ e)) 3 (iZ b))))]) RW_ts dX4_say_157 ?_
                            refine V_astore hx dX4_say_158 [(6, .ref (q)), (0, .ref (md 0)), (1, .int (iZ (c))), (2, .int (iZ (kd))), (3, .int (iZ (d))), (4, .int (iZ (e))), (5, .int (iZ (b)))] (by decide) rfl ?_
                            refine V_aload hx dX4_say_160 0 rfl ?_
                            refine V_iconst hx dX4_say_162 ?_
                            refine V_aload_n hx dX4_say_163 1 rfl ?_
                            refine gf_X4_10 hx 0 (apl RW_o) rfl dX4_say_164 ?_
                            refine gf_X4_69 hx (iy 0 0) (apl (RW_s hk)) rfl dX4_say_167 ?_
                            refine V_iconst hx dX4_say_170 ?_
                            refine V_bipush hx dX4_say_171 rfl ?_
                            refine V_iload_n hx dX4_say_173 2 rfl ?_
                            refine V_imul hx dX4_say_174 ?_
                            refine V_aload_n hx dX4_say_175 1 rfl ?_
                            refine gf_X4_10 hx 0 (apl RW_o) rfl dX4_say_176 ?_
                            refine gf_X4_66 hx (iy 0 0) (apl (RW_s hk)) rfl dX4_say_179 ?_
                            refine V_iload_n hx dX4_say_182 2 rfl ?_
                            refine V_iald hx (by omega) (by omega) (by decide) (iy 0 4) (apl (RW_a hk 4 (by decide) (n := 6) rfl)) (v := R 4 c.toNat) rfl dX4_say_183 ?_
                            refine V_iadd hx dX4_say_184 ?_
                            refine V_imul hx dX4_say_185 ?_
                            refine V_iconst hx dX4_say_186 ?_
                            refine V_copy hx qm715 29 (iy 0 3) RW_t (apl (RW_a hk 3 (by decide) (n := 192) rfl)) (by omega) (by omega) (by omega) (by omega) (by omega) (by decide) (by decide) (Nat.le_of_ble_eq_true rfl) (Nat.le_of_ble_eq_true rfl) (RW g md 0 Q 0 (pt (pt (pt (pt R 3 (32 * c.toNat + 4 * (T (7 + 8 * c.toNat) 0).toNat) kd) 3 (32 * c.toNat + 4 * (T (7 + 8 * c.toNat) 0).toNat + 1) d) 3 (32 * c.toNat + 4 * (T (7 + 8 * c.toNat) 0).toNat + 2) e) 3 (32 * c.toNat + 4 * (T (7 + 8 * c.toNat) 0).toNat + 3) b) ++ [(q, .inl (g.2.1, 4, .inl (upd (upd (upd (upd (fun _ => iZ 0) 0 (iZ kd)) 1 (iZ d)) 2 (iZ e)) 3 (iZ b))))]) (by rw [show (4 * ((8 * c) + R 4 c.toNat) : Int).toNat = 32 * c.toNat + 4 * (T (7 + 8 * c.toNat) 0).toNat by omega]; exact RW_cp4 hk) dX4_say_187 ?_
                            refine V_perm (ws' := RW g md 0 Q 0 (pt (pt (pt (pt R 3 (32 * c.toNat + 4 * (T (7 + 8 * c.toNat) 0).toNat) kd) 3 (32 * c.toNat + 4 * (T (7 + 8 * c.toNat) 0).toNat + 1) d) 3 (32 * c.toNat + 4 * (T (7 + 8 * c.toNat) 0).toNat + 2) e) 3 (32 * c.toNat + 4 * (T (7 + 8 * c.toNat) 0).toNat + 3) b)) [(q, .inl (g.2.1, 4, .inl (upd (upd (upd (upd (fun _ => iZ 0) 0 (iZ kd)) 1 (iZ d)) 2 (iZ e)) 3 (iZ b))))] (List.Perm.refl _) ?_
                            refine V_aload_n hx dX4_say_190 1 rfl ?_
                            refine gf_X4_10 hx 0 RW_o rfl dX4_say_191 ?_
                            refine gf_X4_66 hx (iy 0 0) (RW_s hk) rfl dX4_say_194 ?_
                            refine V_iload_n hx dX4_say_197 2 rfl ?_
                            refine V_dup2 hx dX4_say_198 rfl rfl ?_
                            refine V_iald hx (by omega) (by omega) (by decide) (iy 0 4) (RW_a hk 4 (by decide) (n := 6) rfl) (v := R 4 c.toNat) (by show iZ _ = iZ _; rw [pt_ne _ _ (Or.inl (by omega)), pt_ne _ _ (Or.inl (by omega)), pt_ne _ _ (Or.inl (by omega)), pt_ne _ _ (Or.inl (by omega))] <;> rfl) dX4_say_199 ?_
                            refine V_iconst hx dX4_say_200 ?_
                            refine V_iadd hx dX4_say_201 ?_
                            refine V_iast hx (by omega) (by omega) (by decide) (iy 0 4) (RW_a hk 4 (by decide) (n := 6) rfl) (RW g md 0 Q 0 (pt (pt (pt (pt (pt R (3) (32 * c.toNat + 4 * (T (7 + 8 * c.toNat) 0).toNat) (kd)) (3) (32 * c.toNat + 4 * (T (7 + 8 * c.toNat) 0).toNat + 1) (d)) (3) (32 * c.toNat + 4 * (T (7 + 8 * c.toNat) 0).toNat + 2) (e)) (3) (32 * c.toNat + 4 * (T (7 + 8 * c.toNat) 0).toNat + 3) (b)) (4) (c.toNat) ((R 4 c.toNat) + 1))) (RW_sa (by decide) rfl) dX4_say_202 ?_
                            refine V_aload_n hx dX4_say_203 1 rfl ?_
                            refine gf_X4_10 hx 0 RW_o rfl dX4_say_204 ?_
                            refine gf_X4_66 hx (iy 0 0) (RW_s hk) rfl dX4_say_207 ?_
                            refine V_iload_n hx dX4_say_210 2 rfl ?_
                            refine V_iald hx (by omega) (by omega) (by decide) (iy 0 4) (RW_a hk 4 (by decide) (n := 6) rfl) (v := (R 4 c.toNat) + 1) (by show iZ _ = iZ _; rw [pt_at] <;> rfl) dX4_say_211 ?_
                            exact hE _ _ _ _ dX4_say_212 rfl (Or.inl ⟨⟨by unfold syP; omega, by unfold fkP; omega, by unfold skP; omega⟩, by omega, _, rel_say hR (by omega) (Int.toNat_of_nonneg (by omega)).symm (by omega) hs8 hkd hd he hb, rfl⟩)
                          · refine V_aload_n hx dX4_say_131 0 rfl ?_
                            refine V_iconst hx dX4_say_132 ?_
                            refine V_calli hx (z_no l R (n := 3)) cw_X4_33 (RMx1 (by decide) (by decide) (by omega) (by omega)) rfl 0 RW_o rfl rfl (Nat.le_of_ble_eq_true rfl) dX4_say_133 0 0 rfl rfl (fun z25 ws25 e25 => ?_)
                            obtain ⟨rfl, rfl⟩ := e25
                            refine V_widen (k' := (rmX 2 1).cells) (n' := (rmX 2 1).slots) (Nat.le_of_ble_eq_true rfl) (Nat.le_of_ble_eq_true rfl) ?_
                            exact hE _ _ _ _ dX4_say_136 rfl (Or.inr (Or.inr (Or.inr ⟨by unfold syP; omega, by unfold fkP; omega, fun h9 => by unfold skP at h9; omega, rfl⟩)))
                    · refine V_aload_n hx dX4_say_86 0 rfl ?_
                      refine V_iconst hx dX4_say_87 ?_
                      refine V_calli hx (z_no l R (n := 2)) cw_X4_33 (RMx1 (by decide) (by decide) (by omega) (by omega)) rfl 0 RW_o rfl rfl (Nat.le_of_ble_eq_true rfl) dX4_say_88 0 0 rfl rfl (fun z26 ws26 e26 => ?_)
                      obtain ⟨rfl, rfl⟩ := e26
                      refine V_widen (k' := (rmX 2 1).cells) (n' := (rmX 2 1).slots) (Nat.le_of_ble_eq_true rfl) (Nat.le_of_ble_eq_true rfl) ?_
                      exact hE _ _ _ _ dX4_say_91 rfl (Or.inr (Or.inr (Or.inl ⟨by unfold syP; omega, fun h9 => by unfold fkP at h9; omega, rfl⟩)))
        · refine V_aload_n hx dX4_say_39 0 rfl ?_
          refine V_iconst hx dX4_say_40 ?_
          refine V_calli hx (z_no l R (n := 1)) cw_X4_33 (RMx1 (by decide) (by decide) (by omega) (by omega)) rfl 0 RW_o rfl rfl (Nat.le_of_ble_eq_true rfl) dX4_say_41 0 0 rfl rfl (fun z27 ws27 e27 => ?_)
          obtain ⟨rfl, rfl⟩ := e27
          refine V_widen (k' := (rmX 2 1).cells) (n' := (rmX 2 1).slots) (Nat.le_of_ble_eq_true rfl) (Nat.le_of_ble_eq_true rfl) ?_
          exact hE _ _ _ _ dX4_say_44 rfl (Or.inr (Or.inl ⟨fun h9 => by unfold syP at h9; omega, rfl⟩))
