/-! the law: its loop and its start -/
theorem pm5 {A B C : va_W} : ((A ++ (C ++ B)) ++ []).Perm ((A ++ B) ++ C) := by
  rw [List.append_nil, List.append_assoc]
  exact List.Perm.append_left A List.perm_append_comm
theorem V_newl {x : CT} {l : Launch} {R : Room} {g : GT} {nL : Nat} {cc : ByteArray} {k n : Nat} {ws : va_W} {pc : Nat} {lv : List (Nat × Value)} {st : List Value} {cJ : ClassId} {b0 L : Nat} {xs : Nat → Int32} (hx : FX x l R g nL cc RL) (hz : FL2 x cJ b0 L xs) (hk : k + 1 ≤ R.cells) (hn : n + 1 ≤ R.slots) (hd : decode cc pc = .ok (.newarray .long, 2)) (kk : ∀ q : Nat, V x (k + 1) (n + 1) (ws ++ [(q, LJ cJ (fun _ => 0))]) (pc + 2) lv (.ref q :: st)) : V x k n ws pc lv (.int (iZ 1) :: st) := by
  obtain ⟨p, l', e, R', s, m, args, below, meth, c, g', nL', A, H0, Q⟩ := x
  obtain ⟨rfl, rfl, rfl, rfl, hx, hb, hml, hown, hts, hK, hlk, hA⟩ := hx
  obtain ⟨-, hZ, hKJ, hN, -⟩ := hz
  intro H locs ls hP hD hS h
  refine va_newa (D := g'.1) (atype := .long) (ty := .long) (N' := 1) (a0 := (1, .inr (.inl (fun _ => 0)))) hx hb (hts args _ q874) rfl hK hP hD hS hA (fun cA => rfl) (by decide) (by decide) (by decide) hk hn hd (fun q cA H1 hK1 hP1 hD1 hS1 => ?_)
  have h1 : s.vm.findClass ("[" ++ FieldType.long.toString) = some cJ := (hKJ.2 2 _ rfl).2
  have h2 : s.vm.findClass ("[" ++ FieldType.long.toString) = some cA := (hK1.2 2 _ rfl).2
  have e9 : cA = cJ := Option.some.inj (h2.symm.trans h1)
  subst e9
  exact kk q H1 locs ls hP1 hD1 hS1 h
set_option maxHeartbeats 4000000 in
set_option maxRecDepth 100000 in
theorem law_loop {x0 : CT} {l : Launch} {g : GT} {cJ : ClassId} {b L : Nat} {xs : Nat → Int32} (hX : ∀ d, FX (XD x0 d) l room_1 g 9 cL_law RL) (hZ : ∀ d, FL2 (XD x0 d) cJ b L xs) (hst : l.stackTraces = false) (hL : L ≤ 3072) {ad md : Nat → Nat} {o : Nat} (hE : ∀ (d : Drawn) (k n : Nat) (lv : List (Nat × Value)) (ws : va_W), DRN x0 d → k ≤ 612619 → n ≤ 7258246 → V (XD x0 d) k n ws 1294 lv []) : ∀ (n9 i : Nat) (d : Drawn) (ws : va_W), L + 6 < i + n9 → i ≤ L + 6 → DRN x0 d → INV g cJ ad md o i ws → V (XD x0 d) (200 + 2 * i) (2000 + 10 * i) ws 23 [(4, .int (iZ (i : Int))), (3, .ref o), (2, .ref (md 0)), (1, .ref (ad 0)), (0, .ref b)] [] := by
  intro n9
  induction n9 with
  | zero => intro i d ws h1 h2 _ _; exact absurd h1 (by omega)
  | succ n9 ih =>
    intro i d ws h1 h2 hd hI
    have hx := hX d
    have hz := hZ d
    refine V_iload hx dL_law_23 0 rfl ?_
    refine V_aload_n hx dL_law_25 4 rfl ?_
    refine V_slen hx hz dL_law_26 ?_
    refine V_bipush hx dL_law_27 rfl ?_
    refine V_isub hx dL_law_29 ?_
    refine V_icmp_gt hx dL_law_30 1294 (by decide) ⟨by omega, by omega⟩ ⟨by omega, by omega⟩ (fun _ => hE d _ _ _ _ hd (by omega) (by omega)) (fun h30 => ?_)
    have hi : i + 6 ≤ L := by omega
    have hB : ∀ (d : Drawn) (ws : va_W), DRN x0 d → INV g cJ ad md o (i + 6) ws → V (XD x0 d) (200 + 2 * i + 8) (2000 + 10 * i + 48) ws 1288 [(4, .int (iZ (i : Int))), (3, .ref o), (2, .ref (md 0)), (1, .ref (ad 0)), (0, .ref b)] [] := by
      intro d ws hd hI
      have hx := hX d
      refine V_iinc hx (a := (i : Int)) dL_law_1288 0 rfl [(4, .int (iZ ((i : Int) + 6))), (3, .ref o), (2, .ref (md 0)), (1, .ref (ad 0)), (0, .ref b)] (by decide) rfl ?_
      refine V_goto hx dL_law_1291 23 (by decide) ?_
      refine V_widen (k' := 200 + 2 * (i + 6)) (n' := 2000 + 10 * (i + 6)) (by omega) (by omega) ?_
      exact ih (i + 6) d ws (by omega) (by omega) hd hI
    refine V_aload_n hx dL_law_33 4 rfl ?_
    refine V_iload hx dL_law_34 0 rfl ?_
    refine V_sld hx hz i (by omega) (by omega) (by omega) (by omega) dL_law_36 ?_
    refine V_bipush hx dL_law_37 rfl ?_
    refine V_iand hx dL_law_39 ?_
    obtain ⟨k9, ek9⟩ : ∃ k9 : Int, k9 = (iZ (xs i).toInt &&& iZ 31).toInt := ⟨_, rfl⟩
    have r9 : rg k9 := by rw [ek9]; exact rg_toInt _
    rw [← ek9]
    by_cases e0 : k9 = 0
    · refine V_tabIn hx dL_law_40 r9 (by omega) (by omega) (off := 96) (by rw [e0]; rfl) 136 (by decide) ?_
      obtain ⟨P, Q, T, R, h, f, hw, hr, hP, hQ, rfl⟩ := hI
      exact lc_till hX hZ hst hi hL hw hr hP hQ hd hB
    by_cases e1 : k9 = 1
    · refine V_tabIn hx dL_law_40 r9 (by omega) (by omega) (off := 152) (by rw [e1]; rfl) 192 (by decide) ?_
      obtain ⟨P, Q, T, R, h, f, hw, hr, hP, hQ, rfl⟩ := hI
      exact lc_pay hX hZ hst hi hL hw hr hP hQ hd hB
    by_cases e2 : k9 = 2
    · refine V_tabIn hx dL_law_40 r9 (by omega) (by omega) (off := 220) (by rw [e2]; rfl) 260 (by decide) ?_
      obtain ⟨P, Q, T, R, h, f, hw, hr, hP, hQ, rfl⟩ := hI
      exact lc_clerk hX hZ hst hi hL hw hr hP hQ hd hB
    by_cases e3 : k9 = 3
    · refine V_tabIn hx dL_law_40 r9 (by omega) (by omega) (off := 264) (by rw [e3]; rfl) 304 (by decide) ?_
      obtain ⟨P, Q, T, R, h, f, hw, hr, hP, hQ, rfl⟩ := hI
      exact lc_say hX hZ hst hi hL hw hr hP hQ hd hB
    by_cases e4 : k9 = 4
    · refine V_tabIn hx dL_law_40 r9 (by omega) (by omega) (off := 368) (by rw [e4]; rfl) 408 (by decide) ?_
      obtain ⟨P, Q, T, R, h, f, hw, hr, hP, hQ, rfl⟩ := hI
      exact lc_turn hX hZ hst hi hL hw hr hP hQ hd hB
    by_cases e5 : k9 = 5
    · refine V_tabIn hx dL_law_40 r9 (by omega) (by omega) (off := 424) (by rw [e5]; rfl) 464 (by decide) ?_
      obtain ⟨P, Q, T, R, h, f, hw, hr, hP, hQ, rfl⟩ := hI
      exact lc_drop hX hZ hst hi hL hw hr hP hQ hd hB
    by_cases e6 : k9 = 6
    · refine V_tabIn hx dL_law_40 r9 (by omega) (by omega) (off := 480) (by rw [e6]; rfl) 520 (by decide) ?_
      obtain ⟨P, Q, T, R, h, f, hw, hr, hP, hQ, rfl⟩ := hI
      exact lc_pass hX hZ hst hi hL hw hr hP hQ hd hB
    by_cases e7 : k9 = 7
    · refine V_tabIn hx dL_law_40 r9 (by omega) (by omega) (off := 536) (by rw [e7]; rfl) 576 (by decide) ?_
      obtain ⟨P, Q, T, R, h, f, hw, hr, hP, hQ, rfl⟩ := hI
      exact lc_drawer hX hZ hst hi hL hw hr hP hQ hd hB
    by_cases e8 : k9 = 8
    · refine V_tabIn hx dL_law_40 r9 (by omega) (by omega) (off := 604) (by rw [e8]; rfl) 644 (by decide) ?_
      obtain ⟨P, Q, T, R, h, f, hw, hr, hP, hQ, rfl⟩ := hI
      exact lc_told hX hZ hst hi hL hw hr hP hQ hd hB
    by_cases e9 : k9 = 9
    · refine V_tabIn hx dL_law_40 r9 (by omega) (by omega) (off := 672) (by rw [e9]; rfl) 712 (by decide) ?_
      obtain ⟨P, Q, T, R, h, f, hw, hr, hP, hQ, rfl⟩ := hI
      exact lc_slip hX hZ hst hi hL hw hr hP hQ hd hB
    by_cases e10 : k9 = 10
    · refine V_tabIn hx dL_law_40 r9 (by omega) (by omega) (off := 752) (by rw [e10]; rfl) 792 (by decide) ?_
      obtain ⟨P, Q, T, R, h, f, hw, hr, hP, hQ, rfl⟩ := hI
      exact lc_step hX hZ hst hi hL hw hr hP hQ hd hB
    by_cases e11 : k9 = 11
    · refine V_tabIn hx dL_law_40 r9 (by omega) (by omega) (off := 832) (by rw [e11]; rfl) 872 (by decide) ?_
      obtain ⟨P, Q, T, R, h, f, hw, hr, hP, hQ, rfl⟩ := hI
      exact lc_closing hX hZ hst hi hL hw hr hP hQ hd hB
    by_cases e12 : k9 = 12
    · refine V_tabIn hx dL_law_40 r9 (by omega) (by omega) (off := 900) (by rw [e12]; rfl) 940 (by decide) ?_
      obtain ⟨P, Q, T, R, h, f, hw, hr, hP, hQ, rfl⟩ := hI
      exact lc_clash hX hZ hst hi hL hw hr hP hQ hd hB
    by_cases e13 : k9 = 13
    · refine V_tabIn hx dL_law_40 r9 (by omega) (by omega) (off := 975) (by rw [e13]; rfl) 1015 (by decide) ?_
      obtain ⟨P, Q, T, R, h, f, hw, hr, hP, hQ, rfl⟩ := hI
      exact lc_count hX hZ hst hi hL hw hr hP hQ hd hB
    by_cases e14 : k9 = 14
    · refine V_tabIn hx dL_law_40 r9 (by omega) (by omega) (off := 1031) (by rw [e14]; rfl) 1071 (by decide) ?_
      obtain ⟨P, Q, T, R, h, f, hw, hr, hP, hQ, rfl⟩ := hI
      exact lc_alone hX hZ hst hi hL hw hr hP hQ hd hB
    by_cases e15 : k9 = 15
    · refine V_tabIn hx dL_law_40 r9 (by omega) (by omega) (off := 1099) (by rw [e15]; rfl) 1139 (by decide) ?_
      obtain ⟨P, Q, T, R, h, f, hw, hr, hP, hQ, rfl⟩ := hI
      exact lc_until hX hZ hst hi hL hw hr hP hQ hd hB
    by_cases e16 : k9 = 16
    · refine V_tabIn hx dL_law_40 r9 (by omega) (by omega) (off := 1112) (by rw [e16]; rfl) 1152 (by decide) ?_
      obtain ⟨P, Q, T, R, h, f, hw, hr, hP, hQ, rfl⟩ := hI
      exact lc_foresee hX hZ hst hi hL hw hr hP hQ hd hB
    by_cases e17 : k9 = 17
    · refine V_tabIn hx dL_law_40 r9 (by omega) (by omega) (off := 1180) (by rw [e17]; rfl) 1220 (by decide) ?_
      obtain ⟨P, Q, T, R, h, f, hw, hr, hP, hQ, rfl⟩ := hI
      exact lc_advise hX hZ hst hi hL hw hr hP hQ hd hB
    by_cases e18 : k9 = 18
    · refine V_tabIn hx dL_law_40 r9 (by omega) (by omega) (off := 1193) (by rw [e18]; rfl) 1233 (by decide) ?_
      obtain ⟨P, Q, T, R, h, f, hw, hr, hP, hQ, rfl⟩ := hI
      exact lc_mean hX hZ hst hi hL hw hr hP hQ hd hB
    by_cases e19 : k9 = 19
    · refine V_tabIn hx dL_law_40 r9 (by omega) (by omega) (off := 1234) (by rw [e19]; rfl) 1274 (by decide) ?_
      obtain ⟨P, Q, T, R, h, f, hw, hr, hP, hQ, rfl⟩ := hI
      exact lc_digest hX hZ hst hi hL hw hr hP hQ hd hB
    refine V_tabOut hx dL_law_40 r9 (by omega) 1288 (by decide) ?_
    refine V_widen (k' := 200 + 2 * i + 8) (n' := 2000 + 10 * i + 48) (by omega) (by omega) ?_
    obtain ⟨P, Q, T, R, h, f, hw, hr, hP, hQ, rfl⟩ := hI
    have hii : ((i + 6 : Nat) : Int) = i + 6 := by omega
    exact hB d _ hd ⟨P, Q, T, R, h, f, by rw [hii]; exact wf_mono hw (by omega), hr, hP, hQ, rfl⟩
