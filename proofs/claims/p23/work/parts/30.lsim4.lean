/-! the law's till: counted, its making, another clerk -/
theorem ci_X4_40 : CID RX4 40 yX3_init RL cX3_init 1 0 := ⟨q590, q591, rfl, q592, q10, ⟨by decide +kernel, by decide +kernel⟩, by decide +kernel⟩
section VNO
variable {x : CT} {l : Launch} {R : Room} {g : GT} {nL : Nat} {cc : ByteArray} {own : String} {k n : Nat} {ws : va_W} {pc : Nat} {lv : List (Nat × Value)} {st : List Value}
theorem M_new {M : MM} (hx : FX x l R g nL cc own) (hM : HM M ws) (r : Nat) {C : String} {T : u_T} {N ci index : Nat} (hc : vwCl[ci]? = some (C, T, N)) (hin : ∀ w ∈ u_ws C T N, w ∈ tbl) (ty0 : Nat → FieldType) (hty : ∀ k, k < N → parseFieldDescriptor (T k).2.2.1 = some (ty0 k)) (h1 : Cond.classLink own index C ∈ tbl) (h2 : Cond.instantiable C N ∈ tbl) (h3 : Cond.initialized C ∈ tbl) (fs : List Value) (hfs : ∀ j, j < N → defaultValue (ty0 j) = vp_V fs j) (hk : k + 1 ≤ R.cells) (hn : n + N ≤ R.slots) (hd : decode cc pc = .ok (.new index, 3)) (kk : ∀ (q : Nat) (ws1 : va_W) (M1 : MM), HM M1 ws1 → M1 q = some (r, .inr (ci, fs)) → M q = none → (∀ b, b ≠ q → M1 b = M b) → KP ALL M M1 → V x (k + 1) (n + N) ws1 (pc + 3) lv (.ref q :: st)) : V x k n ws pc lv st :=
  V_new hx hc hin ty0 hty h1 h2 h3 fs hfs hk hn hd (fun q => V_nd (fun hnd => by
    obtain ⟨M1, a1, a2, a3, a4, a5⟩ := hM.push hnd r
    exact kk q _ M1 a1 a2 a3 a4 a5))
end VNO
def CNU (u : Nat → Int32) (T : TS) (i : Nat) : Prop := ∀ k, k < 7 → u k = iZ (if k = 0 then T 0 0 else if k = 1 then T 0 1 else if k = 2 then sm i (dnF T) else if k = 3 then T 0 2 else if k = 4 then sm i (ltF T) else if k = 5 then sm (nd T) (T 1) else sm i (loF T))
theorem cnu_end {u : Nat → Int32} {T : TS} {w : Int} (h : CNU u T (nc T)) (h0 : 0 ≤ w) (h9 : w ≤ 6) : u w.toNat = iZ (cnV T w) := by
  obtain ⟨k, hk⟩ := Int.eq_ofNat_of_zero_le h0
  subst hk
  have e := h k (by omega)
  show u k = _
  rw [e]
  unfold cnV
  rcases (show k = 0 ∨ k = 1 ∨ k = 2 ∨ k = 3 ∨ k = 4 ∨ k = 5 ∨ k = 6 by omega) with rfl | rfl | rfl | rfl | rfl | rfl | rfl <;> rfl
set_option maxHeartbeats 4000000 in
set_option maxRecDepth 100000 in
theorem z_counted (l : Launch) {g : GT} {ws : va_W} {M : MM} (hM : HM M ws) {sp : Nat} {cl : Nat → Nat} {T : TS} {B : Int} (hS : SIM g M sp cl T) (hw : WF T B) (hB : B < 2147483000) {wh : Int} (hw0 : 0 ≤ wh) (hw9 : wh ≤ 6) : MI l yX4_counted cX4_counted 7 .int (rmA 1 1 7) g [.ref (sp), .int (iZ (wh))] ws (fun z ws9 => z = cnV T wh ∧ ∃ M9, HM M9 ws9 ∧ KP (fun r => r ≠ 900) M M9) := by
  refine MI.ofk (own := RX4) (by decide) rfl (Nat.le_of_ble_eq_true rfl) (fun x hx hE => ?_)
  refine V_lv (lv' := [(0, .ref (sp)), (1, .int (iZ (wh)))]) rfl ?_
  obtain ⟨hT, ⟨tn1, tn8⟩, ⟨hc0, hc9⟩, ⟨hz0, hz9⟩, ham1, hck9⟩ := id hw
  have hni := nc_i hw
  have h6 : nc T ≤ 6 := by omega
  have hnd : ((nd T : Nat) : Int) = T 0 0 := Int.toNat_of_nonneg (by omega)
  obtain ⟨⟨am, sl, ck, co, h0⟩, hCK⟩ := id hS
  obtain ⟨hsp, ⟨va, ham, hva⟩, ⟨vs, hsv, hvs⟩, ⟨fk, hck, hfk⟩, hcl⟩ := id h0
  obtain ⟨fc, hco, -⟩ := id hcl
  have hk : KP (fun r => r ≠ 900) M M := KP.rf
  refine V_bipush hx dX4_counted_0 rfl ?_
  refine M_newa hx hM 900 (7) rfl (by omega) (by dsimp only [rmA]; omega) (by dsimp only [rmA]; omega) dX4_counted_2 (fun q1 ws1 M1 hM1 f1 fr1 hn1 kp1 => ?_)
  replace hsp := kp1 _ _ _ hsp trivial
  replace ham := kp1 _ _ _ ham trivial
  replace hck := kp1 _ _ _ hck trivial
  replace hco := kp1 _ _ _ hco trivial
  replace hk := hk.tr (kp1.of (fun r (h : r ≠ 900) => by first | trivial | (show _ ≠ _; omega)))
  replace hS := sim_kp hS h6 kp1 (fun r hr => by first | trivial | (show _ ≠ _; omega))
  have hq1 := f1
  refine V_dup hx dX4_counted_4 rfl ?_
  refine V_iconst hx dX4_counted_5 ?_
  refine V_aload_n hx dX4_counted_6 0 rfl ?_
  obtain ⟨i9, hi9⟩ := hM1.at hsp
  refine gf_X4_21 hx i9 hi9 rfl dX4_counted_7 ?_
  obtain ⟨i9, hi9⟩ := hM1.at ham
  refine V_alenK hx (t0 := 0) i9 hi9 rfl (v := T 0 0) hnd dX4_counted_10 ?_
  refine M_iast hx hM1 (by omega) (by omega) (by omega) hq1 dX4_counted_11 (fun ws2 M2 hM2 f2 hn2 kp2 => ?_)
  replace hsp := kp2 _ _ _ hsp (by show _ ≠ _; omega)
  replace ham := kp2 _ _ _ ham (by show _ ≠ _; omega)
  replace hck := kp2 _ _ _ hck (by show _ ≠ _; omega)
  replace hco := kp2 _ _ _ hco (by show _ ≠ _; omega)
  replace hk := hk.tr (kp2.of (fun r (h : r ≠ 900) => by first | trivial | (show _ ≠ _; omega)))
  replace hS := sim_kp hS h6 kp2 (fun r hr => by first | trivial | (show _ ≠ _; omega))
  replace hq1 := f2
  refine V_dup hx dX4_counted_12 rfl ?_
  refine V_iconst hx dX4_counted_13 ?_
  refine V_aload_n hx dX4_counted_14 0 rfl ?_
  obtain ⟨i9, hi9⟩ := hM2.at hsp
  refine gf_X4_9 hx i9 hi9 rfl dX4_counted_15 ?_
  obtain ⟨i9, hi9⟩ := hM2.at hck
  refine V_alenK hx (t0 := 3) i9 hi9 rfl (v := T 0 1) hni dX4_counted_18 ?_
  refine M_iast hx hM2 (by omega) (by omega) (by omega) hq1 dX4_counted_19 (fun ws3 M3 hM3 f3 hn3 kp3 => ?_)
  replace hsp := kp3 _ _ _ hsp (by show _ ≠ _; omega)
  replace ham := kp3 _ _ _ ham (by show _ ≠ _; omega)
  replace hck := kp3 _ _ _ hck (by show _ ≠ _; omega)
  replace hco := kp3 _ _ _ hco (by show _ ≠ _; omega)
  replace hk := hk.tr (kp3.of (fun r (h : r ≠ 900) => by first | trivial | (show _ ≠ _; omega)))
  replace hS := sim_kp hS h6 kp3 (fun r hr => by first | trivial | (show _ ≠ _; omega))
  replace hq1 := f3
  refine V_dup hx dX4_counted_20 rfl ?_
  refine V_iconst hx dX4_counted_21 ?_
  refine V_iconst hx dX4_counted_22 ?_
  refine M_iast hx hM3 (by omega) (by omega) (by omega) hq1 dX4_counted_23 (fun ws4 M4 hM4 f4 hn4 kp4 => ?_)
  replace hsp := kp4 _ _ _ hsp (by show _ ≠ _; omega)
  replace ham := kp4 _ _ _ ham (by show _ ≠ _; omega)
  replace hck := kp4 _ _ _ hck (by show _ ≠ _; omega)
  replace hco := kp4 _ _ _ hco (by show _ ≠ _; omega)
  replace hk := hk.tr (kp4.of (fun r (h : r ≠ 900) => by first | trivial | (show _ ≠ _; omega)))
  replace hS := sim_kp hS h6 kp4 (fun r hr => by first | trivial | (show _ ≠ _; omega))
  replace hq1 := f4
  refine V_dup hx dX4_counted_24 rfl ?_
  refine V_iconst hx dX4_counted_25 ?_
  refine V_aload_n hx dX4_counted_26 0 rfl ?_
  obtain ⟨i9, hi9⟩ := hM4.at hsp
  refine gf_X4_17 hx i9 hi9 rfl dX4_counted_27 ?_
  obtain ⟨i9, hi9⟩ := hM4.at hco
  refine V_alenK hx (t0 := 2) i9 hi9 rfl (v := T 0 2) (Int.toNat_of_nonneg hz0) dX4_counted_30 ?_
  refine M_iast hx hM4 (by omega) (by omega) (by omega) hq1 dX4_counted_31 (fun ws5 M5 hM5 f5 hn5 kp5 => ?_)
  replace hsp := kp5 _ _ _ hsp (by show _ ≠ _; omega)
  replace ham := kp5 _ _ _ ham (by show _ ≠ _; omega)
  replace hck := kp5 _ _ _ hck (by show _ ≠ _; omega)
  replace hco := kp5 _ _ _ hco (by show _ ≠ _; omega)
  replace hk := hk.tr (kp5.of (fun r (h : r ≠ 900) => by first | trivial | (show _ ≠ _; omega)))
  replace hS := sim_kp hS h6 kp5 (fun r hr => by first | trivial | (show _ ≠ _; omega))
  replace hq1 := f5
  refine V_dup hx dX4_counted_32 rfl ?_
  refine V_iconst hx dX4_counted_33 ?_
  refine V_iconst hx dX4_counted_34 ?_
  refine M_iast hx hM5 (by omega) (by omega) (by omega) hq1 dX4_counted_35 (fun ws6 M6 hM6 f6 hn6 kp6 => ?_)
  replace hsp := kp6 _ _ _ hsp (by show _ ≠ _; omega)
  replace ham := kp6 _ _ _ ham (by show _ ≠ _; omega)
  replace hck := kp6 _ _ _ hck (by show _ ≠ _; omega)
  replace hco := kp6 _ _ _ hco (by show _ ≠ _; omega)
  replace hk := hk.tr (kp6.of (fun r (h : r ≠ 900) => by first | trivial | (show _ ≠ _; omega)))
  replace hS := sim_kp hS h6 kp6 (fun r hr => by first | trivial | (show _ ≠ _; omega))
  replace hq1 := f6
  refine V_dup hx dX4_counted_36 rfl ?_
  refine V_iconst hx dX4_counted_37 ?_
  refine V_aload_n hx dX4_counted_38 0 rfl ?_
  obtain ⟨i9, hi9⟩ := hM6.at hsp
  refine V_calli hx (z_sum l hM6 hsp ham hva (by omega)) cw_X4_41 (RMa (by dsimp only [rmA, rmN]; omega) (by dsimp only [rmA, rmN]; omega) (by dsimp only [rmA, rmN]; omega) (by dsimp only [rmA, rmN]; omega)) rfl i9 hi9 rfl rfl (Nat.le_of_ble_eq_true rfl) dX4_counted_39 _ _ rfl rfl (fun z7 w7 e7 => ?_)
  obtain ⟨rfl, rfl⟩ := e7
  refine M_iast hx hM6 (by omega) (by omega) (by omega) hq1 dX4_counted_42 (fun ws8 M8 hM8 f8 hn8 kp8 => ?_)
  replace hsp := kp8 _ _ _ hsp (by show _ ≠ _; omega)
  replace ham := kp8 _ _ _ ham (by show _ ≠ _; omega)
  replace hck := kp8 _ _ _ hck (by show _ ≠ _; omega)
  replace hco := kp8 _ _ _ hco (by show _ ≠ _; omega)
  replace hk := hk.tr (kp8.of (fun r (h : r ≠ 900) => by first | trivial | (show _ ≠ _; omega)))
  replace hS := sim_kp hS h6 kp8 (fun r hr => by first | trivial | (show _ ≠ _; omega))
  replace hq1 := f8
  refine V_dup hx dX4_counted_43 rfl ?_
  refine V_bipush hx dX4_counted_44 rfl ?_
  refine V_iconst hx dX4_counted_46 ?_
  refine M_iast hx hM8 (by omega) (by omega) (by omega) hq1 dX4_counted_47 (fun ws9 M9 hM9 f9 hn9 kp9 => ?_)
  replace hsp := kp9 _ _ _ hsp (by show _ ≠ _; omega)
  replace ham := kp9 _ _ _ ham (by show _ ≠ _; omega)
  replace hck := kp9 _ _ _ hck (by show _ ≠ _; omega)
  replace hco := kp9 _ _ _ hco (by show _ ≠ _; omega)
  replace hk := hk.tr (kp9.of (fun r (h : r ≠ 900) => by first | trivial | (show _ ≠ _; omega)))
  replace hS := sim_kp hS h6 kp9 (fun r hr => by first | trivial | (show _ ≠ _; omega))
  replace hq1 := f9
  refine V_astore_n hx dX4_counted_48 [(2, .ref (q1)), (0, .ref (sp)), (1, .int (iZ (wh)))] (by decide) rfl ?_
  refine V_aload_n hx dX4_counted_49 1 rfl ?_
  obtain ⟨i9, hi9⟩ := hM9.at hsp
  refine gf_X4_9 hx i9 hi9 rfl dX4_counted_50 ?_
  refine V_astore_n hx dX4_counted_53 [(3, .ref (ck)), (2, .ref (q1)), (0, .ref (sp)), (1, .int (iZ (wh)))] (by decide) rfl ?_
  refine V_aload_n hx dX4_counted_54 0 rfl ?_
  obtain ⟨i9, hi9⟩ := hM9.at hck
  refine V_alenK hx (t0 := 3) i9 hi9 rfl (v := T 0 1) hni dX4_counted_55 ?_
  refine V_istore hx dX4_counted_56 [(4, .int (iZ (T 0 1))), (3, .ref (ck)), (2, .ref (q1)), (0, .ref (sp)), (1, .int (iZ (wh)))] (by decide) rfl ?_
  refine V_iconst hx dX4_counted_58 ?_
  refine V_istore hx dX4_counted_59 [(5, .int (iZ (0))), (4, .int (iZ (T 0 1))), (3, .ref (ck)), (2, .ref (q1)), (0, .ref (sp)), (1, .int (iZ (wh)))] (by decide) rfl ?_
  have hL : ∀ (n i : Nat) (w1 : va_W) (N1 : MM) (u : Nat → Int32), nc T < i + n → i ≤ nc T → HM N1 w1 → SIM g N1 sp cl T → KP (fun r => r ≠ 900) M N1 → N1 q1 = some (900, IA g 7 u) → CNU u T i → N1 ck = some (4, LA g (nc T) fk) → V x 1 7 w1 61 [(5, .int (iZ ((i : Int)))), (4, .int (iZ (T 0 1))), (3, .ref (ck)), (2, .ref (q1)), (0, .ref (sp)), (1, .int (iZ (wh)))] [] := by
    intro n; induction n with
    | zero => intro i w1 N1 u g1 g2; exact absurd g1 (by omega)
    | succ n ih =>
      intro i w1 N1 u g1 g2 hN1 hS hk hq9 hu hck
      refine V_iload hx dX4_counted_61 0 rfl ?_
      refine V_iload hx dX4_counted_63 1 rfl ?_
      refine V_icmp_ge hx dX4_counted_65 139 (by decide) ⟨by omega, by omega⟩ ⟨by omega, by omega⟩ (fun h65 => ?_) (fun h65 => ?_)
      · refine V_aload_n hx dX4_counted_139 3 rfl ?_
        refine V_iload_n hx dX4_counted_140 5 rfl ?_
        obtain ⟨i9, hi9⟩ := hN1.at hq9
        refine V_iald hx (by omega) (by omega) (by omega) i9 hi9 (v := cnV T wh) (cnu_end (by rw [show nc T = i by omega]; exact hu) hw0 hw9) dX4_counted_141 ?_
        exact hE _ _ _ _ _ _ dX4_counted_142 rfl (by dsimp only [rmA]; omega) (by dsimp only [rmA]; omega) ⟨rfl, N1, hN1, hk⟩
      · refine V_aload_n hx dX4_counted_68 2 rfl ?_
        refine V_iload hx dX4_counted_69 0 rfl ?_
        have hic : i < nc T := by omega
        have hi6 : i < 6 := by omega
        have hsb := (hck9 i (by omega)).2.2.2.2.2
        have hl3 := (hck9 i (by omega)).2.2.2.1
        obtain ⟨⟨am2, sl2, ck2, co2, hs0⟩, hCK⟩ := id hS
        obtain ⟨pr, se, ow, _, _, _, _, _, _, _, hca, -⟩ := id (hCK i hic)
        obtain ⟨i9, hi9⟩ := hN1.at hck
        refine V_aaldL hx (by omega) (by omega) (by omega) i9 hi9 (r := (cl i)) (hfk i hic) dX4_counted_71 ?_
        refine V_astore hx dX4_counted_72 [(6, .ref ((cl i))), (5, .int (iZ ((i : Int)))), (4, .int (iZ (T 0 1))), (3, .ref (ck)), (2, .ref (q1)), (0, .ref (sp)), (1, .int (iZ (wh)))] (by decide) rfl ?_
        refine V_aload_n hx dX4_counted_74 4 rfl ?_
        refine V_iconst hx dX4_counted_75 ?_
        refine V_dup2 hx dX4_counted_76 rfl rfl ?_
        obtain ⟨i9, hi9⟩ := hN1.at hq9
        refine V_iald hx (by omega) (by omega) (by omega) i9 hi9 (v := sm i (dnF T)) (hu 2 (by omega)) dX4_counted_77 ?_
        refine V_aload hx dX4_counted_78 0 rfl ?_
        obtain ⟨i9, hi9⟩ := hN1.at hca
        refine gf_X4_49 hx i9 hi9 rfl dX4_counted_80 ?_
        have h91 : V x 1 7 w1 91 [(6, .ref ((cl i))), (5, .int (iZ ((i : Int)))), (4, .int (iZ (T 0 1))), (3, .ref (ck)), (2, .ref (q1)), (0, .ref (sp)), (1, .int (iZ (wh)))] [.int (iZ (dnF T i)), .int (iZ (sm i (dnF T))), .int (iZ (2)), .ref (q1)] := by
          refine V_iadd hx dX4_counted_91 ?_
          refine M_iast hx hN1 (by omega) (by omega) (by omega) hq9 dX4_counted_92 (fun ws10 M10 hM10 f10 hn10 kp10 => ?_)
          replace hck := kp10 _ _ _ hck (by show _ ≠ _; omega)
          replace hca := kp10 _ _ _ hca (by show _ ≠ _; omega)
          replace hk := hk.tr (kp10.of (fun r (h : r ≠ 900) => by first | trivial | (show _ ≠ _; omega)))
          replace hS := sim_kp hS h6 kp10 (fun r hr => by first | trivial | (show _ ≠ _; omega))
          replace hs0 := sm0_kp hs0 kp10 (by first | trivial | (show _ ≠ _; omega)) (by first | trivial | (show _ ≠ _; omega)) (by first | trivial | (show _ ≠ _; omega)) (by first | trivial | (show _ ≠ _; omega))
          replace hCK := (fun c9 hc9 => ck_kp (hCK c9 hc9) kp10 (by first | trivial | (show _ ≠ _; omega)) (by show _ ≠ _; omega) (by show _ ≠ _; omega))
          replace hq9 := f10
          refine V_aload_n hx dX4_counted_93 4 rfl ?_
          refine V_iconst hx dX4_counted_94 ?_
          refine V_dup2 hx dX4_counted_95 rfl rfl ?_
          obtain ⟨i9, hi9⟩ := hM10.at hq9
          refine V_iald hx (by omega) (by omega) (by omega) i9 hi9 (v := sm i (ltF T)) (hu 4 (by omega)) dX4_counted_96 ?_
          refine V_aload hx dX4_counted_97 0 rfl ?_
          obtain ⟨i9, hi9⟩ := hM10.at hca
          refine gf_X4_71 hx i9 hi9 rfl dX4_counted_99 ?_
          refine V_top (b := ltF T i) rfl ?_
          refine V_iadd hx dX4_counted_102 ?_
          refine M_iast hx hM10 (by omega) (by omega) (by omega) hq9 dX4_counted_103 (fun ws11 M11 hM11 f11 hn11 kp11 => ?_)
          replace hck := kp11 _ _ _ hck (by show _ ≠ _; omega)
          replace hca := kp11 _ _ _ hca (by show _ ≠ _; omega)
          replace hk := hk.tr (kp11.of (fun r (h : r ≠ 900) => by first | trivial | (show _ ≠ _; omega)))
          replace hS := sim_kp hS h6 kp11 (fun r hr => by first | trivial | (show _ ≠ _; omega))
          replace hs0 := sm0_kp hs0 kp11 (by first | trivial | (show _ ≠ _; omega)) (by first | trivial | (show _ ≠ _; omega)) (by first | trivial | (show _ ≠ _; omega)) (by first | trivial | (show _ ≠ _; omega))
          replace hCK := (fun c9 hc9 => ck_kp (hCK c9 hc9) kp11 (by first | trivial | (show _ ≠ _; omega)) (by show _ ≠ _; omega) (by show _ ≠ _; omega))
          replace hq9 := f11
          refine V_aload_n hx dX4_counted_104 4 rfl ?_
          refine V_bipush hx dX4_counted_105 rfl ?_
          refine V_dup2 hx dX4_counted_107 rfl rfl ?_
          obtain ⟨i9, hi9⟩ := hM11.at hq9
          refine V_iald hx (by omega) (by omega) (by omega) i9 hi9 (v := sm i (loF T)) (hu 6 (by omega)) dX4_counted_108 ?_
          refine V_aload hx dX4_counted_109 0 rfl ?_
          obtain ⟨i9, hi9⟩ := hM11.at hca
          refine gf_X4_49 hx i9 hi9 rfl dX4_counted_111 ?_
          have h131 : V x 1 7 ws11 131 [(6, .ref ((cl i))), (5, .int (iZ ((i : Int)))), (4, .int (iZ (T 0 1))), (3, .ref (ck)), (2, .ref (q1)), (0, .ref (sp)), (1, .int (iZ (wh)))] [.int (iZ (loF T i)), .int (iZ (sm i (loF T))), .int (iZ (6)), .ref (q1)] := by
            refine V_iadd hx dX4_counted_131 ?_
            refine M_iast hx hM11 (by omega) (by omega) (by omega) hq9 dX4_counted_132 (fun ws12 M12 hM12 f12 hn12 kp12 => ?_)
            replace hck := kp12 _ _ _ hck (by show _ ≠ _; omega)
            replace hca := kp12 _ _ _ hca (by show _ ≠ _; omega)
            replace hk := hk.tr (kp12.of (fun r (h : r ≠ 900) => by first | trivial | (show _ ≠ _; omega)))
            replace hS := sim_kp hS h6 kp12 (fun r hr => by first | trivial | (show _ ≠ _; omega))
            replace hs0 := sm0_kp hs0 kp12 (by first | trivial | (show _ ≠ _; omega)) (by first | trivial | (show _ ≠ _; omega)) (by first | trivial | (show _ ≠ _; omega)) (by first | trivial | (show _ ≠ _; omega))
            replace hCK := (fun c9 hc9 => ck_kp (hCK c9 hc9) kp12 (by first | trivial | (show _ ≠ _; omega)) (by show _ ≠ _; omega) (by show _ ≠ _; omega))
            replace hq9 := f12
            refine V_iincN hx dX4_counted_133 1 rfl [(5, .int (iZ (((i + 1 : Nat) : Int)))), (6, .ref ((cl i))), (4, .int (iZ (T 0 1))), (3, .ref (ck)), (2, .ref (q1)), (0, .ref (sp)), (1, .int (iZ (wh)))] (by decide) rfl ?_
            refine V_goto hx dX4_counted_136 61 (by decide) ?_
            refine V_sub [0, 2, 3, 4, 5, 6] rfl (ih (i + 1) _ _ _ (by omega) (by omega) hM12 hS hk hq9 (fun k hk9 => ?_) hck)
            rcases (show k = 0 ∨ k = 1 ∨ k = 2 ∨ k = 3 ∨ k = 4 ∨ k = 5 ∨ k = 6 by omega) with rfl | rfl | rfl | rfl | rfl | rfl | rfl
            · exact hu 0 (by omega)
            · exact hu 1 (by omega)
            · exact rfl
            · exact hu 3 (by omega)
            · exact rfl
            · exact hu 5 (by omega)
            · exact rfl
          refine V_if_ne hx dX4_counted_114 130 (by decide) (hT _ _) (fun h114 => ?_) (fun h114 => ?_)
          · refine V_iconst hx dX4_counted_130 ?_
            refine V_top (b := loF T i) (by unfold loF; rw [bz_f (fun h9 => h114 h9.1)]) ?_
            refine V_widen (k' := 1) (n' := 7) (by first | omega | (dsimp only [rmA]; omega)) (by first | omega | (dsimp only [rmA]; omega)) ?_
            exact h131
          · refine V_aload hx dX4_counted_117 0 rfl ?_
            refine V_aload_n hx dX4_counted_119 5 rfl ?_
            obtain ⟨i9, hi9⟩ := hM11.at hca
            refine V_calli hx (z_losing l hM11 hs0 (hCK i hic) hi6 tn1 tn8 hT hsb) cw_X4_64 (RMa (by dsimp only [rmA, rmN]; omega) (by dsimp only [rmA, rmN]; omega) (by dsimp only [rmA, rmN]; omega) (by dsimp only [rmA, rmN]; omega)) rfl i9 hi9 rfl rfl (Nat.le_of_ble_eq_true rfl) dX4_counted_120 _ _ rfl rfl (fun z13 w13 e13 => ?_)
            obtain ⟨rfl, rfl⟩ := e13
            refine V_ifb_eq hx dX4_counted_123 130 (by decide) (fun h123 => ?_) (fun h123 => ?_)
            · refine V_iconst hx dX4_counted_130 ?_
              refine V_top (b := loF T i) (by unfold loF; rw [bz_f (fun h9 => h123 h9.2)]) ?_
              refine V_widen (k' := 1) (n' := 7) (by first | omega | (dsimp only [rmA]; omega)) (by first | omega | (dsimp only [rmA]; omega)) ?_
              exact h131
            · refine V_iconst hx dX4_counted_126 ?_
              refine V_goto hx dX4_counted_127 131 (by decide) ?_
              refine V_top (b := loF T i) (by unfold loF; rw [bz_t ⟨h114, h123⟩]) ?_
              refine V_widen (k' := 1) (n' := 7) (by first | omega | (dsimp only [rmA]; omega)) (by first | omega | (dsimp only [rmA]; omega)) ?_
              exact h131
        refine V_if_eq hx dX4_counted_83 90 (by decide) (hT _ _) (fun h83 => ?_) (fun h83 => ?_)
        · refine V_iconst hx dX4_counted_90 ?_
          refine V_top (b := dnF T i) (by unfold dnF; rw [bz_f (fun h9 => h9 h83)]) ?_
          exact h91
        · refine V_iconst hx dX4_counted_86 ?_
          refine V_goto hx dX4_counted_87 91 (by decide) ?_
          refine V_top (b := dnF T i) (by unfold dnF; rw [bz_t h83]) ?_
          exact h91
  refine V_widen (k' := 1) (n' := 7) (by first | omega | (dsimp only [rmA]; omega)) (by first | omega | (dsimp only [rmA]; omega)) ?_
  refine V_sub [0, 1, 2, 3, 4, 5] rfl (hL (nc T + 1) 0 _ _ _ (by omega) (by omega) hM9 hS hk hq1 (fun k hk9 => ?_) hck)
  rcases (show k = 0 ∨ k = 1 ∨ k = 2 ∨ k = 3 ∨ k = 4 ∨ k = 5 ∨ k = 6 by omega) with rfl | rfl | rfl | rfl | rfl | rfl | rfl <;> rfl
set_option maxHeartbeats 4000000 in
set_option maxRecDepth 100000 in
theorem z_siminit (l : Launch) {g : GT} {ws : va_W} {M : MM} (hM : HM M ws) {p n : Nat} (hn : n ≤ 8) (hp : M p = some (1, .inr (4, [.null, .null, .null, .null]))) : MV l yX4_init cX4_init 2 (rmA 1 4 16) g [.ref (p), .int (iZ ((n : Int)))] ws (fun ws9 => ∃ am sl ck co fk fc M9, HM M9 ws9 ∧ M9 p = some (1, .inr (4, [.ref am, .ref sl, .ref ck, .ref co])) ∧ M9 am = some (2, IA g n (fun _ => iZ 0)) ∧ M9 sl = some (3, IA g n (fun _ => iZ 0)) ∧ M9 ck = some (4, LA g 0 fk) ∧ M9 co = some (4, RA g 0 fc) ∧ KP (fun r => r ≠ 1) M M9) := by
  refine MV.ofCk (own := RX4) (by decide) rfl rfl (Nat.le_of_ble_eq_true rfl) (fun x hx hI hE => ?_)
  refine V_lv (lv' := [(0, .ref (p)), (1, .int (iZ ((n : Int))))]) rfl ?_
  have hk : KP (fun r => r ≠ 1) M M := KP.rf
  refine V_aload_n hx dX4_init_0 0 rfl ?_
  refine V_objInit hx qo_X4 (by show 1 ≤ _; dsimp only [rmA]; omega) (by show 12 ≤ _; dsimp only [rmA]; omega) dX4_init_1 ?_
  refine V_aload_n hx dX4_init_4 0 rfl ?_
  refine V_iconst hx dX4_init_5 ?_
  refine M_newL hx hM 4 (0) rfl (by omega) q532 (by dsimp only [rmA]; omega) (by dsimp only [rmA]; omega) dX4_init_6 (fun q1 ws1 M1 hM1 f1 fr1 hn1 kp1 => ?_)
  replace hp := kp1 _ _ _ hp trivial
  replace hk := hk.tr (kp1.of (fun r h => by first | trivial | exact h))
  have hq1 := f1
  refine M_put (e' := .inr (4, [.null, .null, .ref (q1), .null])) hM1 hp (fun i9 hi9 ws2 M2 e9 hM2 f2 hn2 kp2 => ?_)
  refine pf_X4_9 hx i9 hi9 (Nat.le_of_ble_eq_true rfl) ws2 e9 dX4_init_9 ?_
  replace hq1 := kp2 _ _ _ hq1 (by show _ ≠ _; omega)
  replace hk := hk.tr (kp2.of (fun r h => by first | trivial | exact h))
  replace hp := f2
  refine V_aload_n hx dX4_init_12 0 rfl ?_
  refine V_iconst hx dX4_init_13 ?_
  refine M_newA hx hM2 4 (0) rfl (by omega) q534 (by dsimp only [rmA]; omega) (by dsimp only [rmA]; omega) dX4_init_14 (fun q3 ws3 M3 hM3 f3 fr3 hn3 kp3 => ?_)
  replace hp := kp3 _ _ _ hp trivial
  replace hq1 := kp3 _ _ _ hq1 trivial
  replace hk := hk.tr (kp3.of (fun r h => by first | trivial | exact h))
  have hq3 := f3
  refine M_put (e' := .inr (4, [.null, .null, .ref (q1), .ref (q3)])) hM3 hp (fun i9 hi9 ws4 M4 e9 hM4 f4 hn4 kp4 => ?_)
  refine pf_X4_17 hx i9 hi9 (Nat.le_of_ble_eq_true rfl) ws4 e9 dX4_init_17 ?_
  replace hq1 := kp4 _ _ _ hq1 (by show _ ≠ _; omega)
  replace hq3 := kp4 _ _ _ hq3 (by show _ ≠ _; omega)
  replace hk := hk.tr (kp4.of (fun r h => by first | trivial | exact h))
  replace hp := f4
  refine V_aload_n hx dX4_init_20 0 rfl ?_
  refine V_iload_n hx dX4_init_21 1 rfl ?_
  refine M_newa hx hM4 2 (n) rfl (by omega) (by dsimp only [rmA]; omega) (by dsimp only [rmA]; omega) dX4_init_22 (fun q5 ws5 M5 hM5 f5 fr5 hn5 kp5 => ?_)
  replace hp := kp5 _ _ _ hp trivial
  replace hq1 := kp5 _ _ _ hq1 trivial
  replace hq3 := kp5 _ _ _ hq3 trivial
  replace hk := hk.tr (kp5.of (fun r h => by first | trivial | exact h))
  have hq5 := f5
  refine M_put (e' := .inr (4, [.ref (q5), .null, .ref (q1), .ref (q3)])) hM5 hp (fun i9 hi9 ws6 M6 e9 hM6 f6 hn6 kp6 => ?_)
  refine pf_X4_21 hx i9 hi9 (Nat.le_of_ble_eq_true rfl) ws6 e9 dX4_init_24 ?_
  replace hq1 := kp6 _ _ _ hq1 (by show _ ≠ _; omega)
  replace hq3 := kp6 _ _ _ hq3 (by show _ ≠ _; omega)
  replace hq5 := kp6 _ _ _ hq5 (by show _ ≠ _; omega)
  replace hk := hk.tr (kp6.of (fun r h => by first | trivial | exact h))
  replace hp := f6
  refine V_aload_n hx dX4_init_27 0 rfl ?_
  refine V_iload_n hx dX4_init_28 1 rfl ?_
  refine M_newa hx hM6 3 (n) rfl (by omega) (by dsimp only [rmA]; omega) (by dsimp only [rmA]; omega) dX4_init_29 (fun q7 ws7 M7 hM7 f7 fr7 hn7 kp7 => ?_)
  replace hp := kp7 _ _ _ hp trivial
  replace hq1 := kp7 _ _ _ hq1 trivial
  replace hq3 := kp7 _ _ _ hq3 trivial
  replace hq5 := kp7 _ _ _ hq5 trivial
  replace hk := hk.tr (kp7.of (fun r h => by first | trivial | exact h))
  have hq7 := f7
  refine M_put (e' := .inr (4, [.ref (q5), .ref (q7), .ref (q1), .ref (q3)])) hM7 hp (fun i9 hi9 ws8 M8 e9 hM8 f8 hn8 kp8 => ?_)
  refine pf_X4_24 hx i9 hi9 (Nat.le_of_ble_eq_true rfl) ws8 e9 dX4_init_31 ?_
  replace hq1 := kp8 _ _ _ hq1 (by show _ ≠ _; omega)
  replace hq3 := kp8 _ _ _ hq3 (by show _ ≠ _; omega)
  replace hq5 := kp8 _ _ _ hq5 (by show _ ≠ _; omega)
  replace hq7 := kp8 _ _ _ hq7 (by show _ ≠ _; omega)
  replace hk := hk.tr (kp8.of (fun r h => by first | trivial | exact h))
  replace hp := f8
  exact hE _ _ _ _ _ dX4_init_34 (by dsimp only [rmA]; omega) (by dsimp only [rmA]; omega) ⟨q5, q7, q1, q3, _, _, M8, hM8, hp, hq5, hq7, hq1, hq3, hk⟩
theorem sim_0 {g : GT} {M : MM} {sp am sl ck co n : Nat} {cl : Nat → Nat} {T0 : TS} {fk fc : Nat → Option Nat} (hsp : M sp = some (1, .inr (4, [.ref am, .ref sl, .ref ck, .ref co]))) (ham : M am = some (2, IA g n (fun _ => iZ 0))) (hsl : M sl = some (3, IA g n (fun _ => iZ 0))) (hck : M ck = some (4, LA g 0 fk)) (hco : M co = some (4, RA g 0 fc)) (hn : n ≤ 8) : SIM g M sp cl (bgT T0 n 8) := by
  have e0 : nd (bgT T0 n 8) = n := by show ((n : Nat) : Int).toNat = n; omega
  have e1 : nc (bgT T0 n 8) = 0 := rfl
  have e2 : (bgT T0 n 8 0 2).toNat = 0 := rfl
  have er : ∀ a d, (a = 1 ∨ a = 2) → d < n → bgT T0 n 8 a d = 0 := fun a d ha hd => by
    unfold bgT
    rw [if_neg (by omega), if_neg (by omega), if_pos ⟨ha, by omega⟩]
  refine ⟨⟨am, sl, ck, co, hsp, ⟨_, by rw [e0]; exact ham, fun d hd => ?_⟩, ⟨_, by rw [e0]; exact hsl, fun d hd => ?_⟩, ⟨fk, by rw [e1]; exact hck, fun c hc => absurd hc (by rw [e1]; omega)⟩, ⟨fc, by rw [e2]; exact hco, fun i hi => absurd hi (by rw [e2]; omega)⟩⟩, fun c hc => absurd hc (by rw [e1]; omega)⟩
  · rw [e0] at hd; rw [er 1 d (Or.inl rfl) hd]
  · rw [e0] at hd; rw [er 2 d (Or.inr rfl) hd]
theorem sim_ac {g : GT} {M : MM} {sp am sl ck9 co q qa qb qc : Nat} {cl : Nat → Nat} {T : TS} {B : Int} {fk9 fa fb fc : Nat → Option Nat} (hw : WF T B) (h5 : T 0 1 < 6) (hsp : M sp = some (1, .inr (4, [.ref am, .ref sl, .ref ck9, .ref co]))) (a2 : ROW g M am 2 (nd T) (T 1)) (a3 : ROW g M sl 3 (nd T) (T 2)) (a6 : CLS g M co T) (hck : M ck9 = some (4, LA g (nc T + 1) fk9)) (hf : ∀ j, j < nc T → fk9 j = some (cl j)) (hfn : fk9 (nc T) = some q) (hCK : ∀ c, c < nc T → CK g M (cl c) c T) (hq : M q = some (10 + nc T, .inr (3, [.ref qa, .int (iZ 0), .int (iZ 0), .int (iZ 0), .ref qb, .ref qc]))) (hqa : M qa = some (4, RA g 0 fa)) (hqb : M qb = some (4, RA g 0 fb)) (hqc : M qc = some (4, RA g 0 fc)) : SIM g M sp (adx cl (nc T) q) (acT T) := by
  have hni := nc_i hw
  have en : (T 0 1).toNat = nc T := rfl
  have e : ∀ a b, a ≠ 0 ∨ b ≠ 1 → acT T a b = soT (pt (pt T (7 + 8 * nc T) 0 0) (7 + 8 * nc T) 3 0) (7 + 8 * nc T) 8 a b := fun a b ha => by
    unfold acT baT
    rw [en, pt_ne _ _ ha]
  have e1 : acT T 0 1 = T 0 1 + 1 := by unfold acT; rw [pt_at]
  have eo : ∀ a b, ¬ (7 + 8 * nc T ≤ a ∧ a < 7 + 8 * nc T + 8) → (a ≠ 0 ∨ b ≠ 1) → acT T a b = T a b := fun a b ha hb => by
    rw [e a b hb, soT_ne (by omega), pt_ne _ _ (Or.inl (by omega)), pt_ne _ _ (Or.inl (by omega))]
  have e0 : nc (acT T) = nc T + 1 := by
    have hc := hw.2.2.1
    unfold nc
    rw [e1]
    omega
  have ed : nd (acT T) = nd T := by unfold nd; rw [eo 0 0 (by omega) (by omega)]
  have e2 : acT T 0 2 = T 0 2 := eo 0 2 (by omega) (by omega)
  have er : ∀ a, 0 < a → a < 7 → acT T a = T a := fun a h1 h2 => funext (fun b => eo a b (by omega) (by omega))
  refine ⟨⟨am, sl, ck9, co, hsp, by rw [ed, er 1 (by omega) (by omega)]; exact a2, by rw [ed, er 2 (by omega) (by omega)]; exact a3, ⟨fk9, by rw [e0]; exact hck, fun c hc => ?_⟩, ?_⟩, fun c hc => ?_⟩
  · rw [e0] at hc
    by_cases hx : c < nc T
    · rw [adx_l hx]; exact hf c hx
    · rw [adx_e hx, show c = nc T by omega]; exact hfn
  · unfold CLS
    rw [e2, er 4 (by omega) (by omega), er 5 (by omega) (by omega), er 6 (by omega) (by omega)]
    exact a6
  · rw [e0] at hc
    by_cases hx : c < nc T
    · rw [adx_l hx]
      exact ck_T (hCK c hx) (fun a b h1 h2 => eo a b (by omega) (by omega))
    · have hc9 : c = nc T := by omega
      subst hc9
      rw [adx_e (by omega)]
      have q0 : acT T (7 + 8 * nc T) 0 = 0 := by rw [e _ _ (Or.inl (by omega)), soT_0, pt_ne _ _ (Or.inr (by omega)), pt_at]
      have q1 : acT T (7 + 8 * nc T) 1 = 0 := by rw [e _ _ (Or.inl (by omega)), soT_1]
      have q2 : acT T (7 + 8 * nc T) 2 = 0 := by rw [e _ _ (Or.inl (by omega)), soT_2]
      have q3 : acT T (7 + 8 * nc T) 3 = 0 := by rw [e _ _ (Or.inl (by omega)), soT_3, pt_at]
      have qs : ∀ j d, (j = 5 ∨ j = 6 ∨ j = 7) → d < 8 → acT T (7 + 8 * nc T + j) d = -1 := fun j d hj hd => by rw [e _ _ (Or.inl (by omega)), soT_s hj hd]
      refine ⟨qa, qb, qc, id, id, id, 0, 0, id, id, by unfold CKE; rw [q1, q2, q3]; exact hq, by rw [q0]; exact rws_em hqa, ⟨rws_em hqb, slp_em (fun d hd => qs 5 d (by omega) hd)⟩, ⟨rws_em hqc, slp_em (fun d hd => qs 7 d (by omega) hd)⟩⟩
set_option maxHeartbeats 4000000 in
set_option maxRecDepth 100000 in
theorem z_addClerk (l : Launch) {g : GT} {ws : va_W} {M : MM} (hM : HM M ws) {sp : Nat} {cl : Nat → Nat} {T : TS} {B : Int} (hS : SIM g M sp cl T) (hw : WF T B) (h5 : T 0 1 < 6) : MV l yX4_addClerk cX4_addClerk 3 (rmA 2 5 12) g [.ref (sp)] ws (fun ws9 => ∃ M9 cl9, HM M9 ws9 ∧ SIM g M9 sp cl9 (acT T) ∧ KP OUT M M9) := by
  refine MV.ofk (own := RX4) (by decide) rfl (Nat.le_of_ble_eq_true rfl) (fun x hx hE => ?_)
  refine V_lv (lv' := [(0, .ref (sp))]) rfl ?_
  obtain ⟨hT, ⟨tn1, tn8⟩, ⟨hc0, hc9⟩, ⟨hz0, hz9⟩, ham1, hck9⟩ := id hw
  have hni := nc_i hw
  have h6 : nc T ≤ 6 := by omega
  obtain ⟨⟨am, sl, ck, co, h0⟩, hCK⟩ := id hS
  obtain ⟨hsp, ⟨va, ham, hva⟩, ⟨vs, hsv, hvs⟩, ⟨fk, hck, hfk⟩, hcl⟩ := id h0
  have hS0 := hS
  have hk : KP OUT M M := KP.rf
  refine V_aload_n hx dX4_addClerk_0 0 rfl ?_
  obtain ⟨i9, hi9⟩ := hM.at hsp
  refine gf_X4_9 hx i9 hi9 rfl dX4_addClerk_1 ?_
  obtain ⟨i9, hi9⟩ := hM.at hck
  refine V_alenK hx (t0 := 3) i9 hi9 rfl (v := ((nc T) : Int)) rfl dX4_addClerk_4 ?_
  refine V_iconst hx dX4_addClerk_5 ?_
  refine V_iadd hx dX4_addClerk_6 ?_
  refine V_top (b := (((nc T) + 1 : Nat) : Int)) (by omega) ?_
  refine M_newL hx hM 900 (((nc T) + 1)) rfl (by omega) q532 (by dsimp only [rmA]; omega) (by dsimp only [rmA]; omega) dX4_addClerk_7 (fun q1 ws1 M1 hM1 f1 fr1 hn1 kp1 => ?_)
  replace hsp := kp1 _ _ _ hsp trivial
  replace hck := kp1 _ _ _ hck trivial
  replace hk := hk.tr (kp1.of (fun r (h : 1000 ≤ r) => by first | trivial | (show _ ≠ _; omega)))
  replace hS := sim_kp hS h6 kp1 (fun r hr => by first | trivial | (show _ ≠ _; omega))
  have hq1 := f1
  refine V_astore_n hx dX4_addClerk_10 [(1, .ref (q1)), (0, .ref (sp))] (by decide) rfl ?_
  refine V_iconst hx dX4_addClerk_11 ?_
  refine V_istore_n hx dX4_addClerk_12 [(2, .int (iZ (0))), (1, .ref (q1)), (0, .ref (sp))] (by decide) rfl ?_
  have hL : ∀ (n i : Nat) (w1 : va_W) (N1 : MM) (f1 : Nat → Option Nat), nc T < i + n → i ≤ nc T → HM N1 w1 → SIM g N1 sp cl T → KP OUT M N1 → N1 q1 = some (900, LA g (nc T + 1) f1) → (∀ j, j < i → f1 j = some (cl j)) → N1 sp = some (1, .inr (4, [.ref am, .ref sl, .ref ck, .ref co])) → N1 ck = some (4, LA g (nc T) fk) → V x 1 (nc T + 1) w1 13 [(2, .int (iZ ((i : Int)))), (1, .ref (q1)), (0, .ref (sp))] [] := by
    intro n; induction n with
    | zero => intro i w1 N1 f1 g1 g2; exact absurd g1 (by omega)
    | succ n ih =>
      intro i w1 N1 f1 g1 g2 hN1 hS hk hq9 hf1 hsp hck
      refine V_iload_n hx dX4_addClerk_13 0 rfl ?_
      refine V_aload_n hx dX4_addClerk_14 2 rfl ?_
      obtain ⟨i9, hi9⟩ := hN1.at hsp
      refine gf_X4_9 hx i9 hi9 rfl dX4_addClerk_15 ?_
      obtain ⟨i9, hi9⟩ := hN1.at hck
      refine V_alenK hx (t0 := 3) i9 hi9 rfl (v := ((nc T) : Int)) rfl dX4_addClerk_18 ?_
      refine V_icmp_ge hx dX4_addClerk_19 37 (by decide) ⟨by omega, by omega⟩ ⟨by omega, by omega⟩ (fun h19 => ?_) (fun h19 => ?_)
      · obtain ⟨⟨am2, sl2, ck2, co2, a1, a2, a3, -, a6⟩, hCK⟩ := hS
        rw [hsp] at a1
        cases a1
        refine V_aload_n hx dX4_addClerk_37 1 rfl ?_
        refine V_aload_n hx dX4_addClerk_38 2 rfl ?_
        obtain ⟨i9, hi9⟩ := hN1.at hsp
        refine gf_X4_9 hx i9 hi9 rfl dX4_addClerk_39 ?_
        obtain ⟨i9, hi9⟩ := hN1.at hck
        refine V_alenK hx (t0 := 3) i9 hi9 rfl (v := ((nc T) : Int)) rfl dX4_addClerk_42 ?_
        refine M_new hx hN1 (10 + nc T) (C := RX3) (T := TX3) (N := 6) (ci := 3) rfl inT3 tyX3 tyX3_ok q532 q589 q10 [.null, .int (iZ 0), .int (iZ 0), .int (iZ 0), .null, .null] (fun j hj => by rcases (show j = 0 ∨ j = 1 ∨ j = 2 ∨ j = 3 ∨ j = 4 ∨ j = 5 by omega) with h | h | h | h | h | h <;> subst h <;> rfl) (by dsimp only [rmA]; omega) (by dsimp only [rmA]; omega) dX4_addClerk_43 (fun q2 ws2 M2 hM2 f2 fr2 hn2 kp2 => ?_)
        replace hsp := kp2 _ _ _ hsp trivial
        replace hck := kp2 _ _ _ hck trivial
        replace hq9 := kp2 _ _ _ hq9 trivial
        replace hk := hk.tr (kp2.of (fun r (h : 1000 ≤ r) => by first | trivial | (show _ ≠ _; omega)))
        replace a2 := row_kp a2 kp2 (by first | trivial | (show _ ≠ _; omega))
        replace a3 := row_kp a3 kp2 (by first | trivial | (show _ ≠ _; omega))
        replace a6 := cls_kp a6 kp2 (by first | trivial | (show _ ≠ _; omega))
        replace hCK := (fun c9 hc9 => ck_kp (hCK c9 hc9) kp2 (by first | trivial | (show _ ≠ _; omega)) (by first | trivial | (show _ ≠ _; omega)) (by first | trivial | (show _ ≠ _; omega)))
        have hq2 := f2
        refine V_dup hx dX4_addClerk_46 rfl ?_
        refine V_callIN hx (z_init l hM2 (by omega) hq2) ci_X4_40 (RMa (by dsimp only [rmA, rmN]; omega) (by dsimp only [rmA, rmN]; omega) (by dsimp only [rmA, rmN]; omega) (by dsimp only [rmA, rmN]; omega)) rfl rfl (Nat.le_of_ble_eq_true rfl) dX4_addClerk_47 _ _ rfl rfl (fun w3 e3 => ?_)
        obtain ⟨qa, qb, qc, fa, fb, fc, M3, hM3, hq3, hqa, hqb, hqc, kp3⟩ := e3
        replace hsp := kp3 _ _ _ hsp (by show _ ≠ _; omega)
        replace hck := kp3 _ _ _ hck (by show _ ≠ _; omega)
        replace hq9 := kp3 _ _ _ hq9 (by show _ ≠ _; omega)
        replace hk := hk.tr (kp3.of (fun r (h : 1000 ≤ r) => by first | trivial | (show _ ≠ _; omega)))
        replace a2 := row_kp a2 kp3 (by first | trivial | (show _ ≠ _; omega))
        replace a3 := row_kp a3 kp3 (by first | trivial | (show _ ≠ _; omega))
        replace a6 := cls_kp a6 kp3 (by first | trivial | (show _ ≠ _; omega))
        replace hCK := (fun c9 hc9 => ck_kp (hCK c9 hc9) kp3 (by first | trivial | (show _ ≠ _; omega)) (by first | trivial | (show _ ≠ _; omega)) (by first | trivial | (show _ ≠ _; omega)))
        refine M_aastL hx hM3 (by omega) (by omega) (by omega) hq9 hq3 dX4_addClerk_50 (fun ws4 M4 hM4 f4 hn4 kp4 => ?_)
        replace hsp := kp4 _ _ _ hsp (by show _ ≠ _; omega)
        replace hck := kp4 _ _ _ hck (by show _ ≠ _; omega)
        replace hq3 := kp4 _ _ _ hq3 (by show _ ≠ _; omega)
        replace hk := hk.tr (kp4.of (fun r (h : 1000 ≤ r) => by first | trivial | (show _ ≠ _; omega)))
        replace a2 := row_kp a2 kp4 (by first | trivial | (show _ ≠ _; omega))
        replace a3 := row_kp a3 kp4 (by first | trivial | (show _ ≠ _; omega))
        replace a6 := cls_kp a6 kp4 (by first | trivial | (show _ ≠ _; omega))
        replace hCK := (fun c9 hc9 => ck_kp (hCK c9 hc9) kp4 (by first | trivial | (show _ ≠ _; omega)) (by first | trivial | (show _ ≠ _; omega)) (by first | trivial | (show _ ≠ _; omega)))
        replace hqa := kp4 _ _ _ hqa (by first | trivial | (show _ ≠ _; omega))
        replace hqb := kp4 _ _ _ hqb (by first | trivial | (show _ ≠ _; omega))
        replace hqc := kp4 _ _ _ hqc (by first | trivial | (show _ ≠ _; omega))
        replace hq9 := f4
        obtain ⟨M5, hM5, f5, hn5, kp5⟩ := hM4.retag hq9 (4)
        replace hsp := kp5 _ _ _ hsp (by show _ ≠ _; omega)
        replace hck := kp5 _ _ _ hck (by show _ ≠ _; omega)
        replace hq3 := kp5 _ _ _ hq3 (by show _ ≠ _; omega)
        replace hk := hk.tr (kp5.of (fun r (h : 1000 ≤ r) => by first | trivial | (show _ ≠ _; omega)))
        replace a2 := row_kp a2 kp5 (by first | trivial | (show _ ≠ _; omega))
        replace a3 := row_kp a3 kp5 (by first | trivial | (show _ ≠ _; omega))
        replace a6 := cls_kp a6 kp5 (by first | trivial | (show _ ≠ _; omega))
        replace hCK := (fun c9 hc9 => ck_kp (hCK c9 hc9) kp5 (by first | trivial | (show _ ≠ _; omega)) (by first | trivial | (show _ ≠ _; omega)) (by first | trivial | (show _ ≠ _; omega)))
        replace hqa := kp5 _ _ _ hqa (by first | trivial | (show _ ≠ _; omega))
        replace hqb := kp5 _ _ _ hqb (by first | trivial | (show _ ≠ _; omega))
        replace hqc := kp5 _ _ _ hqc (by first | trivial | (show _ ≠ _; omega))
        replace hq9 := f5
        refine V_aload_n hx dX4_addClerk_51 2 rfl ?_
        refine V_aload_n hx dX4_addClerk_52 1 rfl ?_
        refine M_put (e' := .inr (4, [.ref (am), .ref (sl), .ref (q1), .ref (co)])) hM5 hsp (fun i9 hi9 ws6 M6 e9 hM6 f6 hn6 kp6 => ?_)
        refine pf_X4_9 hx i9 hi9 (Nat.le_of_ble_eq_true rfl) ws6 e9 dX4_addClerk_53 ?_
        replace hck := kp6 _ _ _ hck (by show _ ≠ _; omega)
        replace hq9 := kp6 _ _ _ hq9 (by show _ ≠ _; omega)
        replace hq3 := kp6 _ _ _ hq3 (by show _ ≠ _; omega)
        replace hk := hk.tr (kp6.of (fun r (h : 1000 ≤ r) => by first | trivial | (show _ ≠ _; omega)))
        replace a2 := row_kp a2 kp6 (by first | trivial | (show _ ≠ _; omega))
        replace a3 := row_kp a3 kp6 (by first | trivial | (show _ ≠ _; omega))
        replace a6 := cls_kp a6 kp6 (by first | trivial | (show _ ≠ _; omega))
        replace hCK := (fun c9 hc9 => ck_kp (hCK c9 hc9) kp6 (by first | trivial | (show _ ≠ _; omega)) (by first | trivial | (show _ ≠ _; omega)) (by first | trivial | (show _ ≠ _; omega)))
        replace hqa := kp6 _ _ _ hqa (by first | trivial | (show _ ≠ _; omega))
        replace hqb := kp6 _ _ _ hqb (by first | trivial | (show _ ≠ _; omega))
        replace hqc := kp6 _ _ _ hqc (by first | trivial | (show _ ≠ _; omega))
        replace hsp := f6
        exact hE _ _ _ _ _ dX4_addClerk_56 (by dsimp only [rmA]; omega) (by dsimp only [rmA]; omega) ⟨M6, adx cl (nc T) q2, hM6, sim_ac hw h5 hsp a2 a3 a6 hq9 (fun j hj => (vup_ne _ _ (by show j ≠ nc T; omega)).trans (hf1 j (by omega))) (vup_at _ _ _) hCK hq3 hqa hqb hqc, hk⟩
      · refine V_aload_n hx dX4_addClerk_22 1 rfl ?_
        refine V_iload_n hx dX4_addClerk_23 0 rfl ?_
        refine V_aload_n hx dX4_addClerk_24 2 rfl ?_
        obtain ⟨i9, hi9⟩ := hN1.at hsp
        refine gf_X4_9 hx i9 hi9 rfl dX4_addClerk_25 ?_
        refine V_iload_n hx dX4_addClerk_28 0 rfl ?_
        obtain ⟨pr, se, ow, _, _, _, _, _, _, _, hca, -⟩ := id (hS.2 i (by omega))
        obtain ⟨i9, hi9⟩ := hN1.at hck
        refine V_aaldL hx (by omega) (by omega) (by omega) i9 hi9 (r := (cl i)) (hfk i (by omega)) dX4_addClerk_29 ?_
        refine M_aastL hx hN1 (by omega) (by omega) (by omega) hq9 hca dX4_addClerk_30 (fun ws7 M7 hM7 f7 hn7 kp7 => ?_)
        replace hsp := kp7 _ _ _ hsp (by show _ ≠ _; omega)
        replace hck := kp7 _ _ _ hck (by show _ ≠ _; omega)
        replace hca := kp7 _ _ _ hca (by show _ ≠ _; omega)
        replace hk := hk.tr (kp7.of (fun r (h : 1000 ≤ r) => by first | trivial | (show _ ≠ _; omega)))
        replace hS := sim_kp hS h6 kp7 (fun r hr => by first | trivial | (show _ ≠ _; omega))
        replace hq9 := f7
        refine V_iincN hx dX4_addClerk_31 0 rfl [(2, .int (iZ (((i + 1 : Nat) : Int)))), (1, .ref (q1)), (0, .ref (sp))] (by decide) rfl ?_
        refine V_goto hx dX4_addClerk_34 13 (by decide) ?_
        refine V_sub [0, 1, 2] rfl (ih (i + 1) _ _ _ (by omega) (by omega) hM7 hS hk hq9 (fun j hj => ?_) hsp hck)
        by_cases hx9 : j = i
        · subst hx9; exact vup_at f1 j _
        · exact (vup_ne f1 _ hx9).trans (hf1 j (by omega))
  refine V_widen (k' := 1) (n' := nc T + 1) (by first | omega | (dsimp only [rmA]; omega)) (by first | omega | (dsimp only [rmA]; omega)) ?_
  exact V_sub [0, 1, 2] rfl (hL (nc T + 1) 0 _ _ _ (by omega) (by omega) hM1 hS hk hq1 (fun j hj => absurd hj (by omega)) hsp hck)
