/-! the quotient of the mean is a number -/
theorem fl_nn (a b : Int32) (hb : b ≠ 0) : isNaN64 (FP.ddiv (FP.i2d a) (FP.i2d b)) = false := by
  have h := Jvm.Free.Fl.ddiv_out (Jvm.Free.Fl.i2d_fin a).noNaN (Jvm.Free.Fl.i2d_fin b) (Jvm.Free.Fl.i2d_nz hb)
  unfold Jvm.Free.Fl.NoNaN64 at h
  unfold isNaN64
  exact decide_eq_false (UInt64.not_lt.mpr h)
def cmpI (a b : UInt64) : Int := (Op.cmpValue (FP.dcmp a b) CmpOp.l).toInt
theorem fl_eq {x : UInt64} (h : isNaN64 x = false) : cmpI x x = 0 := by
  have h1 : Jvm.Free.Fl.NoNaN64 x := by
    unfold isNaN64 at h
    exact UInt64.not_lt.mp (of_decide_eq_false h)
  have e : FP.dcmp x x = some .eq := FP.Core.dcmp_self (Jvm.Free.Fl.val64_no.mp h1)
  unfold cmpI
  rw [e]
  rfl
theorem fl_al {x v : UInt64} (h : alike64 x v = true) (hv : isNaN64 v = false) : x = v := by
  unfold alike64 at h
  rw [Bool.or_eq_true, Bool.and_eq_true, decide_eq_true_eq] at h
  rcases h with h | ⟨-, h⟩
  · exact h
  · rw [hv] at h; cases h
