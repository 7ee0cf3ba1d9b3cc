/-! RA: doubles and floats that are no NaN -/
section RA
section RA9
variable {G : ri_Tb} {sh : ra_Sh} {b d : Nat} {M : ri_Mt} {pc : Nat} {L : List (Option Jvm.Term)} {st : List Jvm.Term} {σ : ra_V} {Q : ra_Q}
theorem ra_n64 {r : UInt64} (h : r.toNat % 2 ^ 63 ≤ 2047 * 2 ^ 52) : vf_n64 r := by
  unfold vf_n64
  rw [UInt64.le_iff_toNat_le, UInt64.toNat_and]
  have e : (0x7fffffffffffffff : UInt64).toNat = 2 ^ 63 - 1 := by decide
  rw [e, Nat.and_two_pow_sub_one_eq_mod]
  exact h
theorem ra_n32 {r : UInt32} (h : r.toNat % 2 ^ 31 ≤ 255 * 2 ^ 23) : vf_n32 r := by
  unfold vf_n32
  rw [UInt32.le_iff_toNat_le, UInt32.toNat_and]
  have e : (0x7fffffff : UInt32).toNat = 2 ^ 31 - 1 := by decide
  rw [e, Nat.and_two_pow_sub_one_eq_mod]
  exact h
theorem ra_dn {x y : Int} (hy : ra_in y) (h0 : y ≠ 0) : vf_n64 (FP.ddiv (FP.i2d (Int32.ofInt x)) (FP.i2d (Int32.ofInt y))) := by
  have ha := FP.Core.fromInt_mag (FP.Core.toNat_i2d (Int32.ofInt x)) (j := 31) (K := 1054) (FP.Core.int32_abs _) (by omega) (by omega)
  have hb := FP.Core.fromInt_mag (FP.Core.toNat_i2d (Int32.ofInt y)) (j := 31) (K := 1054) (FP.Core.int32_abs _) (by omega) (by omega)
  have hc := FP.Core.fromInt_ge (FP.Core.toNat_i2d (Int32.ofInt y)) (by rw [ra_ofI hy]; exact h0)
  have h := FP.Core.ddiv_mag (a := FP.Core.i2d (Int32.ofInt x)) (b := FP.Core.i2d (Int32.ofInt y)) (K := 1055) (L := 1023) (by omega) (by omega) (by omega) (by omega) (by omega)
  exact ra_n64 (Nat.le_of_lt (Nat.lt_of_lt_of_le (show (FP.ddiv (FP.i2d (Int32.ofInt x)) (FP.i2d (Int32.ofInt y))).toNat % 2 ^ 63 < (1055 + (1074 - 52 - 1) - 1023 + 3) * 2 ^ 52 from h) (by decide)))
theorem ra_fq {x y : Int} (hy : ra_in y) (h0 : y ≠ 0) : (FP.fdiv (FP.i2f (Int32.ofInt x)) (FP.i2f (Int32.ofInt y))).toNat % 2 ^ 31 < 160 * 2 ^ 23 := by
  have ha := FP.Core.fromInt_mag32 (FP.Core.toNat_i2f (Int32.ofInt x)) (j := 31) (K := 158) (FP.Core.int32_abs _) (by omega) (by omega)
  have hb := FP.Core.fromInt_mag32 (FP.Core.toNat_i2f (Int32.ofInt y)) (j := 31) (K := 158) (FP.Core.int32_abs _) (by omega) (by omega)
  have hc := FP.Core.fromInt_ge32 (FP.Core.toNat_i2f (Int32.ofInt y)) (by rw [ra_ofI hy]; exact h0)
  exact FP.Core.fdiv_mag (a := FP.Core.i2f (Int32.ofInt x)) (b := FP.Core.i2f (Int32.ofInt y)) (K := 159) (L := 127) (by omega) (by omega) (by omega) (by omega) (by omega)
theorem ra_fn {x y : Int} (hy : ra_in y) (h0 : y ≠ 0) : vf_n32 (FP.fdiv (FP.i2f (Int32.ofInt x)) (FP.i2f (Int32.ofInt y))) := ra_n32 (by have := ra_fq (x := x) hy h0; omega)
theorem ra_sn {x y : Int} (hy : ra_in y) (h0 : y ≠ 0) : vf_n32 (FP.fsub FP.fconst1 (FP.fdiv (FP.i2f (Int32.ofInt x)) (FP.i2f (Int32.ofInt y)))) := by
  have h1 := ra_fq (x := x) hy h0
  have h2 := FP.Core.fsub_mag (a := FP.fconst1) (b := FP.fdiv (FP.i2f (Int32.ofInt x)) (FP.i2f (Int32.ofInt y))) (K := 160) (by decide) h1 (by omega)
  exact ra_n32 (Nat.le_of_lt (Nat.lt_of_lt_of_le (show (FP.fsub FP.fconst1 (FP.fdiv (FP.i2f (Int32.ofInt x)) (FP.i2f (Int32.ofInt y)))).toNat % 2 ^ 31 < (160 + 2) * 2 ^ 23 from h2) (by decide)))
theorem ra_fD_e (x : UInt64) : ri_fD x = .op1 .bitsD (.long x.toInt64) := by unfold ri_fD; rw [ri_cl_eq]
theorem ra_fF_e (x : UInt32) : ri_fF x = .op1 .bitsF (.int x.toInt32) := by unfold ri_fF; rw [ri_ci_eq]
theorem ra_i2d {x : Int} (hd : (ri_co M)[pc]? = some (some (.i2d, 1))) (kk : ra_P G sh b d M (pc + 1) L (ri_fD (FP.i2d (Int32.ofInt x)) :: st) σ Q) : ra_P G sh b d M pc L (ra_I x :: st) σ Q :=
  ra_pure hd (fun lv h => ⟨lv, h, rfl⟩) kk
theorem ra_i2f {x : Int} (hd : (ri_co M)[pc]? = some (some (.i2f, 1))) (kk : ra_P G sh b d M (pc + 1) L (ri_fF (FP.i2f (Int32.ofInt x)) :: st) σ Q) : ra_P G sh b d M pc L (ra_I x :: st) σ Q :=
  ra_pure hd (fun lv h => ⟨lv, h, rfl⟩) kk
theorem ra_ddiv {x y : UInt64} (hd : (ri_co M)[pc]? = some (some (.ddiv, 1))) (hn : vf_n64 (FP.ddiv x y)) (kk : ra_P G sh b d M (pc + 1) L (ri_fD (FP.ddiv x y) :: st) σ Q) : ra_P G sh b d M pc L (ri_fD y :: ri_fD x :: st) σ Q :=
  ra_pure hd (fun lv h => ⟨lv, h, by
    show ri_s2D FP.ddiv lv (ri_fD y :: ri_fD x :: st) = _
    rw [ra_fD_e, ra_fD_e]
    unfold ri_s2D
    dsimp only
    rw [UInt64.toUInt64_toInt64, UInt64.toUInt64_toInt64]
    exact if_pos hn⟩) kk
theorem ra_fdiv {x y : UInt32} (hd : (ri_co M)[pc]? = some (some (.fdiv, 1))) (hn : vf_n32 (FP.fdiv x y)) (kk : ra_P G sh b d M (pc + 1) L (ri_fF (FP.fdiv x y) :: st) σ Q) : ra_P G sh b d M pc L (ri_fF y :: ri_fF x :: st) σ Q :=
  ra_pure hd (fun lv h => ⟨lv, h, by
    show ri_s2F FP.fdiv lv (ri_fF y :: ri_fF x :: st) = _
    rw [ra_fF_e, ra_fF_e]
    unfold ri_s2F
    dsimp only
    rw [UInt32.toUInt32_toInt32, UInt32.toUInt32_toInt32]
    exact if_pos hn⟩) kk
theorem ra_fsub {x y : UInt32} (hd : (ri_co M)[pc]? = some (some (.fsub, 1))) (hn : vf_n32 (FP.fsub x y)) (kk : ra_P G sh b d M (pc + 1) L (ri_fF (FP.fsub x y) :: st) σ Q) : ra_P G sh b d M pc L (ri_fF y :: ri_fF x :: st) σ Q :=
  ra_pure hd (fun lv h => ⟨lv, h, by
    show ri_s2F FP.fsub lv (ri_fF y :: ri_fF x :: st) = _
    rw [ra_fF_e, ra_fF_e]
    unfold ri_s2F
    dsimp only
    rw [UInt32.toUInt32_toInt32, UInt32.toUInt32_toInt32]
    exact if_pos hn⟩) kk
end RA9
end RA
