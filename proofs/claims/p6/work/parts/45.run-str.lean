/-! RA: texts -/
section RA
section RA6
variable {G : ri_Tb} {sh : ra_Sh} {b d idx : Nat} {M : ri_Mt} {pc : Nat} {L : List (Option Jvm.Term)} {st : List Jvm.Term} {σ : ra_V} {Q : ra_Q} {tx : String}
theorem ra_slen_ {a1 b1 a2 b2 i : Nat} {t : String} (hd : (ri_co M)[pc]? = some (some (.invokevirtual idx, 3))) (hc : ri_cp G M idx = some (16, a1, b1, tx)) (hi : ri_cp G M i = some (9, a2, b2, t)) (hst : st.length ≤ 4) (hh : ri_hi M = true) (k : ra_P G sh b d M (pc + 3) L (ra_I t.toList.length :: st) σ Q) : ra_P G sh b d M pc L (.string (ri_own M) i :: st) σ Q :=
  ra_ctl hd (fun _ => rfl) (fun _ => rfl) rfl (fun C K lv mem => by
    simp only [ri_ctl]
    rw [if_pos trivial]
    unfold ri_inv
    rw [hc]
    dsimp only
    rw [if_neg (by decide), if_neg (by decide), if_neg (by decide), if_neg (by decide), if_pos (Or.inl rfl)]
    unfold ri_strm
    dsimp only
    rw [if_pos ⟨rfl, rfl, rfl, hst, hh⟩, hi]
    show K (pc + 3) lv (ri_ci (Int32.ofNat t.toList.length) :: st) [] mem = _
    rw [ri_ci_eq]
    rfl) k
theorem ra_schar {a1 b1 a2 b2 i : Nat} {t : String} {z : Int} {ch : Char} (hd : (ri_co M)[pc]? = some (some (.invokevirtual idx, 3))) (hc : ri_cp G M idx = some (17, a1, b1, tx)) (hi : ri_cp G M i = some (9, a2, b2, t)) (hst : st.length ≤ 4) (hh : ri_hi M = true) (h0 : 0 ≤ z) (h1 : z ≤ 2147483647) (hch : t.toList[z.toNat]? = some ch) (k : ra_P G sh b d M (pc + 3) L (ra_I ch.toNat :: st) σ Q) : ra_P G sh b d M pc L (ra_I z :: .string (ri_own M) i :: st) σ Q :=
  ra_ctl hd (fun _ => rfl) (fun _ => rfl) rfl (fun C K lv mem => by
    have e : (Int32.ofInt z).toInt = z := ra_ofI ⟨by omega, h1⟩
    have e2 : (Int32.ofInt z).toNatClampNeg = z.toNat := by
      show (Int32.ofInt z).toInt.toNat = _
      rw [e]
    have e3 : ¬ Int32.ofInt z < 0 := fun q => by
      rw [Int32.lt_iff_toInt_lt, e] at q
      have : (0 : Int32).toInt = 0 := by decide
      omega
    simp only [ri_ctl]
    rw [if_pos trivial]
    unfold ri_inv
    rw [hc]
    dsimp only
    rw [if_neg (by decide), if_neg (by decide), if_neg (by decide), if_neg (by decide), if_pos (Or.inr rfl)]
    unfold ri_strm
    dsimp only
    rw [if_pos ⟨rfl, rfl, rfl, hst, e3, hh⟩, hi]
    show (match t.toList[(Int32.ofInt z).toNatClampNeg]? with
      | some ch => K (pc + 3) lv (ri_ci (Int32.ofNat ch.toNat) :: st) [] mem
      | none => none) = _
    rw [e2, hch]
    show K (pc + 3) lv (ri_ci (Int32.ofNat ch.toNat) :: st) [] mem = _
    rw [ri_ci_eq]
    rfl) k
end RA6
end RA
