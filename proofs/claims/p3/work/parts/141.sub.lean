/-! symbols put in place of symbols -/
section SY
def sy_sub (f : Nat → Jvm.Term) : Jvm.Term → Jvm.Term
  | .arg i => f i
  | .add a b => .add (sy_sub f a) (sy_sub f b)
  | .sub a b => .sub (sy_sub f a) (sy_sub f b)
  | .mul a b => .mul (sy_sub f a) (sy_sub f b)
  | .div a b => .div (sy_sub f a) (sy_sub f b)
  | .rem a b => .rem (sy_sub f a) (sy_sub f b)
  | .op2 o a b => .op2 o (sy_sub f a) (sy_sub f b)
  | .op1 o a => .op1 o (sy_sub f a)
  | t => t
/-- ints alone are put in -/
def sy_int (f : Nat → Jvm.Term) : Prop := ∀ i, ri_k (f i) = 0
theorem sy_sub_cv {ρ : Nat → Int32} {sa : String → Nat → Nat} {ad : Nat → Nat} {f : Nat → Jvm.Term} (hf : sy_int f) (t : Jvm.Term) : ri_cv ρ sa ad (sy_sub f t) = ri_cv (fun i => ri_iv ρ (f i)) sa ad t := by
  induction t with
  | arg i => exact ri_ivI (hf i)
  | add a b ha hb => simp only [sy_sub, ri_cv]; rw [ha, hb]
  | sub a b ha hb => simp only [sy_sub, ri_cv]; rw [ha, hb]
  | mul a b ha hb => simp only [sy_sub, ri_cv]; rw [ha, hb]
  | div a b ha hb => simp only [sy_sub, ri_cv]; rw [ha, hb]
  | rem a b ha hb => simp only [sy_sub, ri_cv]; rw [ha, hb]
  | op2 o a b ha hb => simp only [sy_sub, ri_cv]; rw [ha, hb]
  | op1 o a ha => simp only [sy_sub, ri_cv]; rw [ha]
  | _ => rfl
theorem sy_sub_k {f : Nat → Jvm.Term} (hf : sy_int f) (t : Jvm.Term) : ri_k (sy_sub f t) = ri_k t := by
  cases t <;> first | rfl | exact hf _
/-- conditions under it -/
def sy_cd (f : Nat → Jvm.Term) (q : ri_Cd) : ri_Cd := (q.1, sy_sub f q.2.1, sy_sub f q.2.2.1, q.2.2.2)
theorem sy_cd_sat {ρ : Nat → Int32} {f : Nat → Jvm.Term} (hf : sy_int f) (q : ri_Cd) : ri_sat ρ (sy_cd f q) ↔ ri_sat (fun i => ri_iv ρ (f i)) q := by
  unfold ri_sat sy_cd ri_iv
  dsimp only
  rw [sy_sub_cv hf, sy_sub_cv hf]
  exact Iff.rfl
/-- cells and worlds under it -/
def sy_ce (f : Nat → Jvm.Term) : ri_Ce → ri_Ce
  | .inl (ci, fs) => .inl (ci, fs.map (sy_sub f))
  | .inr (ty, n, d, ov) => .inr (ty, n, sy_sub f d, ov.map (fun q => (q.1, sy_sub f q.2)))
theorem sy_look {f : Nat → Jvm.Term} {d : Jvm.Term} {ov : List (Nat × Jvm.Term)} {j : Nat} : ri_look (sy_sub f d) (ov.map (fun q => (q.1, sy_sub f q.2))) j = sy_sub f (ri_look d ov j) := by
  unfold ri_look
  induction ov with
  | nil => rfl
  | cons q l ih =>
    rw [List.map_cons]
    by_cases h : (q.1 == j) = true
    · rw [List.find?_cons_of_pos (by exact h), List.find?_cons_of_pos (by exact h)]
    · rw [List.find?_cons_of_neg (by exact h), List.find?_cons_of_neg (by exact h)]
      exact ih
theorem sy_ce_s {ρ : Nat → Int32} {sa : String → Nat → Nat} {ad : Nat → Nat} {aty : List FieldType} {tyc : Nat → ClassId} {f : Nat → Jvm.Term} (hf : sy_int f) (ce : ri_Ce) : ri_ce ρ sa aty tyc ad (sy_ce f ce) = ri_ce (fun i => ri_iv ρ (f i)) sa aty tyc ad ce := by
  match ce with
  | .inl (ci, fs) =>
    show Sum.inr (ci, (fs.map (sy_sub f)).map (ri_cv ρ sa ad)) = Sum.inr (ci, fs.map (ri_cv (fun i => ri_iv ρ (f i)) sa ad))
    rw [List.map_map]
    congr 2
    exact List.map_congr_left fun t _ => sy_sub_cv hf t
  | .inr (ty, n, d, ov) =>
    simp only [ri_ce, sy_ce, sy_look]
    simp only [sy_sub_cv hf]
theorem sy_w_s {ρ : Nat → Int32} {sa : String → Nat → Nat} {ad : Nat → Nat} {aty : List FieldType} {tyc : Nat → ClassId} {f : Nat → Jvm.Term} (hf : sy_int f) (mem : ri_Me) : ri_w ρ sa aty tyc ad (mem.map (sy_ce f)) = ri_w (fun i => ri_iv ρ (f i)) sa aty tyc ad mem := by
  unfold ri_w
  apply List.ext_getElem?
  intro i
  rw [List.getElem?_mapIdx, List.getElem?_mapIdx, List.getElem?_map]
  cases mem[i]? with
  | none => rfl
  | some ce =>
    show some (ad i, ri_ce ρ sa aty tyc ad (sy_ce f ce)) = some (ad i, ri_ce (fun i => ri_iv ρ (f i)) sa aty tyc ad ce)
    rw [sy_ce_s hf]
end SY
