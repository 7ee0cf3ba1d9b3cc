/-! RA: cells -/
section RA
section RA3
variable {G : ri_Tb} {sh : ra_Sh} {b d : Nat} {M : ri_Mt} {pc len : Nat} {L L' : List (Option Jvm.Term)} {st : List Jvm.Term} {σ : ra_V} {Q : ra_Q} {mem : ri_Me}
theorem ra_rep_obj {k ci : Nat} {fl : List (Option Jvm.Term)} (h : ra_rep sh σ mem) (hs : sh[k]? = some (.inl (ci, fl))) : mem[k]? = some (.inl (ci, ra_fs (σ k) fl)) := by
  obtain ⟨e, h1, h2⟩ := h.2 k _ hs
  match e, h1, h2 with
  | .inl (ci2, fs), h1, h2 =>
    obtain ⟨rfl, rfl⟩ := h2
    exact h1
  | .inr _, _, h2 => exact absurd h2 (by simp [ra_cell])
theorem ra_rep_row {k ty n : Nat} {lg : Bool} (h : ra_rep sh σ mem) (hs : sh[k]? = some (.inr (ty, n, lg, none))) : ∃ d ov, mem[k]? = some (.inr (ty, n, d, ov)) ∧ ∀ j, j < n → ri_look d ov j = if lg = true then .long (σ k j).toInt64 else .int (σ k j) := by
  obtain ⟨e, h1, h2⟩ := h.2 k _ hs
  match e, h1, h2 with
  | .inr (ty2, n2, d, ov), h1, h2 =>
    obtain ⟨rfl, rfl, h3⟩ := h2
    exact ⟨d, ov, h1, h3⟩
  | .inl _, _, h2 => exact absurd h2 (by simp [ra_cell])
theorem ra_rep_ref {k ty n : Nat} {lg : Bool} {l : List Jvm.Term} (h : ra_rep sh σ mem) (hs : sh[k]? = some (.inr (ty, n, lg, some l))) : ∃ d ov, mem[k]? = some (.inr (ty, n, d, ov)) ∧ ∀ j, j < n → l[j]? = some (ri_look d ov j) := by
  obtain ⟨e, h1, h2⟩ := h.2 k _ hs
  match e, h1, h2 with
  | .inr (ty2, n2, d, ov), h1, h2 =>
    obtain ⟨rfl, rfl, h3⟩ := h2
    exact ⟨d, ov, h1, h3⟩
  | .inl _, _, h2 => exact absurd h2 (by simp [ra_cell])
theorem ra_rep_set {k : Nat} {e : ri_Ce} {hc : ra_Hc} {σ' : ra_V} (h : ra_rep sh σ mem) (hs : sh[k]? = some hc) (he : ra_cell (σ' k) hc e) (ho : ∀ a, a ≠ k → σ' a = σ a) : ra_rep sh σ' (mem.set k e) := by
  refine ⟨by rw [List.length_set]; exact h.1, fun a hc2 hs2 => ?_⟩
  by_cases ha : k = a
  · subst ha
    rw [hs] at hs2
    cases hs2
    have hl : k < mem.length := by rw [h.1]; exact (List.getElem?_eq_some_iff.mp hs).1
    exact ⟨e, List.getElem?_set_self hl, he⟩
  · rw [List.getElem?_set_ne ha, ho a (Ne.symm ha)]
    exact h.2 a hc2 hs2
theorem ra_fs_get {f : Nat → Int32} {fl : List (Option Jvm.Term)} {j : Nat} {o : Option Jvm.Term} (h : fl[j]? = some o) : (ra_fs f fl)[j]? = some (ra_fv f j o) := by
  unfold ra_fs
  rw [List.getElem?_mapIdx, h]
  rfl
theorem ra_fs_set {fl : List (Option Jvm.Term)} {k j : Nat} {z : Int} {o : Option Jvm.Term} {t : Jvm.Term} (h : fl[j]? = some o) (ht : ra_fv (ra_up σ k j z k) j o = t) : (ra_fs (σ k) fl).set j t = ra_fs (ra_up σ k j z k) fl := by
  apply List.ext_getElem?
  intro i
  have hl : j < (ra_fs (σ k) fl).length := by
    unfold ra_fs
    rw [List.length_mapIdx]
    exact (List.getElem?_eq_some_iff.mp h).1
  by_cases hi : j = i
  · subst hi
    rw [List.getElem?_set_self hl, ra_fs_get h, ht]
  · rw [List.getElem?_set_ne hi]
    unfold ra_fs
    rw [List.getElem?_mapIdx, List.getElem?_mapIdx]
    cases fl[i]? with
    | none => rfl
    | some o =>
      have e : ra_up σ k j z k i = σ k i := by
        unfold ra_up
        rw [if_neg (fun q => hi q.2.symm)]
      show some (ra_fv (σ k) i o) = some (ra_fv (ra_up σ k j z k) i o)
      unfold ra_fv
      rw [e]
theorem ra_up_eq {k j : Nat} {z : Int} : ra_up σ k j z k j = Int32.ofInt z := by
  unfold ra_up
  rw [if_pos ⟨rfl, rfl⟩]
theorem ra_up_ne {k j a : Nat} {z : Int} (h : a ≠ k) : ra_up σ k j z a = σ a := by
  funext i
  unfold ra_up
  rw [if_neg (fun q => h q.1)]
theorem ra_getf_e {kd ci idx k j : Nat} {tx : String} {fs : List Jvm.Term} {t : Jvm.Term} (hc : ri_cp G M idx = some (kd, ci, j, tx)) (hm : mem[k]? = some (.inl (ci, fs))) (hf : fs[j]? = some t) (hk : kd ≤ 1) : ri_heap G M [] (.getfield idx) (.index k :: st) mem = some (3, t :: st, mem, 0, 0, []) := by
  show ri_getf G M idx (.index k :: st) mem = _
  unfold ri_getf
  rw [hc]
  dsimp only
  rw [hm]
  dsimp only
  rw [hf]
  dsimp only
  rw [if_pos ⟨hk, rfl⟩]
theorem ra_getI {kd ci idx k j : Nat} {tx : String} {fl : List (Option Jvm.Term)} (hd : (ri_co M)[pc]? = some (some (.getfield idx, 3))) (hc : ri_cp G M idx = some (kd, ci, j, tx)) (hk : kd ≤ 1) (hs : sh[k]? = some (.inl (ci, fl))) (hf : fl[j]? = some none) (kk : ra_P G sh b d M (pc + 3) L (ra_I (ra_g σ k j) :: st) σ Q) : ra_P G sh b d M pc L (.index k :: st) σ Q := by
  refine ra_heap hd (fun _ => rfl) (fun mem h => ⟨mem, h, ?_⟩) kk
  rw [ra_I_g]
  exact ra_getf_e hc (ra_rep_obj h hs) (ra_fs_get hf) hk
theorem ra_getR {kd ci idx k j q : Nat} {tx : String} {fl : List (Option Jvm.Term)} (hd : (ri_co M)[pc]? = some (some (.getfield idx, 3))) (hc : ri_cp G M idx = some (kd, ci, j, tx)) (hk : kd ≤ 1) (hs : sh[k]? = some (.inl (ci, fl))) (hf : fl[j]? = some (some (.index q))) (kk : ra_P G sh b d M (pc + 3) L (.index q :: st) σ Q) : ra_P G sh b d M pc L (.index k :: st) σ Q := by
  refine ra_heap hd (fun _ => rfl) (fun mem h => ⟨mem, h, ?_⟩) kk
  exact ra_getf_e hc (ra_rep_obj h hs) (ra_fs_get hf) hk
theorem ra_getK {kd ci idx k j : Nat} {z : Int} {tx : String} {fl : List (Option Jvm.Term)} (hd : (ri_co M)[pc]? = some (some (.getfield idx, 3))) (hc : ri_cp G M idx = some (kd, ci, j, tx)) (hk : kd ≤ 1) (hs : sh[k]? = some (.inl (ci, fl))) (hf : fl[j]? = some (some (ra_I z))) (kk : ra_P G sh b d M (pc + 3) L (ra_I z :: st) σ Q) : ra_P G sh b d M pc L (.index k :: st) σ Q := by
  refine ra_heap hd (fun _ => rfl) (fun mem h => ⟨mem, h, ?_⟩) kk
  exact ra_getf_e hc (ra_rep_obj h hs) (ra_fs_get hf) hk
/-- a truth value -/
theorem ra_getB {kd ci idx k j : Nat} {tx : String} {fl : List (Option Jvm.Term)} (hd : (ri_co M)[pc]? = some (some (.getfield idx, 3))) (hc : ri_cp G M idx = some (kd, ci, j, tx)) (hk : kd ≤ 1) (hs : sh[k]? = some (.inl (ci, fl))) (hf : fl[j]? = some (some (.arg 0))) (kk : ra_P G sh b d M (pc + 3) L (ra_B (ra_g σ k j ≠ 0) :: st) σ Q) : ra_P G sh b d M pc L (.index k :: st) σ Q := by
  refine ra_heap hd (fun _ => rfl) (fun mem h => ⟨mem, h, ?_⟩) kk
  have e : ra_B (ra_g σ k j ≠ 0) = ra_fv (σ k) j (some (.arg 0)) := by
    unfold ra_fv ra_B
    have e0 : ra_g σ k j = 0 ↔ σ k j = 0 := by
      unfold ra_g
      rw [← Int32.toInt_inj]
      rfl
    by_cases h0 : σ k j = 0
    · rw [if_pos h0, if_neg (fun z => z (e0.mpr h0))]
      rfl
    · rw [if_neg h0, if_pos (fun z => h0 (e0.mp z))]
      rfl
  rw [e]
  exact ra_getf_e hc (ra_rep_obj h hs) (ra_fs_get hf) hk
/-- what a field takes: its type; that it isn't final -/
def ra_pf (G : ri_Tb) (ci j : Nat) : Option FieldType := match (ri_cls G)[ci]?, ((ri_fts G).getD ci [])[j]? with
  | some (_, T, _), some ty => if (T j).2.2.2 = false then some ty else none
  | _, _ => none
theorem ra_putf_e {kd ci idx k j : Nat} {tx : String} {fs : List Jvm.Term} {t : Jvm.Term} {ty : FieldType} (hc : ri_cp G M idx = some (kd, ci, j, tx)) (hm : mem[k]? = some (.inl (ci, fs))) (hj : j < fs.length) (hk : kd ≤ 1) (hp : ra_pf G ci j = some ty) (hfit : ri_fit ty t = true) : ri_heap G M [] (.putfield idx) (t :: .index k :: st) mem = some (3, st, mem.set k (.inl (ci, fs.set j t)), 0, 0, []) := by
  show ri_putf G M idx (t :: .index k :: st) mem = _
  unfold ri_putf
  rw [hc]
  dsimp only
  rw [hm]
  unfold ra_pf at hp
  split at hp
  · next C T N ty2 h1 h2 =>
    split at hp
    · next hT =>
      cases hp
      rw [h1, h2]
      dsimp only
      rw [if_pos ⟨hk, rfl, hj, hfit, Or.inl hT⟩]
    · cases hp
  · cases hp
theorem ra_putI {kd ci idx k j : Nat} {tx : String} {fl : List (Option Jvm.Term)} {z : Int} (hd : (ri_co M)[pc]? = some (some (.putfield idx, 3))) (hc : ri_cp G M idx = some (kd, ci, j, tx)) (hk : kd ≤ 1) (hs : sh[k]? = some (.inl (ci, fl))) (hf : fl[j]? = some none) (hp : ra_pf G ci j = some .int) (kk : ra_P G sh b d M (pc + 3) L st (ra_up σ k j z) Q) : ra_P G sh b d M pc L (ra_I z :: .index k :: st) σ Q := by
  refine ra_heap hd (fun _ => rfl) (fun mem h => ⟨_, ?_, ra_putf_e hc (ra_rep_obj h hs) ?_ hk hp rfl⟩) kk
  · exact ra_rep_set h hs ⟨rfl, ra_fs_set hf (congrArg Jvm.Term.int ra_up_eq)⟩ (fun a ha => ra_up_ne ha)
  · unfold ra_fs
    rw [List.length_mapIdx]
    exact (List.getElem?_eq_some_iff.mp hf).1
/-- a boolean field -/
theorem ra_putB {kd ci idx k j : Nat} {tx : String} {fl : List (Option Jvm.Term)} {z : Int} (hd : (ri_co M)[pc]? = some (some (.putfield idx, 3))) (hc : ri_cp G M idx = some (kd, ci, j, tx)) (hk : kd ≤ 1) (hs : sh[k]? = some (.inl (ci, fl))) (hf : fl[j]? = some (some (.arg 0))) (hp : ra_pf G ci j = some .boolean) (hz : z = 0 ∨ z = 1) (kk : ra_P G sh b d M (pc + 3) L st (ra_up σ k j z) Q) : ra_P G sh b d M pc L (ra_I z :: .index k :: st) σ Q := by
  refine ra_heap hd (fun _ => rfl) (fun mem h => ⟨_, ?_, ra_putf_e hc (ra_rep_obj h hs) ?_ hk hp (by rcases hz with rfl | rfl <;> decide)⟩) kk
  · refine ra_rep_set h hs ⟨rfl, ra_fs_set hf ?_⟩ (fun a ha => ra_up_ne ha)
    unfold ra_fv
    rw [ra_up_eq]
    rcases hz with rfl | rfl
    · rfl
    · rfl
  · unfold ra_fs
    rw [List.length_mapIdx]
    exact (List.getElem?_eq_some_iff.mp hf).1
/-! rows -/
theorem ra_ix {z : Int} {n : Nat} (h0 : 0 ≤ z) (h1 : z < n) (hn : n ≤ 2147483647) : ri_ix (ra_I z) n = some z.toNat := by
  have hz : ra_in z := ⟨by omega, by omega⟩
  have e : (Int32.ofInt z).toInt = z := ra_ofI hz
  have e2 : (Int32.ofInt z).toNatClampNeg = z.toNat := by
    show (Int32.ofInt z).toInt.toNat = _
    rw [e]
  show (if Int32.ofInt z < 0 ∨ n ≤ (Int32.ofInt z).toNatClampNeg then none else some (Int32.ofInt z).toNatClampNeg) = _
  rw [e2, if_neg]
  rintro (h | h)
  · rw [Int32.lt_iff_toInt_lt, e] at h
    have : (0 : Int32).toInt = 0 := by decide
    omega
  · omega
theorem ra_iaload {k ty n : Nat} {z : Int} (hd : (ri_co M)[pc]? = some (some (.iaload, 1))) (hs : sh[k]? = some (.inr (ty, n, false, none))) (hty : (ri_aty G)[ty]? = some .int) (hn : n ≤ 2147483647) (h0 : 0 ≤ z) (h1 : z < n) (kk : ra_P G sh b d M (pc + 1) L (ra_I (ra_g σ k z.toNat) :: st) σ Q) : ra_P G sh b d M pc L (ra_I z :: .index k :: st) σ Q := by
  refine ra_heap hd (fun _ => rfl) (fun mem h => ⟨mem, h, ?_⟩) kk
  obtain ⟨d0, ov, hm, hl⟩ := ra_rep_row h hs
  have hj := hl z.toNat (by omega)
  rw [if_neg (show ¬ (false = true) by decide)] at hj
  show ri_iald G [] (ra_I z :: .index k :: st) mem = _
  unfold ri_iald
  dsimp only
  rw [hm]
  dsimp only
  rw [if_pos hty, ra_ix h0 h1 hn]
  dsimp only
  rw [hj, ra_I_g, if_pos (show ri_k (.int (σ k z.toNat)) = 0 from rfl)]
theorem ra_sameC {t u : Jvm.Term} (h : ri_sameC t u = true) : t = u := by
  unfold ri_sameC at h
  split at h
  · next a b => rw [beq_iff_eq.mp h]
  · next a b => rw [beq_iff_eq.mp h]
  · rfl
  · cases h
theorem ra_put_look {d0 t : Jvm.Term} {ov : List (Nat × Jvm.Term)} {j i : Nat} : ri_look d0 (ri_put d0 ov j t) i = if i = j then t else ri_look d0 ov i := by
  unfold ri_put
  by_cases hij : i = j
  · subst hij
    rw [if_pos rfl]
    split
    · next hs => unfold ri_look; rw [ri_find_none]; exact (ra_sameC hs).symm
    · unfold ri_look; rw [List.find?_cons_of_pos (by simp)]
  · rw [if_neg hij]
    split
    · unfold ri_look; rw [ri_find_filter hij]
    · unfold ri_look; rw [List.find?_cons_of_neg (by simpa using Ne.symm hij), ri_find_filter hij]
theorem ra_iastore {k ty n : Nat} {z v : Int} (hd : (ri_co M)[pc]? = some (some (.iastore, 1))) (hs : sh[k]? = some (.inr (ty, n, false, none))) (hty : (ri_aty G)[ty]? = some .int) (hn : n ≤ 2147483647) (h0 : 0 ≤ z) (h1 : z < n) (kk : ra_P G sh b d M (pc + 1) L st (ra_up σ k z.toNat v) Q) : ra_P G sh b d M pc L (ra_I v :: ra_I z :: .index k :: st) σ Q := by
  refine ra_heap hd (fun _ => rfl) (fun mem h => ?_) kk
  obtain ⟨d0, ov, hm, hl⟩ := ra_rep_row h hs
  refine ⟨mem.set k (.inr (ty, n, d0, ri_put d0 ov z.toNat (ra_I v))), ra_rep_set h hs ⟨rfl, rfl, fun j hj => ?_⟩ (fun a ha => ra_up_ne ha), ?_⟩
  · rw [ra_put_look, if_neg (show ¬ (false = true) by decide)]
    unfold ra_up
    by_cases e : j = z.toNat
    · rw [if_pos e, if_pos ⟨rfl, e⟩]
    · rw [if_neg e, if_neg (fun q => e q.2)]
      have := hl j hj
      rw [if_neg (show ¬ (false = true) by decide)] at this
      exact this
  · show ri_iast G (ra_I v :: ra_I z :: .index k :: st) mem = _
    unfold ri_iast
    dsimp only
    rw [hm]
    dsimp only
    rw [ra_ix h0 h1 hn]
    dsimp only
    rw [if_pos ⟨hty, rfl⟩]
theorem ra_lastore {k ty n : Nat} {z v : Int} (hd : (ri_co M)[pc]? = some (some (.lastore, 1))) (hs : sh[k]? = some (.inr (ty, n, true, none))) (hty : (ri_aty G)[ty]? = some .long) (hn : n ≤ 2147483647) (h0 : 0 ≤ z) (h1 : z < n) (hv : ra_in v) (kk : ra_P G sh b d M (pc + 1) L st (ra_up σ k z.toNat v) Q) : ra_P G sh b d M pc L (ra_J v :: ra_I z :: .index k :: st) σ Q := by
  refine ra_heap hd (fun _ => rfl) (fun mem h => ?_) kk
  obtain ⟨d0, ov, hm, hl⟩ := ra_rep_row h hs
  refine ⟨mem.set k (.inr (ty, n, d0, ri_put d0 ov z.toNat (ra_J v))), ra_rep_set h hs ⟨rfl, rfl, fun j hj => ?_⟩ (fun a ha => ra_up_ne ha), ?_⟩
  · rw [ra_put_look, if_pos (show true = true from rfl)]
    unfold ra_up
    by_cases e : j = z.toNat
    · rw [if_pos e, if_pos ⟨rfl, e⟩, ra_i2l_e hv]
    · rw [if_neg e, if_neg (fun q => e q.2)]
      have := hl j hj
      rw [if_pos (show true = true from rfl)] at this
      exact this
  · show ri_last G (ra_J v :: ra_I z :: .index k :: st) mem = _
    unfold ri_last
    dsimp only
    rw [hm]
    dsimp only
    rw [ra_ix h0 h1 hn]
    dsimp only
    rw [if_pos ⟨hty, rfl⟩]
theorem ra_laload {k ty n : Nat} {z : Int} (hd : (ri_co M)[pc]? = some (some (.laload, 1))) (hs : sh[k]? = some (.inr (ty, n, true, none))) (hty : (ri_aty G)[ty]? = some .long) (hn : n ≤ 2147483647) (h0 : 0 ≤ z) (h1 : z < n) (kk : ra_P G sh b d M (pc + 1) L (ra_J (ra_g σ k z.toNat) :: st) σ Q) : ra_P G sh b d M pc L (ra_I z :: .index k :: st) σ Q := by
  refine ra_heap hd (fun _ => rfl) (fun mem h => ⟨mem, h, ?_⟩) kk
  obtain ⟨d0, ov, hm, hl⟩ := ra_rep_row h hs
  have hj := hl z.toNat (by omega)
  rw [if_pos (show true = true from rfl)] at hj
  have e : (σ k z.toNat).toInt64 = Int64.ofInt (ra_g σ k z.toNat) := by
    rw [← ra_i2l_e (ra_in_g σ k z.toNat)]
    unfold ra_g
    rw [Int32.ofInt_toInt]
  rw [e] at hj
  show ri_lald G (ra_I z :: .index k :: st) mem = _
  unfold ri_lald
  dsimp only
  rw [hm]
  dsimp only
  rw [ra_ix h0 h1 hn]
  dsimp only
  rw [hj, if_pos ⟨hty, rfl⟩]
theorem ra_aaload {k ty n : Nat} {lg : Bool} {z : Int} {l : List Jvm.Term} {t : Jvm.Term} {C : String} (hd : (ri_co M)[pc]? = some (some (.aaload, 1))) (hs : sh[k]? = some (.inr (ty, n, lg, some l))) (hty : (ri_aty G)[ty]? = some (.object C)) (hn : n ≤ 2147483647) (h0 : 0 ≤ z) (h1 : z < n) (ht : l[z.toNat]? = some t) (hk : ra_kok 2 t = true) (kk : ra_P G sh b d M (pc + 1) L (t :: st) σ Q) : ra_P G sh b d M pc L (ra_I z :: .index k :: st) σ Q := by
  refine ra_heap hd (fun _ => rfl) (fun mem h => ⟨mem, h, ?_⟩) kk
  obtain ⟨d0, ov, hm, hl⟩ := ra_rep_ref h hs
  have hj := hl z.toNat (by omega)
  rw [ht] at hj
  have e := Option.some.inj hj
  show ri_aald G (ra_I z :: .index k :: st) mem = _
  unfold ri_aald
  dsimp only
  rw [hm]
  dsimp only
  rw [ra_ix h0 h1 hn, hty]
  dsimp only
  rw [← e, if_pos (ra_kok2 hk)]
theorem ra_alen_e {k ty n : Nat} {ft : FieldType} {dd : Jvm.Term} {ov : List (Nat × Jvm.Term)} (hm : mem[k]? = some (.inr (ty, n, dd, ov))) (hty : (ri_aty G)[ty]? = some ft) : ri_heap G M [] .arraylength (.index k :: st) mem = some (1, ra_I n :: st, mem, 0, 0, []) := by
  show ri_alen G (.index k :: st) mem = _
  unfold ri_alen
  dsimp only
  rw [hm]
  dsimp only
  rw [hty]
  dsimp only
  rw [ri_ci_eq]
  rfl
theorem ra_alen {k ty n : Nat} {lg : Bool} {l : Option (List Jvm.Term)} {ft : FieldType} (hd : (ri_co M)[pc]? = some (some (.arraylength, 1))) (hs : sh[k]? = some (.inr (ty, n, lg, l))) (hty : (ri_aty G)[ty]? = some ft) (kk : ra_P G sh b d M (pc + 1) L (ra_I n :: st) σ Q) : ra_P G sh b d M pc L (.index k :: st) σ Q := by
  refine ra_heap hd (fun _ => rfl) (fun mem h => ⟨mem, h, ?_⟩) kk
  cases l with
  | none => obtain ⟨d0, ov, hm, -⟩ := ra_rep_row h hs; exact ra_alen_e hm hty
  | some l => obtain ⟨d0, ov, hm, -⟩ := ra_rep_ref h hs; exact ra_alen_e hm hty
/-- a whole row of ints over another -/
def ra_cpy (σ : ra_V) (k0 k1 : Nat) : ra_V := fun a b => if a = k1 then σ k0 b else σ a b
theorem ra_acopy {idx k0 k1 ty n a1 b1 : Nat} {tx : String} {x0 : Int} {z1 z2 : Int} (hd : (ri_co M)[pc]? = some (some (.invokestatic idx, 3))) (hc : ri_cp G M idx = some (12, a1, b1, tx)) (hs0 : sh[k0]? = some (.inr (ty, n, false, none))) (hs1 : sh[k1]? = some (.inr (ty, n, false, none))) (hty : (ri_aty G)[ty]? = some .int) (hn : n ≤ 2147483647) (hx : x0 = n) (hz1 : z1 = 0) (hz2 : z2 = 0) (hst : st.length ≤ 4) (kk : ra_P G sh b d M (pc + 3) L st (ra_cpy σ k0 k1) Q) : ra_P G sh b d M pc L (ra_I x0 :: ra_I z2 :: .index k1 :: ra_I z1 :: .index k0 :: st) σ Q := by
  subst hx hz1 hz2
  refine ra_heap hd (fun _ => rfl) (fun mem h => ?_) kk
  obtain ⟨d0, ov0, hm0, hl0⟩ := ra_rep_row h hs0
  obtain ⟨d1, ov1, hm1, hl1⟩ := ra_rep_row h hs1
  refine ⟨mem.set k1 (.inr (ty, n, d0, ov0)), ra_rep_set h hs1 ⟨rfl, rfl, fun j hj => ?_⟩ (fun a ha => funext fun i => by unfold ra_cpy; rw [if_neg ha]), ?_⟩
  · rw [hl0 j hj]
    unfold ra_cpy
    rw [if_pos rfl]
  · have e : (Int32.ofInt (n : Int)).toInt = n := ra_ofI ⟨by omega, by omega⟩
    have e2 : (Int32.ofInt (n : Int)).toNatClampNeg = n := by
      show (Int32.ofInt (n : Int)).toInt.toNat = _
      rw [e]
      rfl
    have e3 : ¬ Int32.ofInt (n : Int) < 0 := fun q => by
      rw [Int32.lt_iff_toInt_lt, e] at q
      have : (0 : Int32).toInt = 0 := by decide
      omega
    show (match ri_cp G M idx with
      | some (12, _, _, _) => ri_acpy G (ra_I n :: ra_I 0 :: .index k1 :: ra_I 0 :: .index k0 :: st) mem
      | _ => none) = _
    rw [hc]
    show ri_acpy G (ra_I n :: ra_I 0 :: .index k1 :: ra_I 0 :: .index k0 :: st) mem = _
    unfold ri_acpy
    dsimp only
    rw [hm0, hm1]
    dsimp only
    rw [if_pos ⟨hty, rfl, rfl, rfl, rfl, e3, e2, hst⟩]
/-! constants out of the table -/
theorem ra_ldcI {idx a1 b1 : Nat} {tx : String} {z : Int} (hd : (ri_co M)[pc]? = some (some (.ldc idx, 2))) (hc : ri_cp G M idx = some (8, a1, b1, tx)) (hz : Int32.ofNat a1 - Int32.ofNat b1 = Int32.ofInt z) (kk : ra_P G sh b d M (pc + 2) L (ra_I z :: st) σ Q) : ra_P G sh b d M pc L st σ Q := by
  refine ra_heap hd (fun _ => rfl) (fun mem h => ⟨mem, h, ?_⟩) kk
  show ri_ldc G M idx st mem = _
  unfold ri_ldc
  rw [hc]
  show some (2, ri_ci (Int32.ofNat a1 - Int32.ofNat b1) :: st, mem, 0, 0, []) = _
  rw [hz, ra_ciI]
theorem ra_ldcS {idx a1 b1 : Nat} {tx : String} (hd : (ri_co M)[pc]? = some (some (.ldc idx, 2))) (hc : ri_cp G M idx = some (9, a1, b1, tx)) (kk : ra_P G sh b d M (pc + 2) L (.string (ri_own M) idx :: st) σ Q) : ra_P G sh b d M pc L st σ Q := by
  refine ra_heap hd (fun _ => rfl) (fun mem h => ⟨mem, h, ?_⟩) kk
  show ri_ldc G M idx st mem = _
  unfold ri_ldc
  rw [hc]
  rfl
theorem ra_ldcwS {idx a1 b1 : Nat} {tx : String} (hd : (ri_co M)[pc]? = some (some (.ldc_w idx, 3))) (hc : ri_cp G M idx = some (9, a1, b1, tx)) (kk : ra_P G sh b d M (pc + 3) L (.string (ri_own M) idx :: st) σ Q) : ra_P G sh b d M pc L st σ Q := by
  refine ra_heap hd (fun _ => rfl) (fun mem h => ⟨mem, h, ?_⟩) kk
  show ri_ldcw G M idx st mem = _
  unfold ri_ldcw
  rw [hc]
  rfl
theorem ra_ldc2 {idx a1 b1 : Nat} {tx : String} {z : Int} (hd : (ri_co M)[pc]? = some (some (.ldc2_w idx, 3))) (hc : ri_cp G M idx = some (14, a1, b1, tx)) (hz : Int64.ofNat a1 - Int64.ofNat b1 = Int64.ofInt z) (kk : ra_P G sh b d M (pc + 3) L (ra_J z :: st) σ Q) : ra_P G sh b d M pc L st σ Q := by
  refine ra_heap hd (fun _ => rfl) (fun mem h => ⟨mem, h, ?_⟩) kk
  show ri_ldc2 G M idx st mem = _
  unfold ri_ldc2
  rw [hc]
  show some (3, ri_cl (Int64.ofNat a1 - Int64.ofNat b1) :: st, mem, 0, 0, []) = _
  rw [hz, ra_clJ]
/-! the script -/
theorem ra_sld {z : Int} (hd : (ri_co M)[pc]? = some (some (.iaload, 1))) (hw : ri_lw M = true) (hn : ri_sn G ≤ 2147483647) (h0 : 0 ≤ z) (h1 : z < ri_sn G) (kk : ra_P G sh b d M (pc + 1) L (ra_I (ri_sf G z.toNat).toInt :: st) σ Q) : ra_P G sh b d M pc L (ra_I z :: .string "" 0 :: st) σ Q := by
  refine ra_heap hd (fun _ => rfl) (fun mem h => ⟨mem, h, ?_⟩) kk
  have e : ri_sld G M (ra_I z :: .string "" 0 :: st) mem = some (1, ra_I (ri_sf G z.toNat).toInt :: st, mem, 0, 0, []) := by
    unfold ri_sld
    dsimp only
    rw [ra_ix h0 h1 hn]
    dsimp only
    rw [if_pos ⟨hw, rfl, rfl⟩]
    show _ = some (1, Jvm.Term.int (Int32.ofInt (ri_sf G z.toNat).toInt) :: st, mem, 0, 0, [])
    rw [Int32.ofInt_toInt]
  simp only [ri_heap]
  rw [e]
theorem ra_slen (hd : (ri_co M)[pc]? = some (some (.arraylength, 1))) (hw : ri_lw M = true) (kk : ra_P G sh b d M (pc + 1) L (ra_I (ri_sn G) :: st) σ Q) : ra_P G sh b d M pc L (.string "" 0 :: st) σ Q := by
  refine ra_heap hd (fun _ => rfl) (fun mem h => ⟨mem, h, ?_⟩) kk
  have e : ri_slen G M (.string "" 0 :: st) mem = some (1, ra_I (ri_sn G) :: st, mem, 0, 0, []) := by
    unfold ri_slen
    dsimp only
    rw [if_pos ⟨hw, rfl, rfl⟩]
    rfl
  simp only [ri_heap]
  rw [e]
end RA3
end RA
