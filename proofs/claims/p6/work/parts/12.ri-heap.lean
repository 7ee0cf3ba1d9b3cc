/-! RI: the world over closed data: objects and arrays by numbers -/
section RIH
abbrev ri_Ce : Type := (Nat × List Jvm.Term) ⊕ (Nat × Nat × Jvm.Term × List (Nat × Jvm.Term))
abbrev ri_Me : Type := List ri_Ce
def ri_look (d : Jvm.Term) (ov : List (Nat × Jvm.Term)) (j : Nat) : Jvm.Term := match ov.find? (fun q => q.1 == j) with
  | some q => q.2
  | none => d
def ri_sameC (t d : Jvm.Term) : Bool := match t, d with
  | .int a, .int b => a == b
  | .long a, .long b => a == b
  | .null, .null => true
  | _, _ => false
def ri_put (d : Jvm.Term) (ov : List (Nat × Jvm.Term)) (j : Nat) (t : Jvm.Term) : List (Nat × Jvm.Term) :=
  if ri_sameC t d = true then ov.filter (fun q => !(q.1 == j)) else (j, t) :: ov.filter (fun q => !(q.1 == j))
def ri_isR : Option FieldType → Bool
  | some (.object _) => true
  | some (.array _) => true
  | _ => false
def ri_isJ : Option FieldType → Bool
  | some .long => true
  | _ => false
section RIH1
variable (ρ : Nat → Int32) (sa : String → Nat → Nat) (aty : List FieldType) (tyc : Nat → ClassId) (ad : Nat → Nat)
def ri_ce : ri_Ce → va_E
  | .inl (ci, fs) => .inr (ci, fs.map (ri_cv ρ sa ad))
  | .inr (ty, n, d, ov) => .inl (tyc ty, n, if ri_isR aty[ty]? = true then .inr (.inr (.inr (.inr (fun j => ri_gR (ri_cv ρ sa ad (ri_look d ov j)))))) else if ri_isJ aty[ty]? = true then .inr (.inl (fun j => ri_gL (ri_cv ρ sa ad (ri_look d ov j)))) else .inl (fun j => ri_gI (ri_cv ρ sa ad (ri_look d ov j))))
def ri_w (mem : ri_Me) : va_W := mem.mapIdx (fun k e => (ad k, ri_ce ρ sa aty tyc ad e))
end RIH1
/-- the references of a value, of a cell, of a world lie below n -/
def ri_ok (n : Nat) : Jvm.Term → Prop
  | .index k => k < n
  | _ => True
def ri_okC (n : Nat) : ri_Ce → Prop
  | .inl (_, fs) => ∀ t ∈ fs, ri_ok n t
  | .inr (_, _, d, ov) => ri_ok n d ∧ ∀ q ∈ ov, ri_ok n q.2
def ri_okM (n : Nat) (mem : ri_Me) : Prop := ∀ e ∈ mem, ri_okC n e
def ri_ag (n : Nat) (ad ad' : Nat → Nat) : Prop := ∀ k, k < n → ad' k = ad k
section RIH2
variable {ρ : Nat → Int32} {sa : String → Nat → Nat} {aty : List FieldType} {tyc : Nat → ClassId} {ad ad' : Nat → Nat} {n n' : Nat} {mem : ri_Me}
theorem ri_ok_mono {t : Jvm.Term} (h : ri_ok n t) (hn : n ≤ n') : ri_ok n' t := by
  cases t <;> first | trivial | exact Nat.lt_of_lt_of_le h hn
theorem ri_okC_mono {e : ri_Ce} (h : ri_okC n e) (hn : n ≤ n') : ri_okC n' e := by
  match e, h with
  | .inl (_, fs), h => exact fun t ht => ri_ok_mono (h t ht) hn
  | .inr (_, _, d, ov), h => exact ⟨ri_ok_mono h.1 hn, fun q hq => ri_ok_mono (h.2 q hq) hn⟩
theorem ri_okM_mono (h : ri_okM n mem) (hn : n ≤ n') : ri_okM n' mem := fun e he => ri_okC_mono (h e he) hn
theorem ri_ag_rf : ri_ag n ad ad := fun _ _ => rfl
theorem ri_ag_tr {ad2 : Nat → Nat} (h1 : ri_ag n ad ad') (h2 : ri_ag n' ad' ad2) (hn : n ≤ n') : ri_ag n ad ad2 := fun k hk => (h2 k (Nat.lt_of_lt_of_le hk hn)).trans (h1 k hk)
theorem ri_ag_sub (h : ri_ag n' ad ad') (hn : n ≤ n') : ri_ag n ad ad' := fun k hk => h k (Nat.lt_of_lt_of_le hk hn)
theorem ri_cv_ag {t : Jvm.Term} (h : ri_ok n t) (ha : ri_ag n ad ad') : ri_cv ρ sa ad' t = ri_cv ρ sa ad t := by
  by_cases hi : ∃ k, t = .index k
  · obtain ⟨k, rfl⟩ := hi
    show Value.ref (ad' k) = .ref (ad k)
    rw [ha k h]
  · exact ri_num t fun k e => hi ⟨k, e⟩
theorem ri_map_ag {l : List Jvm.Term} (h : ∀ t ∈ l, ri_ok n t) (ha : ri_ag n ad ad') : l.map (ri_cv ρ sa ad') = l.map (ri_cv ρ sa ad) := List.map_congr_left fun t ht => ri_cv_ag (h t ht) ha
theorem ri_lc_ag {lv : List (Nat × Jvm.Term)} (h : ∀ q ∈ lv, ri_ok n q.2) (ha : ri_ag n ad ad') : ri_lc ρ sa ad' lv = ri_lc ρ sa ad lv := List.map_congr_left fun q hq => by rw [ri_cv_ag (h q hq) ha]
theorem ri_look_ok {d : Jvm.Term} {ov : List (Nat × Jvm.Term)} {j : Nat} (hd : ri_ok n d) (ho : ∀ q ∈ ov, ri_ok n q.2) : ri_ok n (ri_look d ov j) := by
  unfold ri_look
  split
  · next q hq => exact ho q (List.mem_of_find?_eq_some hq)
  · exact hd
theorem ri_ce_ag {e : ri_Ce} (h : ri_okC n e) (ha : ri_ag n ad ad') : ri_ce ρ sa aty tyc ad' e = ri_ce ρ sa aty tyc ad e := by
  match e, h with
  | .inl (ci, fs), h => show Sum.inr (ci, fs.map (ri_cv ρ sa ad')) = Sum.inr (ci, fs.map (ri_cv ρ sa ad)); rw [ri_map_ag h ha]
  | .inr (ty, n9, d, ov), h =>
    have e1 : (fun j => ri_gR (ri_cv ρ sa ad' (ri_look d ov j))) = (fun j => ri_gR (ri_cv ρ sa ad (ri_look d ov j))) := funext fun j => by rw [ri_cv_ag (ri_look_ok h.1 h.2) ha]
    have e2 : (fun j => ri_gI (ri_cv ρ sa ad' (ri_look d ov j))) = (fun j => ri_gI (ri_cv ρ sa ad (ri_look d ov j))) := funext fun j => by rw [ri_cv_ag (ri_look_ok h.1 h.2) ha]
    have e3 : (fun j => ri_gL (ri_cv ρ sa ad' (ri_look d ov j))) = (fun j => ri_gL (ri_cv ρ sa ad (ri_look d ov j))) := funext fun j => by rw [ri_cv_ag (ri_look_ok h.1 h.2) ha]
    simp only [ri_ce]
    rw [e1, e2, e3]
theorem ri_w_get {k : Nat} {e : ri_Ce} (h : mem[k]? = some e) : (ri_w ρ sa aty tyc ad mem)[k]? = some (ad k, ri_ce ρ sa aty tyc ad e) := by
  unfold ri_w
  rw [List.getElem?_mapIdx, h]
  rfl
theorem ri_w_set {k : Nat} {e : ri_Ce} : (ri_w ρ sa aty tyc ad mem).set k (ad k, ri_ce ρ sa aty tyc ad e) = ri_w ρ sa aty tyc ad (mem.set k e) := by
  apply List.ext_getElem?
  intro i
  unfold ri_w
  rw [List.getElem?_mapIdx, List.getElem?_set, List.getElem?_set]
  by_cases hi : k = i
  · subst hi
    by_cases hl : k < mem.length
    · simp [hl]
    · simp [hl]
  · simp [hi]
theorem ri_w_push {q : Nat} {e : ri_Ce} (h : ri_okM mem.length mem) : ri_w ρ sa aty tyc (fun k => if k = mem.length then q else ad k) (mem ++ [e]) = ri_w ρ sa aty tyc ad mem ++ [(q, ri_ce ρ sa aty tyc (fun k => if k = mem.length then q else ad k) e)] := by
  have ha : ri_ag mem.length ad (fun k => if k = mem.length then q else ad k) := fun k hk => if_neg (Nat.ne_of_lt hk)
  apply List.ext_getElem?
  intro i
  unfold ri_w
  by_cases hi : i < mem.length
  · rw [List.getElem?_mapIdx, List.getElem?_append_left hi, List.getElem?_append_left (by simpa using hi), List.getElem?_mapIdx]
    cases hm : mem[i]? with
    | none => rfl
    | some e9 =>
      have he := h e9 (List.mem_of_getElem? hm)
      show some ((fun k => if k = mem.length then q else ad k) i, ri_ce ρ sa aty tyc (fun k => if k = mem.length then q else ad k) e9) = some (ad i, ri_ce ρ sa aty tyc ad e9)
      rw [ri_ce_ag he ha, ha i hi]
  · rw [List.getElem?_mapIdx, List.getElem?_append_right (by omega), List.getElem?_append_right (by simpa using hi)]
    simp only [List.length_mapIdx]
    by_cases h0 : i = mem.length
    · subst h0
      simp
    · have : i - mem.length ≠ 0 := by omega
      obtain ⟨j, hj⟩ : ∃ j, i - mem.length = j + 1 := ⟨i - mem.length - 1, by omega⟩
      rw [hj]
      rfl
theorem ri_w_ag (h : ri_okM n mem) (hn : mem.length ≤ n) (ha : ri_ag n ad ad') : ri_w ρ sa aty tyc ad' mem = ri_w ρ sa aty tyc ad mem := by
  apply List.ext_getElem?
  intro i
  unfold ri_w
  rw [List.getElem?_mapIdx, List.getElem?_mapIdx]
  cases hm : mem[i]? with
  | none => rfl
  | some e9 =>
    have hi : i < mem.length := (List.getElem?_eq_some_iff.mp hm).1
    show some (ad' i, ri_ce ρ sa aty tyc ad' e9) = some (ad i, ri_ce ρ sa aty tyc ad e9)
    rw [ri_ce_ag (h e9 (List.mem_of_getElem? hm)) ha, ha i (Nat.lt_of_lt_of_le hi hn)]
theorem ri_find_filter {ov : List (Nat × Jvm.Term)} {j i : Nat} (h : i ≠ j) : (ov.filter (fun q => !(q.1 == j))).find? (fun q => q.1 == i) = ov.find? (fun q => q.1 == i) := by
  induction ov with
  | nil => rfl
  | cons a l ih =>
    by_cases ha : a.1 = j
    · have h1 : (!(a.1 == j)) = false := by simp [ha]
      have h2 : (a.1 == i) = false := by simp [ha, Ne.symm h]
      rw [List.filter_cons_of_neg (by simp [ha]), List.find?_cons_of_neg (by simp [h2]), ih]
    · rw [List.filter_cons_of_pos (by simp [ha])]
      by_cases h3 : a.1 = i
      · rw [List.find?_cons_of_pos (by simp [h3]), List.find?_cons_of_pos (by simp [h3])]
      · rw [List.find?_cons_of_neg (by simp [h3]), List.find?_cons_of_neg (by simp [h3]), ih]
theorem ri_find_none {ov : List (Nat × Jvm.Term)} {j : Nat} : (ov.filter (fun q => !(q.1 == j))).find? (fun q => q.1 == j) = none := by
  rw [List.find?_eq_none]
  intro q hq
  have h := (List.mem_filter.mp hq).2
  simp at h ⊢
  exact h
theorem ri_sameC_s {t d : Jvm.Term} (h : ri_sameC t d = true) : ri_cv ρ sa ad t = ri_cv ρ sa ad d := by
  unfold ri_sameC at h
  split at h
  · next a b => rw [beq_iff_eq.mp h]
  · next a b => rw [beq_iff_eq.mp h]
  · rfl
  · cases h
theorem ri_put_cv {d t : Jvm.Term} {ov : List (Nat × Jvm.Term)} {j i : Nat} : ri_cv ρ sa ad (ri_look d (ri_put d ov j t) i) = if i = j then ri_cv ρ sa ad t else ri_cv ρ sa ad (ri_look d ov i) := by
  unfold ri_put
  by_cases hij : i = j
  · subst hij
    rw [if_pos rfl]
    split
    · next hs => unfold ri_look; rw [ri_find_none]; exact (ri_sameC_s hs).symm
    · unfold ri_look; rw [List.find?_cons_of_pos (by simp)]
  · rw [if_neg hij]
    split
    · unfold ri_look; rw [ri_find_filter hij]
    · unfold ri_look; rw [List.find?_cons_of_neg (by simpa using Ne.symm hij), ri_find_filter hij]
theorem ri_put_ok {d t : Jvm.Term} {ov : List (Nat × Jvm.Term)} {j : Nat} (ht : ri_ok n t) (ho : ∀ q ∈ ov, ri_ok n q.2) : ∀ q ∈ ri_put d ov j t, ri_ok n q.2 := by
  unfold ri_put
  intro q hq
  split at hq
  · exact ho q (List.mem_filter.mp hq).1
  · rcases List.mem_cons.mp hq with rfl | hq
    · exact ht
    · exact ho q (List.mem_filter.mp hq).1
theorem ri_okM_set {k : Nat} {e : ri_Ce} (h : ri_okM n mem) (he : ri_okC n e) : ri_okM n (mem.set k e) := fun x hx => by
  rcases List.mem_or_eq_of_mem_set hx with h1 | h1
  · exact h x h1
  · rw [h1]; exact he
theorem ri_okM_push {e : ri_Ce} (h : ri_okM n mem) (he : ri_okC (n + 1) e) : ri_okM (n + 1) (mem ++ [e]) := fun x hx => by
  rcases List.mem_append.mp hx with h1 | h1
  · exact ri_okC_mono (h x h1) (Nat.le_succ n)
  · rw [List.mem_singleton.mp h1]; exact he
theorem ri_ok_set {fs : List Jvm.Term} {j : Nat} {t : Jvm.Term} (h : ∀ x ∈ fs, ri_ok n x) (ht : ri_ok n t) : ∀ x ∈ fs.set j t, ri_ok n x := fun x hx => by
  rcases List.mem_or_eq_of_mem_set hx with h1 | h1
  · exact h x h1
  · rw [h1]; exact ht
theorem ri_map_set {fs : List Jvm.Term} {j : Nat} {t : Jvm.Term} : (fs.map (ri_cv ρ sa ad)).set j (ri_cv ρ sa ad t) = (fs.set j t).map (ri_cv ρ sa ad) := by
  rw [List.map_set]
end RIH2
end RIH
