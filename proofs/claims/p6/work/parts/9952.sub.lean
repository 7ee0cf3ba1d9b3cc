/-! RI: of an end only the answer 1; a world that is a part of another, its cells otherwise numbered -/
section RIU
def ri_lf1 : ri_Lf := ([], [], .inl (some (.int 1)))
def ri_Rz (c s : Nat) : ri_Rs := ([], c, s, [])
def ri_okB (c s : Nat) (r : ri_Rs) : Bool := r.1.all (fun x => match x.2.2 with
  | .inl (some (.int v)) => v == 1
  | _ => false) && (Nat.ble r.2.1 c && (Nat.ble r.2.2.1 s && r.2.2.2.isEmpty))
section RIU1
variable {p : Program} {l : Launch} {e : Env} {R : Room} {s : State} {m : MethodId} {args : Array Value} {below : List Frame} {meth : Method} {c : Code} {G : ri_Tb} {M : ri_Mt} {D : va_G} {tyc : Nat → ClassId} {A : Nat → Prop} {ρ : Nat → Int32} {sa : String → Nat → Nat} {ad0 : Nat → Nat} {LT : List ri_Lf} {mcT msT : Nat}
variable {pc : Nat} {lv lv2 : List (Nat × Jvm.Term)} {st st2 : List Jvm.Term} {cs cs2 : List ri_Cd} {mem mem2 : ri_Me} {rs : ri_Rs} {kc ks : Nat}
/-- where the walk comes to its end with 1, whatever else held -/
abbrev ri_Go (p : Program) (l : Launch) (e : Env) (R : Room) (s : State) (m : MethodId) (args : Array Value) (below : List Frame) (meth : Method) (c : Code) (G : ri_Tb) (M : ri_Mt) (D : va_G) (tyc : Nat → ClassId) (A : Nat → Prop) (ρ : Nat → Int32) (sa : String → Nat → Nat) (ad0 : Nat → Nat) (mcT msT pc : Nat) (lv : List (Nat × Jvm.Term)) (st : List Jvm.Term) (cs : List ri_Cd) (mem : ri_Me) (kc ks : Nat) : Prop :=
  ri_So p l e R s m args below meth c G M D tyc A ρ sa 0 ad0 [ri_lf1] mcT msT pc lv st cs mem (ri_Rz kc ks)
theorem ri_to1 (h : ri_So p l e R s m args below meth c G M D tyc A ρ sa 0 ad0 rs.1 mcT msT pc lv st cs mem rs) (hok : ri_okB kc ks rs = true) : ri_Go p l e R s m args below meth c G M D tyc A ρ sa ad0 mcT msT pc lv st cs mem kc ks := by
  unfold ri_okB at hok
  simp only [Bool.and_eq_true] at hok
  obtain ⟨k1, k2, k3, k4⟩ := hok
  have k2 := Nat.le_of_ble_eq_true k2
  have k3 := Nat.le_of_ble_eq_true k3
  have k4 := List.isEmpty_iff.mp k4
  have hlf : ∀ x ∈ rs.1, x.2.2 = .inl (some (.int 1)) := by
    intro x hx
    have h1 := List.all_eq_true.mp k1 x hx
    split at h1
    · next v hv => rw [hv, beq_iff_eq.mp h1]
    · cases h1
  intro ad ls H locs cells slots h1 h2 h3 h4 h5 h6 h7 h8 h9 h10 h11 h12 h13 h14
  have h12 : cells + kc ≤ mcT := h12
  have h13 : slots + ks ≤ msT := h13
  have W := h ad ls H locs cells slots h1 h2 h3 h4 h5 h6 h7 h8 h9 h10 (fun x hx => hx) (by omega) (by omega) (fun o ho => by rw [k4] at ho; cases ho)
  intro T hT X
  obtain ⟨t, a, o, b1, b2, hq⟩ := W T hT X
  refine ⟨t, a, o, b1, b2, ?_⟩
  rcases hq with ⟨⟨lf, hm, tm, ad', e1, e2, e3, f1, f2, f3, f4, f5, f6, f7⟩, hfe⟩ | ⟨q, eo, E, ce, L, ⟨lf, hm, ad', e1, -⟩, -⟩
  · have e4 := hlf lf hm
    rw [e4] at e1
    cases e1
    refine Or.inl ⟨⟨ri_lf1, List.mem_cons_self, some (.int 1), ad', rfl, e2, fun z hz => by cases hz; trivial, fun k hk => absurd hk (Nat.not_lt_zero k), fun q hq => (by cases hq), Nat.le_refl 0, fun e he => (by cases he), fun k q hk => (by cases hk), ⟨fun i j p q h => (by cases h), fun k q h => (by cases h)⟩, f7⟩, hfe⟩
  · have e4 := hlf lf hm
    rw [e4] at e1
    cases e1
def ri_rn (π : List Nat) (t : Jvm.Term) : Jvm.Term := match t with
  | .index k => .index (π.getD k 0)
  | t => t
def ri_rnC (π : List Nat) : ri_Ce → ri_Ce
  | .inl (ci, fs) => .inl (ci, fs.map (ri_rn π))
  | .inr (ty, n, d, ov) => .inr (ty, n, ri_rn π d, ov.map (fun q => (q.1, ri_rn π q.2)))
theorem ri_rn_cv {π : List Nat} {ad : Nat → Nat} (t : Jvm.Term) : ri_cv ρ sa (fun k => ad (π.getD k 0)) t = ri_cv ρ sa ad (ri_rn π t) := by
  by_cases hi : ∃ k, t = .index k
  · obtain ⟨k, rfl⟩ := hi
    rfl
  · have e : ri_rn π t = t := by
      unfold ri_rn
      split
      · next k => exact absurd ⟨k, rfl⟩ hi
      · rfl
    rw [e]
    exact ri_num t fun k e => hi ⟨k, e⟩
theorem ri_rn_look {π : List Nat} {d : Jvm.Term} {ov : List (Nat × Jvm.Term)} {j : Nat} : ri_look (ri_rn π d) (ov.map (fun q => (q.1, ri_rn π q.2))) j = ri_rn π (ri_look d ov j) := by
  unfold ri_look
  induction ov with
  | nil => rfl
  | cons q l ih =>
    rw [List.map_cons]
    by_cases h : (q.1 == j) = true
    · rw [List.find?_cons_of_pos (by exact h), List.find?_cons_of_pos (by exact h)]
    · rw [List.find?_cons_of_neg (by exact h), List.find?_cons_of_neg (by exact h)]
      exact ih
theorem ri_rn_ce {π : List Nat} {ad : Nat → Nat} {aty : List FieldType} (ce : ri_Ce) : ri_ce ρ sa aty tyc (fun k => ad (π.getD k 0)) ce = ri_ce ρ sa aty tyc ad (ri_rnC π ce) := by
  match ce with
  | .inl (ci, fs) =>
    show Sum.inr (ci, fs.map (ri_cv ρ sa (fun k => ad (π.getD k 0)))) = Sum.inr (ci, (fs.map (ri_rn π)).map (ri_cv ρ sa ad))
    rw [List.map_map]
    congr 2
    exact List.map_congr_left fun t _ => ri_rn_cv t
  | .inr (ty, n, d, ov) =>
    simp only [ri_ce, ri_rnC, ri_rn_look]
    simp only [ri_rn_cv]
/-- cell by cell -/
def ri_subL (π0 : List Nat) (mem : ri_Me) : List Nat → ri_Me → Bool
  | [], [] => true
  | k :: ks, e :: es => (match mem[k]? with
    | some e' => ri_eqC e' (ri_rnC π0 e)
    | none => false) && ri_subL π0 mem ks es
  | _, _ => false
theorem ri_subL_s {π0 : List Nat} : ∀ (ks : List Nat) (es : ri_Me), ri_subL π0 mem ks es = true → ks.length = es.length ∧ ∀ (i : Nat) (ce : ri_Ce), es[i]? = some ce → ∃ k, ks[i]? = some k ∧ mem[k]? = some (ri_rnC π0 ce)
  | [], [], _ => ⟨rfl, fun i ce h => (by cases h)⟩
  | k :: ks, e9 :: es, h => by
    unfold ri_subL at h
    rw [Bool.and_eq_true] at h
    obtain ⟨h1, h2⟩ := h
    obtain ⟨g1, g2⟩ := ri_subL_s ks es h2
    refine ⟨congrArg (· + 1) g1, fun i ce hi => ?_⟩
    cases i with
    | zero =>
      rw [List.getElem?_cons_zero] at hi
      cases hi
      refine ⟨k, rfl, ?_⟩
      split at h1
      · next e' he => rw [he, ri_eqC_s _ _ h1]
      · cases h1
    | succ i =>
      rw [List.getElem?_cons_succ] at hi
      exact g2 i ce hi
  | [], _ :: _, h => by cases h
  | _ :: _, [], h => by cases h
def ri_lvB (π : List Nat) (lv : List (Nat × Jvm.Term)) : List (Nat × Jvm.Term) → Bool
  | [] => true
  | q :: r => (match ri_ld lv q.1 with
    | some t => ri_eqT t (ri_rn π q.2)
    | none => false) && ri_lvB π lv r
theorem ri_lvB_s {π : List Nat} : ∀ (l : List (Nat × Jvm.Term)), ri_lvB π lv l = true → ∀ q ∈ l, (q.1, ri_rn π q.2) ∈ lv
  | [], _, q, hq => by cases hq
  | a :: r, h, q, hq => by
    unfold ri_lvB at h
    rw [Bool.and_eq_true] at h
    rcases List.mem_cons.mp hq with rfl | hq
    · have h1 := h.1
      split at h1
      · next t ht =>
        rw [← ri_eqT_s _ _ h1]
        exact ri_ld_mem ht
      · cases h1
    · exact ri_lvB_s r h.2 q hq
def ri_eqQ : List ri_Cd → List ri_Cd → Bool
  | [], [] => true
  | a :: l, b :: r => Nat.beq a.1 b.1 && (ri_eqT a.2.1 b.2.1 && (ri_eqT a.2.2.1 b.2.2.1 && ((a.2.2.2 == b.2.2.2) && ri_eqQ l r)))
  | _, _ => false
theorem ri_eqQ_s : ∀ (a b : List ri_Cd), ri_eqQ a b = true → a = b
  | [], [], _ => rfl
  | a :: l, b :: r, h => by
    unfold ri_eqQ at h
    simp only [Bool.and_eq_true] at h
    obtain ⟨h1, h2, h3, h4, h5⟩ := h
    have e1 := Nat.eq_of_beq_eq_true h1
    have e2 := ri_eqT_s _ _ h2
    have e3 := ri_eqT_s _ _ h3
    have e4 := beq_iff_eq.mp h4
    rw [ri_eqQ_s l r h5]
    congr 1
    exact Prod.ext e1 (Prod.ext e2 (Prod.ext e3 e4))
  | [], _ :: _, h => by cases h
  | _ :: _, [], h => by cases h
/-- the references of a world lie in it -/
def ri_okT (n : Nat) (t : Jvm.Term) : Bool := match t with
  | .index k => Nat.ble (Nat.succ k) n
  | _ => true
def ri_okCB (n : Nat) : ri_Ce → Bool
  | .inl (_, fs) => fs.all (ri_okT n)
  | .inr (_, _, d, ov) => ri_okT n d && ov.all (fun q => ri_okT n q.2)
theorem ri_okT_s {n : Nat} {t : Jvm.Term} (h : ri_okT n t = true) : ri_ok n t := by
  unfold ri_okT at h
  split at h
  · exact Nat.le_of_ble_eq_true h
  · next hn => cases t <;> first | trivial | exact absurd rfl (hn _)
theorem ri_okCB_s {n : Nat} {ce : ri_Ce} (h : ri_okCB n ce = true) : ri_okC n ce := by
  match ce, h with
  | .inl (_, fs), h => exact fun t ht => ri_okT_s (List.all_eq_true.mp h t ht)
  | .inr (_, _, d, ov), h =>
    have h := (Bool.and_eq_true _ _).mp h
    exact ⟨ri_okT_s h.1, fun q hq => ri_okT_s (List.all_eq_true.mp h.2 q hq)⟩
/-- what is asked of the smaller world alone -/
def ri_fitB (π : List Nat) (lv2 : List (Nat × Jvm.Term)) (st2 : List Jvm.Term) (mem2 : ri_Me) : Bool := decide π.Nodup && (mem2.all (ri_okCB mem2.length) && (lv2.all (fun q => ri_okT mem2.length q.2) && st2.all (ri_okT mem2.length)))
theorem ri_sub {π : List Nat} (hfit : ri_fitB π lv2 st2 mem2 = true) (hm : ri_subL π mem π mem2 = true) (hlvB : ri_lvB π lv lv2 = true) (hst : st = st2.map (ri_rn π)) (hcs : (∀ q ∈ cs, ri_sat ρ q) → ∀ q ∈ cs2, ri_sat ρ q) (h : ri_Go p l e R s m args below meth c G M D tyc A ρ sa ad0 mcT msT pc lv2 st2 cs2 mem2 kc ks) : ri_Go p l e R s m args below meth c G M D tyc A ρ sa ad0 mcT msT pc lv st cs mem kc ks := by
  unfold ri_fitB at hfit
  simp only [Bool.and_eq_true, decide_eq_true_iff] at hfit
  obtain ⟨g1, g2, g3, g4⟩ := hfit
  obtain ⟨hlen, hce⟩ := ri_subL_s _ _ hm
  intro ad ls H locs cells slots h1 h2 h3 h4 h5 h6 h7 h8 h9 h10 h11 h12 h13 h14
  have hw : ∀ (i : Nat) (q : Nat × va_E), (ri_w ρ sa (ri_aty G) tyc (fun k => ad (π.getD k 0)) mem2)[i]? = some q → ∃ k, π[i]? = some k ∧ (ri_w ρ sa (ri_aty G) tyc ad mem)[k]? = some q := by
    intro i q hq
    unfold ri_w at hq
    rw [List.getElem?_mapIdx] at hq
    obtain ⟨ce, hce9, rfl⟩ := Option.map_eq_some_iff.mp hq
    obtain ⟨k, hk, hmk⟩ := hce i ce hce9
    refine ⟨k, hk, ?_⟩
    rw [ri_w_get hmk, ri_rn_ce]
    have e : π.getD i 0 = k := by simp [List.getD, hk]
    show some (ad k, _) = some (ad (π.getD i 0), _)
    rw [e]
  have hW := h (fun k => ad (π.getD k 0)) ls H locs cells slots (fun k hk => absurd hk (Nat.not_lt_zero k)) (Nat.zero_le _) (ri_has_sub h3 fun q hq => ?_) (fun i q hq => ?_) ⟨fun i j q r hq hr he => ?_, fun i q hq => ?_⟩ h6 (fun e9 he => ri_okCB_s (List.all_eq_true.mp g2 e9 he)) (fun q hq => ri_okT_s (List.all_eq_true.mp g3 q hq)) (fun t ht => ri_okT_s (List.all_eq_true.mp g4 t ht)) (hcs h10) h11 h12 h13 h14
  · rw [hst, List.map_map]
    have e : st2.map (ri_cv ρ sa ad ∘ ri_rn π) = st2.map (ri_cv ρ sa (fun k => ad (π.getD k 0))) := List.map_congr_left fun t _ => (ri_rn_cv t).symm
    rw [e]
    exact hW
  · obtain ⟨z, hz, rfl⟩ := List.mem_map.mp hq
    refine List.mem_map.mpr ⟨(z.1, ri_rn π z.2), ri_lvB_s _ hlvB z hz, ?_⟩
    show (z.1, ri_cv ρ sa ad (ri_rn π z.2)) = (z.1, ri_cv ρ sa (fun k => ad (π.getD k 0)) z.2)
    rw [ri_rn_cv]
  · obtain ⟨k, -, hk⟩ := hw i q hq
    exact h4 k q hk
  · obtain ⟨k1, a1, b1⟩ := hw i q hq
    obtain ⟨k2, a2, b2⟩ := hw j r hr
    have e := h5.1 k1 k2 q r b1 b2 he
    subst e
    have hi : i < π.length := (List.getElem?_eq_some_iff.mp a1).1
    exact (List.getElem?_inj hi g1).mp (a1.trans a2.symm)
  · obtain ⟨k, -, hk⟩ := hw i q hq
    exact h5.2 k q hk
theorem rz_if_eq {α : Type} {b : Bool} {x y : α} : rz_if b x y = if b = true then x else y := by cases b <;> rfl
/-- stop where the world holds that smaller one -/
noncomputable def ri_gs (π : List Nat) (pc0 : Nat) (lv2 : List (Nat × Jvm.Term)) (st2 : List Jvm.Term) (cs2 : List ri_Cd) (mem2 : ri_Me) (kc ks : Nat) (B : ri_K) : ri_K := fun pc lv st cs mem =>
  rz_if (Nat.beq pc pc0 && (ri_eqL st (st2.map (ri_rn π)) && (ri_eqQ (cs.drop (cs.length - cs2.length)) cs2 && (ri_lvB π lv lv2 && ri_subL π mem π mem2)))) (some (ri_Rz kc ks)) (B pc lv st cs mem)
theorem ri_gs_s {π : List Nat} {pc0 pc1 : Nat} {B : ri_K} (hfit : ri_fitB π lv2 st2 mem2 = true) (h2 : ri_Go p l e R s m args below meth c G M D tyc A ρ sa ad0 mcT msT pc0 lv2 st2 cs2 mem2 kc ks) (h : ri_gs π pc0 lv2 st2 cs2 mem2 kc ks B pc1 lv st cs mem = some rs) :
    (rs = ri_Rz kc ks ∧ ri_Go p l e R s m args below meth c G M D tyc A ρ sa ad0 mcT msT pc1 lv st cs mem kc ks) ∨ B pc1 lv st cs mem = some rs := by
  unfold ri_gs at h
  rw [rz_if_eq] at h
  split at h
  · next hk =>
    cases h
    simp only [Bool.and_eq_true] at hk
    obtain ⟨a1, a2, a3, a4, a5⟩ := hk
    have e1 := Nat.eq_of_beq_eq_true a1
    subst e1
    refine Or.inl ⟨rfl, ri_sub hfit a5 a4 (ri_eqL_s _ _ a2) (fun hs q hq => ?_) h2⟩
    rw [← ri_eqQ_s _ _ a3] at hq
    exact hs q (List.mem_of_mem_drop hq)
  · exact Or.inr h
/-- the end of a walk hangs on what it told alone: other conditions, as good -/
theorem ri_cs (hcs : (∀ q ∈ cs, ri_sat ρ q) → ∀ q ∈ cs2, ri_sat ρ q) (h : ri_Go p l e R s m args below meth c G M D tyc A ρ sa ad0 mcT msT pc lv st cs2 mem kc ks) : ri_Go p l e R s m args below meth c G M D tyc A ρ sa ad0 mcT msT pc lv st cs mem kc ks :=
  fun ad ls H locs cells slots h1 h2 h3 h4 h5 h6 h7 h8 h9 h10 h11 h12 h13 h14 => h ad ls H locs cells slots h1 h2 h3 h4 h5 h6 h7 h8 h9 (hcs h10) h11 h12 h13 h14
end RIU1
end RIU
