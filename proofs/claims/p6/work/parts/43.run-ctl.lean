/-! RA: forks, jumps, answers, throws, calls -/
section RA
section RA4
variable {G : ri_Tb} {sh : ra_Sh} {b b1 b2 d : Nat} {M : ri_Mt} {pc len : Nat} {L L' : List (Option Jvm.Term)} {st rest : List Jvm.Term} {σ : ra_V} {Q Q' : ra_Q} {i : Instr}
def ra_cn (c : ClassFile.Cond) (x y : Int) : Prop := match c with
  | .eq => x = y
  | .ne => ¬ x = y
  | .lt => x < y
  | .ge => ¬ x < y
  | .gt => y < x
  | .le => ¬ y < x
theorem ra_br0_e {q : ri_Cd} {T F : List ri_Cd → Option ri_Rs} {r : Bool} (h : ri_dec [] q.1 q.2.1 q.2.2.1 = some r) : ri_br0 [] q T F = if r = q.2.2.2 then T [] else F [] := by
  unfold ri_br0
  rw [h]
theorem ra_dec0 {x y : Int} (hx : ra_in x) (hy : ra_in y) : ri_dec [] 0 (ra_I x) (ra_I y) = some (decide (x = y)) := by
  show some (decide (Int32.ofInt x = Int32.ofInt y)) = _
  rw [decide_eq_decide.mpr (ra_eq hx hy)]
theorem ra_dec1 {x y : Int} (hx : ra_in x) (hy : ra_in y) : ri_dec [] 1 (ra_I x) (ra_I y) = some (decide (x < y)) := by
  show some (decide (Int32.ofInt x < Int32.ofInt y)) = _
  rw [decide_eq_decide.mpr (ra_lt hx hy)]
theorem ra_br_t {c : ClassFile.Cond} {x y : Int} {T F : List ri_Cd → Option ri_Rs} (hx : ra_in x) (hy : ra_in y) (h : ra_cn c x y) : ri_br [] (ri_cnd c (ra_I x) (ra_I y)) T F = T [] := by
  cases c with
  | eq => show ri_br0 [] (0, ra_I x, ra_I y, true) T F = _; rw [ra_br0_e (ra_dec0 hx hy)]; have h : x = y := h; simp [h]
  | ne => show ri_br0 [] (0, ra_I x, ra_I y, false) T F = _; rw [ra_br0_e (ra_dec0 hx hy)]; have h : ¬ x = y := h; simp [h]
  | lt => show ri_br0 [] (1, ra_I x, ra_I y, true) T F = _; rw [ra_br0_e (ra_dec1 hx hy)]; have h : x < y := h; simp [h]
  | ge => show ri_br0 [] (1, ra_I x, ra_I y, false) T F = _; rw [ra_br0_e (ra_dec1 hx hy)]; have h : ¬ x < y := h; rw [decide_eq_false h]; rfl
  | gt => show ri_br0 [] (1, ra_I y, ra_I x, true) T F = _; rw [ra_br0_e (ra_dec1 hy hx)]; have h : y < x := h; simp [h]
  | le => show ri_br0 [] (1, ra_I y, ra_I x, false) T F = _; rw [ra_br0_e (ra_dec1 hy hx)]; have h : ¬ y < x := h; rw [decide_eq_false h]; rfl
theorem ra_br_f {c : ClassFile.Cond} {x y : Int} {T F : List ri_Cd → Option ri_Rs} (hx : ra_in x) (hy : ra_in y) (h : ¬ ra_cn c x y) : ri_br [] (ri_cnd c (ra_I x) (ra_I y)) T F = F [] := by
  cases c with
  | eq => show ri_br0 [] (0, ra_I x, ra_I y, true) T F = _; rw [ra_br0_e (ra_dec0 hx hy)]; have h : ¬ x = y := h; simp [h]
  | ne => show ri_br0 [] (0, ra_I x, ra_I y, false) T F = _; rw [ra_br0_e (ra_dec0 hx hy)]; have h : x = y := Decidable.of_not_not h; simp [h]
  | lt => show ri_br0 [] (1, ra_I x, ra_I y, true) T F = _; rw [ra_br0_e (ra_dec1 hx hy)]; have h : ¬ x < y := h; rw [decide_eq_false h]; rfl
  | ge => show ri_br0 [] (1, ra_I x, ra_I y, false) T F = _; rw [ra_br0_e (ra_dec1 hx hy)]; have h : x < y := Decidable.of_not_not h; simp [h]
  | gt => show ri_br0 [] (1, ra_I y, ra_I x, true) T F = _; rw [ra_br0_e (ra_dec1 hy hx)]; have h : ¬ y < x := h; rw [decide_eq_false h]; rfl
  | le => show ri_br0 [] (1, ra_I y, ra_I x, false) T F = _; rw [ra_br0_e (ra_dec1 hy hx)]; have h : y < x := Decidable.of_not_not h; simp [h]
/-- a step of course -/
theorem ra_ctl {pc' : Nat} {st' : List Jvm.Term} (hd : (ri_co M)[pc]? = some (some (i, len))) (hp : ∀ lv, ri_pure (ri_mx M) i lv st = none) (hh : ∀ mem, ri_heap G M [] i st mem = none) (hf : ri_foc i st = none) (hc : ∀ C K lv mem, ri_ctl G C M K pc i len lv st [] mem = K pc' lv st' [] mem) (k : ra_P G sh b d M pc' L st' σ Q) : ra_P G sh b d M pc L st σ Q :=
  ra_go (fun C K lv mem h1 h2 => ⟨lv, mem, h1, h2, (ra_one_ctl hd (hp lv) (hh mem) hf).trans (hc C K lv mem)⟩) k
theorem ra_goto {off : Int} {t : Nat} (hd : (ri_co M)[pc]? = some (some (.goto off, 3))) (ht : ri_tg pc off = some t) (k : ra_P G sh b d M t L st σ Q) : ra_P G sh b d M pc L st σ Q :=
  ra_ctl hd (fun _ => rfl) (fun _ => rfl) rfl (fun C K lv mem => by
    simp only [ri_ctl]
    rw [ht]
    simp) k
theorem ra_ifc {c : ClassFile.Cond} {off : Int} {t : Nat} {x : Int} (hd : (ri_co M)[pc]? = some (some (.ifCond c off, 3))) (ht : ri_tg pc off = some t) (hx : ra_in x) (h1 : ra_cn c x 0 → ra_P G sh b d M t L st σ Q) (h2 : ¬ ra_cn c x 0 → ra_P G sh b d M (pc + 3) L st σ Q) : ra_P G sh b d M pc L (ra_I x :: st) σ Q := by
  have e : ∀ (C : ri_Call) (K : ri_K) lv mem, ri_ctl G C M K pc (.ifCond c off) 3 lv (ra_I x :: st) [] mem = ri_br [] (ri_cnd c (ra_I x) (ra_I 0)) (fun cs' => K t lv st cs' mem) (fun cs' => K (pc + 3) lv st cs' mem) := fun C K lv mem => by
    simp only [ri_ctl]
    rw [ht]
    dsimp only
    rw [if_pos ⟨rfl, trivial⟩]
    rfl
  by_cases h : ra_cn c x 0
  · exact ra_ctl hd (fun _ => rfl) (fun _ => rfl) rfl (fun C K lv mem => (e C K lv mem).trans (ra_br_t hx ra_in0 h)) (h1 h)
  · exact ra_ctl hd (fun _ => rfl) (fun _ => rfl) rfl (fun C K lv mem => (e C K lv mem).trans (ra_br_f hx ra_in0 h)) (h2 h)
theorem ra_ific {c : ClassFile.Cond} {off : Int} {t : Nat} {x y : Int} (hd : (ri_co M)[pc]? = some (some (.if_icmp c off, 3))) (ht : ri_tg pc off = some t) (hx : ra_in x) (hy : ra_in y) (h1 : ra_cn c x y → ra_P G sh b d M t L st σ Q) (h2 : ¬ ra_cn c x y → ra_P G sh b d M (pc + 3) L st σ Q) : ra_P G sh b d M pc L (ra_I y :: ra_I x :: st) σ Q := by
  have e : ∀ (C : ri_Call) (K : ri_K) lv mem, ri_ctl G C M K pc (.if_icmp c off) 3 lv (ra_I y :: ra_I x :: st) [] mem = ri_br [] (ri_cnd c (ra_I x) (ra_I y)) (fun cs' => K t lv st cs' mem) (fun cs' => K (pc + 3) lv st cs' mem) := fun C K lv mem => by
    simp only [ri_ctl]
    rw [ht]
    dsimp only
    rw [if_pos ⟨rfl, rfl, trivial⟩]
  by_cases h : ra_cn c x y
  · exact ra_ctl hd (fun _ => rfl) (fun _ => rfl) rfl (fun C K lv mem => (e C K lv mem).trans (ra_br_t hx hy h)) (h1 h)
  · exact ra_ctl hd (fun _ => rfl) (fun _ => rfl) rfl (fun C K lv mem => (e C K lv mem).trans (ra_br_f hx hy h)) (h2 h)
section
variable {off : Int} {t : Nat} {x y : Int}
theorem ra_ifeq (hd : (ri_co M)[pc]? = some (some (.ifCond .eq off, 3))) (ht : ri_tg pc off = some t) (hx : ra_in x) (h1 : x = 0 → ra_P G sh b d M t L st σ Q) (h2 : ¬ x = 0 → ra_P G sh b d M (pc + 3) L st σ Q) : ra_P G sh b d M pc L (ra_I x :: st) σ Q := ra_ifc hd ht hx h1 h2
theorem ra_ifne (hd : (ri_co M)[pc]? = some (some (.ifCond .ne off, 3))) (ht : ri_tg pc off = some t) (hx : ra_in x) (h1 : ¬ x = 0 → ra_P G sh b d M t L st σ Q) (h2 : x = 0 → ra_P G sh b d M (pc + 3) L st σ Q) : ra_P G sh b d M pc L (ra_I x :: st) σ Q := ra_ifc hd ht hx h1 (fun h => h2 (Decidable.of_not_not h))
theorem ra_iflt (hd : (ri_co M)[pc]? = some (some (.ifCond .lt off, 3))) (ht : ri_tg pc off = some t) (hx : ra_in x) (h1 : x < 0 → ra_P G sh b d M t L st σ Q) (h2 : 0 ≤ x → ra_P G sh b d M (pc + 3) L st σ Q) : ra_P G sh b d M pc L (ra_I x :: st) σ Q := ra_ifc hd ht hx h1 (fun h => h2 (Int.not_lt.mp h))
theorem ra_ifge (hd : (ri_co M)[pc]? = some (some (.ifCond .ge off, 3))) (ht : ri_tg pc off = some t) (hx : ra_in x) (h1 : 0 ≤ x → ra_P G sh b d M t L st σ Q) (h2 : x < 0 → ra_P G sh b d M (pc + 3) L st σ Q) : ra_P G sh b d M pc L (ra_I x :: st) σ Q := ra_ifc hd ht hx (fun h => h1 (Int.not_lt.mp h)) (fun h => h2 (Decidable.of_not_not h))
theorem ra_ifgt (hd : (ri_co M)[pc]? = some (some (.ifCond .gt off, 3))) (ht : ri_tg pc off = some t) (hx : ra_in x) (h1 : 0 < x → ra_P G sh b d M t L st σ Q) (h2 : x ≤ 0 → ra_P G sh b d M (pc + 3) L st σ Q) : ra_P G sh b d M pc L (ra_I x :: st) σ Q := ra_ifc hd ht hx h1 (fun h => h2 (Int.not_lt.mp h))
theorem ra_ifle (hd : (ri_co M)[pc]? = some (some (.ifCond .le off, 3))) (ht : ri_tg pc off = some t) (hx : ra_in x) (h1 : x ≤ 0 → ra_P G sh b d M t L st σ Q) (h2 : 0 < x → ra_P G sh b d M (pc + 3) L st σ Q) : ra_P G sh b d M pc L (ra_I x :: st) σ Q := ra_ifc hd ht hx (fun h => h1 (Int.not_lt.mp h)) (fun h => h2 (Decidable.of_not_not h))
theorem ra_iceq (hd : (ri_co M)[pc]? = some (some (.if_icmp .eq off, 3))) (ht : ri_tg pc off = some t) (hx : ra_in x) (hy : ra_in y) (h1 : x = y → ra_P G sh b d M t L st σ Q) (h2 : ¬ x = y → ra_P G sh b d M (pc + 3) L st σ Q) : ra_P G sh b d M pc L (ra_I y :: ra_I x :: st) σ Q := ra_ific hd ht hx hy h1 h2
theorem ra_icne (hd : (ri_co M)[pc]? = some (some (.if_icmp .ne off, 3))) (ht : ri_tg pc off = some t) (hx : ra_in x) (hy : ra_in y) (h1 : ¬ x = y → ra_P G sh b d M t L st σ Q) (h2 : x = y → ra_P G sh b d M (pc + 3) L st σ Q) : ra_P G sh b d M pc L (ra_I y :: ra_I x :: st) σ Q := ra_ific hd ht hx hy h1 (fun h => h2 (Decidable.of_not_not h))
theorem ra_iclt (hd : (ri_co M)[pc]? = some (some (.if_icmp .lt off, 3))) (ht : ri_tg pc off = some t) (hx : ra_in x) (hy : ra_in y) (h1 : x < y → ra_P G sh b d M t L st σ Q) (h2 : y ≤ x → ra_P G sh b d M (pc + 3) L st σ Q) : ra_P G sh b d M pc L (ra_I y :: ra_I x :: st) σ Q := ra_ific hd ht hx hy h1 (fun h => h2 (Int.not_lt.mp h))
theorem ra_icge (hd : (ri_co M)[pc]? = some (some (.if_icmp .ge off, 3))) (ht : ri_tg pc off = some t) (hx : ra_in x) (hy : ra_in y) (h1 : y ≤ x → ra_P G sh b d M t L st σ Q) (h2 : x < y → ra_P G sh b d M (pc + 3) L st σ Q) : ra_P G sh b d M pc L (ra_I y :: ra_I x :: st) σ Q := ra_ific hd ht hx hy (fun h => h1 (Int.not_lt.mp h)) (fun h => h2 (Decidable.of_not_not h))
theorem ra_icgt (hd : (ri_co M)[pc]? = some (some (.if_icmp .gt off, 3))) (ht : ri_tg pc off = some t) (hx : ra_in x) (hy : ra_in y) (h1 : y < x → ra_P G sh b d M t L st σ Q) (h2 : x ≤ y → ra_P G sh b d M (pc + 3) L st σ Q) : ra_P G sh b d M pc L (ra_I y :: ra_I x :: st) σ Q := ra_ific hd ht hx hy h1 (fun h => h2 (Int.not_lt.mp h))
theorem ra_icle (hd : (ri_co M)[pc]? = some (some (.if_icmp .le off, 3))) (ht : ri_tg pc off = some t) (hx : ra_in x) (hy : ra_in y) (h1 : x ≤ y → ra_P G sh b d M t L st σ Q) (h2 : y < x → ra_P G sh b d M (pc + 3) L st σ Q) : ra_P G sh b d M pc L (ra_I y :: ra_I x :: st) σ Q := ra_ific hd ht hx hy (fun h => h1 (Int.not_lt.mp h)) (fun h => h2 (Decidable.of_not_not h))
theorem ra_in_b (p : Prop) [Decidable p] : ra_in (if p then 1 else 0) := by unfold ra_in; split <;> omega
/-- a truth value -/
theorem ra_ifeqB {p : Prop} [Decidable p] (hd : (ri_co M)[pc]? = some (some (.ifCond .eq off, 3))) (ht : ri_tg pc off = some t) (h1 : ¬ p → ra_P G sh b d M t L st σ Q) (h2 : p → ra_P G sh b d M (pc + 3) L st σ Q) : ra_P G sh b d M pc L (ra_B p :: st) σ Q :=
  ra_ifc hd ht (ra_in_b p) (fun h => h1 (fun hp => by have h : (if p then (1 : Int) else 0) = 0 := h; rw [if_pos hp] at h; omega)) (fun h => h2 (Decidable.byContradiction fun hp => h (by show (if p then (1 : Int) else 0) = 0; rw [if_neg hp])))
theorem ra_ifneB {p : Prop} [Decidable p] (hd : (ri_co M)[pc]? = some (some (.ifCond .ne off, 3))) (ht : ri_tg pc off = some t) (h1 : p → ra_P G sh b d M t L st σ Q) (h2 : ¬ p → ra_P G sh b d M (pc + 3) L st σ Q) : ra_P G sh b d M pc L (ra_B p :: st) σ Q :=
  ra_ifc hd ht (ra_in_b p) (fun h => h1 (Decidable.byContradiction fun hp => h (by show (if p then (1 : Int) else 0) = 0; rw [if_neg hp]))) (fun h => h2 (fun hp => h (fun e => by have e : (if p then (1 : Int) else 0) = 0 := e; rw [if_pos hp] at e; omega)))
theorem ra_nullT (hd : (ri_co M)[pc]? = some (some (.ifnull off, 3))) (ht : ri_tg pc off = some t) (k : ra_P G sh b d M t L st σ Q) : ra_P G sh b d M pc L (.null :: st) σ Q :=
  ra_ctl hd (fun _ => rfl) (fun _ => rfl) rfl (fun C K lv mem => by
    simp only [ri_ctl]
    rw [ht]
    simp [ri_k]) k
theorem ra_nullF {q : Nat} (hd : (ri_co M)[pc]? = some (some (.ifnull off, 3))) (ht : ri_tg pc off = some t) (k : ra_P G sh b d M (pc + 3) L st σ Q) : ra_P G sh b d M pc L (.index q :: st) σ Q :=
  ra_ctl hd (fun _ => rfl) (fun _ => rfl) rfl (fun C K lv mem => by
    simp only [ri_ctl]
    rw [ht]
    simp [ri_k]) k
theorem ra_nnullF (hd : (ri_co M)[pc]? = some (some (.ifnonnull off, 3))) (ht : ri_tg pc off = some t) (k : ra_P G sh b d M (pc + 3) L st σ Q) : ra_P G sh b d M pc L (.null :: st) σ Q :=
  ra_ctl hd (fun _ => rfl) (fun _ => rfl) rfl (fun C K lv mem => by
    simp only [ri_ctl]
    rw [ht]
    simp [ri_k]) k
theorem ra_nnullT {q : Nat} (hd : (ri_co M)[pc]? = some (some (.ifnonnull off, 3))) (ht : ri_tg pc off = some t) (k : ra_P G sh b d M t L st σ Q) : ra_P G sh b d M pc L (.index q :: st) σ Q :=
  ra_ctl hd (fun _ => rfl) (fun _ => rfl) rfl (fun C K lv mem => by
    simp only [ri_ctl]
    rw [ht]
    simp [ri_k]) k
end
/-! a switch -/
theorem ra_chain_e {x : Int} {T : Nat → List ri_Cd → Option ri_Rs} {dflt : Int} (hx : ra_in x) : ∀ (ps : List (Int × Int)), (∀ q ∈ ps, ra_in q.1) → ∀ (t : Nat), ((∃ q, ps.find? (fun q => q.1 == x) = some q ∧ ri_tg pc q.2 = some t) ∨ (ps.find? (fun q => q.1 == x) = none ∧ ri_tg pc dflt = some t)) → ri_chain (ra_I x) pc T dflt ps [] = T t []
  | [], _, t, h => by
    rcases h with ⟨q, h1, h2⟩ | ⟨h1, h2⟩
    · simp at h1
    · unfold ri_chain
      rw [h2]
  | (v, off) :: l, hl, t, h => by
    unfold ri_chain
    have hv := hl _ List.mem_cons_self
    have e : (0, ra_I x, ri_ci (Int32.ofInt v), true) = ri_cnd .eq (ra_I x) (ra_I v) := by rw [ra_ciI]; rfl
    rw [e]
    by_cases hxv : x = v
    · rw [ra_br_t (c := .eq) (y := v) hx hv hxv]
      subst hxv
      rcases h with ⟨q, h1, h2⟩ | ⟨h1, h2⟩
      · rw [List.find?_cons_of_pos (by simp)] at h1
        cases h1
        rw [h2]
      · rw [List.find?_cons_of_pos (by simp)] at h1
        cases h1
    · rw [ra_br_f (c := .eq) (y := v) hx hv hxv]
      refine ra_chain_e hx l (fun q hq => hl q (List.mem_cons_of_mem _ hq)) t ?_
      rw [List.find?_cons_of_neg (by simpa using fun z => hxv z.symm)] at h
      exact h
/-- a switch: where it goes -/
theorem ra_switch {dft lo hi : Int} {offs : Array Int} {x : Int} {t : Nat} (hd : (ri_co M)[pc]? = some (some (.tableswitch dft lo hi offs, len))) (hx : ra_in x) (hr : hi = lo + (offs.size : Int) - 1 ∧ -2147483648 ≤ lo ∧ hi < 2147483648) (ht : (∃ q, (offs.toList.mapIdx (fun j o => (lo + (j : Int), o))).find? (fun q => q.1 == x) = some q ∧ ri_tg pc q.2 = some t) ∨ ((offs.toList.mapIdx (fun j o => (lo + (j : Int), o))).find? (fun q => q.1 == x) = none ∧ ri_tg pc dft = some t)) (k : ra_P G sh b d M t L st σ Q) : ra_P G sh b d M pc L (ra_I x :: st) σ Q :=
  ra_ctl hd (fun _ => rfl) (fun _ => rfl) rfl (fun C K lv mem => by
    simp only [ri_ctl]
    rw [if_pos ⟨rfl, hr⟩]
    refine ra_chain_e (T := fun t cs' => K t lv st cs' mem) hx _ (fun q hq => ?_) t ht
    obtain ⟨j, hj, rfl⟩ := List.mem_mapIdx.mp hq
    have hj : j < offs.size := by simpa using hj
    exact ⟨by dsimp only; omega, by dsimp only; omega⟩) k
theorem ra_lswitch {dft : Int} {ps : Array (Int × Int)} {x : Int} {t : Nat} (hd : (ri_co M)[pc]? = some (some (.lookupswitch dft ps, len))) (hx : ra_in x) (hs : (ps.toList.zip (ps.toList.drop 1)).all (fun (a, next) => a.1 < next.1) = true) (hr : ps.toList.all (fun q => decide (-2147483648 ≤ q.1 ∧ q.1 < 2147483648)) = true) (ht : (∃ q, ps.toList.find? (fun q => q.1 == x) = some q ∧ ri_tg pc q.2 = some t) ∨ (ps.toList.find? (fun q => q.1 == x) = none ∧ ri_tg pc dft = some t)) (k : ra_P G sh b d M t L st σ Q) : ra_P G sh b d M pc L (ra_I x :: st) σ Q :=
  ra_ctl hd (fun _ => rfl) (fun _ => rfl) rfl (fun C K lv mem => by
    simp only [ri_ctl]
    rw [if_pos ⟨rfl, hs, hr⟩]
    refine ra_chain_e (T := fun t cs' => K t lv st cs' mem) hx _ (fun q hq => ?_) t ht
    have := decide_eq_true_iff.mp (List.all_eq_true.mp hr q hq)
    exact ⟨this.1, by omega⟩) k
/-! answers, throws -/
theorem ra_stop {o : Option ri_Rs} {r : ra_R} {c s : Nat} (hd : (ri_co M)[pc]? = some (some (i, len))) (hp : ∀ lv, ri_pure (ri_mx M) i lv st = none) (hh : ∀ mem, ri_heap G M [] i st mem = none) (hf : ri_foc i st = none) (hc : ∀ C K lv mem, ri_ctl G C M K pc i len lv st [] mem = some ([([], mem, r)], c, s, [])) (hb : c ≤ b + ra_x r ∧ s ≤ 6 * (b + ra_x r)) (hq : Q r σ) : ra_P G sh b d M pc L st σ Q := by
  refine ⟨r, σ, 1, hq, fun f g hf2 hg lv mem h1 h2 => ?_⟩
  obtain ⟨f, rfl⟩ : ∃ f2, f = f2 + 1 := ⟨f - 1, by omega⟩
  show ra_end sh b r σ (ri_one G (ri_call G g d) M (ri_run G (ri_call G g d) M f) pc lv st [] mem)
  rw [ra_one_ctl hd (hp lv) (hh mem) hf, hc]
  exact ⟨mem, c, s, rfl, h2, hb⟩
theorem ra_ans_e {t : Jvm.Term} {ok : Jvm.Term → Option FieldType → Bool} {mem : ri_Me} (h : ok t (ri_rt M) = true) : ri_ans M [t] [] mem ok = some ([([], mem, .inl (some t))], 0, 0, []) := by
  unfold ri_ans
  dsimp only
  rw [if_pos h]
theorem ra_ireturn {t : Jvm.Term} (hd : (ri_co M)[pc]? = some (some (.ireturn, 1))) (hok : ri_okI t (ri_rt M) = true) (hq : Q (.inl (some t)) σ) : ra_P G sh b d M pc L [t] σ Q :=
  ra_stop (o := none) (c := 0) (s := 0) hd (fun _ => rfl) (fun _ => rfl) rfl (fun C K lv mem => by simp only [ri_ctl]; rw [if_pos trivial]; exact ra_ans_e hok) ⟨Nat.zero_le _, Nat.zero_le _⟩ hq
theorem ra_areturn {t : Jvm.Term} (hd : (ri_co M)[pc]? = some (some (.areturn, 1))) (hok : ri_okA t (ri_rt M) = true) (hq : Q (.inl (some t)) σ) : ra_P G sh b d M pc L [t] σ Q :=
  ra_stop (o := none) (c := 0) (s := 0) hd (fun _ => rfl) (fun _ => rfl) rfl (fun C K lv mem => by simp only [ri_ctl]; rw [if_pos trivial]; exact ra_ans_e hok) ⟨Nat.zero_le _, Nat.zero_le _⟩ hq
theorem ra_dreturn {t : Jvm.Term} (hd : (ri_co M)[pc]? = some (some (.dreturn, 1))) (hok : ri_okD t (ri_rt M) = true) (hq : Q (.inl (some t)) σ) : ra_P G sh b d M pc L [t] σ Q :=
  ra_stop (o := none) (c := 0) (s := 0) hd (fun _ => rfl) (fun _ => rfl) rfl (fun C K lv mem => by simp only [ri_ctl]; rw [if_pos trivial]; exact ra_ans_e hok) ⟨Nat.zero_le _, Nat.zero_le _⟩ hq
theorem ra_freturn {t : Jvm.Term} (hd : (ri_co M)[pc]? = some (some (.freturn, 1))) (hok : ri_okF t (ri_rt M) = true) (hq : Q (.inl (some t)) σ) : ra_P G sh b d M pc L [t] σ Q :=
  ra_stop (o := none) (c := 0) (s := 0) hd (fun _ => rfl) (fun _ => rfl) rfl (fun C K lv mem => by simp only [ri_ctl]; rw [if_pos trivial]; exact ra_ans_e hok) ⟨Nat.zero_le _, Nat.zero_le _⟩ hq
theorem ra_return (hd : (ri_co M)[pc]? = some (some (.return_, 1))) (hr : ri_rt M = none) (hq : Q (.inl none) σ) : ra_P G sh b d M pc L [] σ Q :=
  ra_stop (o := none) (c := 0) (s := 0) hd (fun _ => rfl) (fun _ => rfl) rfl (fun C K lv mem => by simp only [ri_ctl]; rw [hr]; simp) ⟨Nat.zero_le _, Nat.zero_le _⟩ hq
theorem ra_throw {ik a1 b1 : Nat} {tx E : String} (hd : (ri_co M)[pc]? = some (some (.new ik, 3))) (hc : ri_cp G M ik = some (5, a1, b1, tx)) (hh : ri_hi M = true) (ht : ∀ mem, ri_thr0 G M pc ik st [] mem = some ([([], mem, .inr E)], 1, 6, [])) (hq : Q (.inr E) σ) : ra_P G sh b d M pc L st σ Q :=
  ra_stop (o := none) (c := 1) (s := 6) hd (fun _ => rfl) (fun mem => by
    show ri_newo G M ik st mem = none
    unfold ri_newo
    rw [hc]
    rfl) rfl (fun C K lv mem => by simp only [ri_ctl]; rw [if_pos trivial]; unfold ri_thr; rw [if_pos hh]; exact ht mem) ⟨by show 1 ≤ b + 1; omega, by show 6 ≤ 6 * (b + 1); omega⟩ hq
end RA4
end RA
