/-! RA: calls -/
section RA
section RA5
variable {G : ri_Tb} {sh : ra_Sh} {b b1 b2 d mi n kd : Nat} {M M' : ri_Mt} {pc len idx : Nat} {L L' : List (Option Jvm.Term)} {st rest args : List Jvm.Term} {σ : ra_V} {Q Q' : ra_Q} {i : Instr} {tx : String}
theorem ra_lvE : ∀ (as : List Jvm.Term) (j : Nat) (k : Nat) (t : Jvm.Term), (as.flatMap (fun t => if ri_wide t = true then [some t, none] else [some t]))[k]? = some (some t) → ri_ld (ri_args j as) (j + k) = some t
  | [], _, _, _, h => by simp at h
  | a :: as, j, k, t, h => by
    rw [List.flatMap_cons] at h
    unfold ri_args
    by_cases hw : ri_wide a = true
    · rw [if_pos hw] at h
      rw [if_pos hw]
      match k, h with
      | 0, h =>
        have : a = t := by simpa using h
        subst this
        simp [ri_ld]
      | 1, h => simp at h
      | k + 2, h =>
        have h2 : (as.flatMap (fun t => if ri_wide t = true then [some t, none] else [some t]))[k]? = some (some t) := by simpa using h
        have := ra_lvE as (j + 2) k t h2
        unfold ri_ld at this ⊢
        rw [List.find?_cons_of_neg (by simp)]
        rw [show j + (k + 2) = j + 2 + k by omega]
        exact this
    · rw [if_neg hw] at h
      rw [if_neg hw]
      match k, h with
      | 0, h =>
        have : a = t := by simpa using h
        subst this
        simp [ri_ld]
      | k + 1, h =>
        have h2 : (as.flatMap (fun t => if ri_wide t = true then [some t, none] else [some t]))[k]? = some (some t) := by simpa using h
        have := ra_lvE as (j + 1) k t h2
        unfold ri_ld at this ⊢
        rw [List.find?_cons_of_neg (by simp)]
        rw [show j + (k + 1) = j + 1 + k by omega]
        exact this
/-- the locals with which a method begins -/
def ra_L (as : List Jvm.Term) (n : Nat) : List (Option Jvm.Term) := as.flatMap (fun t => if ri_wide t = true then [some t, none] else [some t]) ++ List.replicate n none
theorem ra_lv0 (as : List Jvm.Term) (n : Nat) : ra_lv (ri_args 0 as) (ra_L as n) := by
  intro k t h
  unfold ra_L at h
  have h2 : (as.flatMap (fun t => if ri_wide t = true then [some t, none] else [some t]))[k]? = some (some t) := by
    rw [List.getElem?_append] at h
    split at h
    · exact h
    · rw [List.getElem?_replicate] at h
      split at h
      · cases h
      · cases h
  have := ra_lvE as 0 k t h2
  rwa [Nat.zero_add] at this
/-- a method, from its first place on -/
theorem ra_enter {nn : Nat} (hM : (ri_mts G)[mi]? = some M) (hw : ri_lw M = false) (hx : (args.map (fun t => if ri_wide t = true then 2 else 1)).sum ≤ ri_mx M) (hL : ra_L args nn = L) (hh : ri_hi M = true → 5 ≤ d) (k : ra_P G sh b d M 0 L [] σ Q) : ra_C G sh b (d + 1) mi args σ Q := by
  subst hL
  obtain ⟨r, σ', F, q, k⟩ := k
  refine ⟨r, σ', F, q, fun g hg mem hr => ?_⟩
  rw [ri_call_S, hM]
  dsimp only
  rw [if_pos ⟨hw, hx, hh⟩]
  exact k g g hg hg _ mem (ra_lv0 args nn) hr
def ra_inst (i : Instr) : Option (Nat × Nat) := match i with
  | .invokevirtual idx => some (0, idx)
  | .invokestatic idx => some (1, idx)
  | .invokespecial idx => some (2, idx)
  | _ => none
/-- the receiver -/
def ra_rc (G : ri_Tb) (sh : ra_Sh) (cls : String) : List Jvm.Term → Prop
  | .index k :: _ => ∃ ci fl r, sh[k]? = some (.inl (ci, fl)) ∧ (ri_cls G)[ci]? = some r ∧ (r.1 == cls) = true
  | _ => False
theorem ra_recv {cls : String} {mem : ri_Me} (h : ra_rc G sh cls args) (hr : ra_rep sh σ mem) : ri_recv G cls mem args = true := by
  match args, h with
  | .index k :: l, h =>
    obtain ⟨ci, fl, r, h1, h2, h3⟩ := h
    unfold ri_recv
    dsimp only
    rw [ra_rep_obj hr h1]
    dsimp only
    rw [h2]
    exact h3
/-- what a call's tables say -/
def ra_ct (G : ri_Tb) (sh : ra_Sh) (M : ri_Mt) (i : Instr) (st args rest : List Jvm.Term) (mi : Nat) : Prop :=
  ∃ sort idx kd n tx M', ra_inst i = some (sort, idx) ∧ ri_cp G M idx = some (kd, mi, n, tx) ∧ (kd = 20 + sort ∨ kd = 30 + sort) ∧ (ri_mts G)[mi]? = some M' ∧ (kd = 21 ∨ (ri_hh M').isEmpty = true) ∧ ri_nn sort n ≤ st.length ∧ (st.take (ri_nn sort n)).reverse = args ∧ st.drop (ri_nn sort n) = rest ∧ rest.length ≤ 4 ∧ (sort = 1 ∨ ra_rc G sh (ri_nm M').cls args)
theorem ra_ct_e (h : ra_ct G sh M i st args rest mi) (hd : (ri_co M)[pc]? = some (some (i, 3))) : (∀ lv, ri_pure (ri_mx M) i lv st = none) ∧ (∀ mem, ri_heap G M [] i st mem = none) ∧ ri_foc i st = none ∧ ∀ C K lv mem, ra_rep sh σ mem → ri_ctl G C M K pc i 3 lv st [] mem = (match C mi args [] mem with
    | some (L, mc, ms, ob) => ri_more mc ms ob (ri_seq (ri_after G M K pc lv rest) L)
    | none => none) := by
  obtain ⟨sort, idx, kd, n, tx, M', h1, h2, h3, h4, h5, h6, h7, h8, h9, h10⟩ := h
  have key : ∀ C K lv mem, ra_rep sh σ mem → ri_inv G C M K sort pc idx lv st [] mem = (match C mi args [] mem with
    | some (L, mc, ms, ob) => ri_more mc ms ob (ri_seq (ri_after G M K pc lv rest) L)
    | none => none) := fun C K lv mem hr => by
    unfold ri_inv
    rw [h2]
    dsimp only
    rw [if_pos h3, h4]
    dsimp only
    rw [if_pos ⟨h5, h6, by rw [h8]; exact h9, by
      rcases h10 with h10 | h10
      · exact Or.inl h10
      · refine Or.inr ?_
        rw [h7]
        exact ra_recv h10 hr⟩, h7, h8]
    rfl
  cases i with
  | invokevirtual z =>
    cases h1
    exact ⟨fun _ => rfl, fun _ => rfl, rfl, fun C K lv mem hr => by simp only [ri_ctl]; rw [if_pos trivial]; exact key C K lv mem hr⟩
  | invokestatic z =>
    cases h1
    refine ⟨fun _ => rfl, fun mem => ?_, rfl, fun C K lv mem hr => by simp only [ri_ctl]; rw [if_pos trivial]; exact key C K lv mem hr⟩
    simp only [ri_heap]
    rw [h2]
    rcases h3 with rfl | rfl <;> rfl
  | invokespecial z =>
    cases h1
    exact ⟨fun _ => rfl, fun _ => rfl, rfl, fun C K lv mem hr => by simp only [ri_ctl]; rw [if_pos trivial]; exact key C K lv mem hr⟩
  | _ => cases h1
theorem ra_seq1 {k : ri_Lf → Option ri_Rs} {x : ri_Lf} {l : List ri_Lf} {c s : Nat} (h : k x = some (l, c, s, [])) : ri_seq k [x] = some (l, c, s, []) := by
  unfold ri_seq
  rw [h]
  simp [ri_seq, ri_both]
theorem ra_seq0 {k : ri_Lf → Option ri_Rs} {x : ri_Lf} (h : k x = none) : ri_seq k [x] = none := by
  unfold ri_seq
  rw [h]
  rfl
/-- a call: what is behind an answer; behind a throw: out of the method, or a handler -/
theorem ra_call (hd : (ri_co M)[pc]? = some (some (i, 3))) (ht : ra_ct G sh M i st args rest mi) (hC : ra_C G sh b1 d mi args σ Q')
    (k1 : ∀ t σ', Q' (.inl t) σ' → ra_P G sh b2 d M (pc + 3) L (t.toList ++ rest) σ' Q) (hb : b1 + b2 ≤ b)
    (k2 : ∀ E σ', Q' (.inr E) σ' → (ri_find G M pc E (ri_hh M) = some none ∧ Q (.inr E) σ') ∨ ∃ hp j len b3, ri_find G M pc E (ri_hh M) = some (some hp) ∧ ((ri_co M)[hp]? = some (some (.astore j, 2)) ∧ len = 2 ∨ ∃ j4 : Fin 4, j = j4.val ∧ (ri_co M)[hp]? = some (some (.astore_n j4, 1)) ∧ len = 1) ∧ j < ri_mx M ∧ b1 + 1 + b3 ≤ b ∧ ra_P G sh b3 d M (hp + len) [] [] σ' Q) : ra_P G sh b d M pc L st σ Q := by
  obtain ⟨r, σ', F, q, hC⟩ := hC
  obtain ⟨e1, e2, e3, e4⟩ := ra_ct_e (σ := σ) ht hd
  have go : ∀ f g lv mem, F ≤ g → ra_rep sh σ mem → ∃ mem1 c1 s1, ra_rep sh σ' mem1 ∧ c1 ≤ b1 + ra_x r ∧ s1 ≤ 6 * (b1 + ra_x r) ∧ ri_run G (ri_call G g d) M (f + 1) pc lv st [] mem = ri_more c1 s1 [] (ri_seq (ri_after G M (ri_run G (ri_call G g d) M f) pc lv rest) [([], mem1, r)]) := fun f g lv mem hg hr => by
    obtain ⟨mem1, c1, s1, h1, h2, h3, h4⟩ := hC g hg mem hr
    refine ⟨mem1, c1, s1, h2, h3, h4, ?_⟩
    show ri_one G (ri_call G g d) M (ri_run G (ri_call G g d) M f) pc lv st [] mem = _
    rw [ra_one_ctl hd (e1 lv) (e2 mem) e3, e4 _ _ _ _ hr, h1]
  match r, q with
  | .inl t, q =>
    obtain ⟨r2, σ2, F2, q2, k⟩ := k1 t σ' q
    refine ⟨r2, σ2, F + F2 + 1, q2, fun f g hf hg lv mem h1 h2 => ?_⟩
    obtain ⟨f, rfl⟩ : ∃ f2, f = f2 + 1 := ⟨f - 1, by omega⟩
    obtain ⟨mem1, c1, s1, g1, g2, g3, g4⟩ := go f g lv mem (by omega) h2
    obtain ⟨mem2, c2, s2, w1, w2, w3, w4⟩ := k f g (by omega) (by omega) lv mem1 h1 g1
    have hx : ra_x (.inl t) = 0 := rfl
    rw [hx] at g2 g3
    refine ⟨mem2, c1 + c2, s1 + s2, ?_, w2, by omega, by omega⟩
    rw [g4]
    have hA : ri_after G M (ri_run G (ri_call G g d) M f) pc lv rest ([], mem1, .inl t) = some ([([], mem2, r2)], c2, s2, []) := by
      cases t with
      | none => exact w1
      | some t => exact w1
    rw [ra_seq1 hA]
    rfl
  | .inr E, q =>
    have hx : ra_x (.inr E) = 1 := rfl
    rcases k2 E σ' q with ⟨f1, q2⟩ | ⟨hp, j, len2, b3, f1, f2, f3, f4, k⟩
    · refine ⟨.inr E, σ', F + 1, q2, fun f g hf hg lv mem h1 h2 => ?_⟩
      obtain ⟨f, rfl⟩ : ∃ f2, f = f2 + 1 := ⟨f - 1, by omega⟩
      obtain ⟨mem1, c1, s1, g1, g2, g3, g4⟩ := go f g lv mem (by omega) h2
      rw [hx] at g2 g3
      refine ⟨mem1, c1 + 0, s1 + 0, ?_, g1, by rw [hx]; omega, by rw [hx]; omega⟩
      rw [g4]
      have hA : ri_after G M (ri_run G (ri_call G g d) M f) pc lv rest ([], mem1, .inr E) = some ([([], mem1, .inr E)], 0, 0, []) := by
        unfold ri_after
        dsimp only
        rw [f1]
      rw [ra_seq1 hA]
      rfl
    · obtain ⟨r2, σ2, F2, q2, k⟩ := k
      refine ⟨r2, σ2, F + F2 + 1, q2, fun f g hf hg lv mem h1 h2 => ?_⟩
      obtain ⟨f, rfl⟩ : ∃ f2, f = f2 + 1 := ⟨f - 1, by omega⟩
      obtain ⟨mem1, c1, s1, g1, g2, g3, g4⟩ := go f g lv mem (by omega) h2
      rw [hx] at g2 g3
      obtain ⟨mem2, c2, s2, w1, w2, w3, w4⟩ := k f g (by omega) (by omega) (ri_ers lv j) mem1 (fun i t h => by simp at h) g1
      refine ⟨mem2, c1 + c2, s1 + s2, ?_, w2, by omega, by omega⟩
      rw [g4]
      have hA : ri_after G M (ri_run G (ri_call G g d) M f) pc lv rest ([], mem1, .inr E) = some ([([], mem2, r2)], c2, s2, []) := by
        unfold ri_after
        dsimp only
        rw [f1]
        dsimp only
        unfold ri_catch
        rcases f2 with ⟨f2, rfl⟩ | ⟨j4, rfl, f2, rfl⟩
        · rw [f2]
          exact (if_pos f3).trans w1
        · rw [f2]
          exact (if_pos f3).trans w1
      rw [ra_seq1 hA]
      rfl
/-- a call that answers so, of a method without handlers -/
theorem ra_callE {t : Option Jvm.Term} {σ' : ra_V} (hC : ra_C G sh 0 d mi args σ (fun r s => r = .inl t ∧ s = σ')) (hd : (ri_co M)[pc]? = some (some (i, 3))) (ht : ra_ct G sh M i st args rest mi) (k : ra_P G sh b d M (pc + 3) L (t.toList ++ rest) σ' Q) : ra_P G sh b d M pc L st σ Q :=
  ra_call hd ht hC (fun t2 s h => by
    obtain ⟨h1, rfl⟩ := h
    cases h1
    exact k) (Nat.le_of_eq (Nat.zero_add b)) (fun E s h => by cases h.1)
/-- a call that answers or throws, the throw goes out -/
theorem ra_callX (hC : ra_C G sh 0 d mi args σ Q') (hd : (ri_co M)[pc]? = some (some (i, 3))) (ht : ra_ct G sh M i st args rest mi) (hh : ri_hh M = []) (k1 : ∀ t σ', Q' (.inl t) σ' → ra_P G sh b d M (pc + 3) L (t.toList ++ rest) σ' Q) (k2 : ∀ E σ', Q' (.inr E) σ' → Q (.inr E) σ') : ra_P G sh b d M pc L st σ Q :=
  ra_call hd ht hC k1 (Nat.le_of_eq (Nat.zero_add b)) (fun E s h => Or.inl ⟨by rw [hh]; rfl, k2 E s h⟩)
/-- a call that answers -/
theorem ra_callA (hC : ra_C G sh 0 d mi args σ Q') (hd : (ri_co M)[pc]? = some (some (i, 3))) (ht : ra_ct G sh M i st args rest mi) (hn : ∀ E σ', ¬ Q' (.inr E) σ') (k1 : ∀ t σ', Q' (.inl t) σ' → ra_P G sh b d M (pc + 3) L (t.toList ++ rest) σ' Q) : ra_P G sh b d M pc L st σ Q :=
  ra_call hd ht hC k1 (Nat.le_of_eq (Nat.zero_add b)) (fun E s h => absurd h (hn E s))
/-- Math.max, Math.min -/
theorem ra_max {a1 b1 : Nat} {x y : Int} (hd : (ri_co M)[pc]? = some (some (.invokestatic idx, 3))) (hc : ri_cp G M idx = some (10, a1, b1, tx)) (hx : ra_in x) (hy : ra_in y) (hst : st.length ≤ 4) (k : ra_P G sh b d M (pc + 3) L (ra_I (max x y) :: st) σ Q) : ra_P G sh b d M pc L (ra_I y :: ra_I x :: st) σ Q := by
  have e : ∀ (C : ri_Call) (K : ri_K) lv mem, ri_ctl G C M K pc (.invokestatic idx) 3 lv (ra_I y :: ra_I x :: st) [] mem = ri_br [] (ri_cnd .lt (ra_I x) (ra_I y)) (fun cs' => K (pc + 3) lv (ra_I y :: st) cs' mem) (fun cs' => K (pc + 3) lv (ra_I x :: st) cs' mem) := fun C K lv mem => by
    simp only [ri_ctl]
    rw [if_pos trivial]
    unfold ri_inv
    rw [hc]
    dsimp only
    rw [if_neg (by decide), if_neg (by decide), if_pos rfl, if_pos ⟨rfl, rfl, rfl, hst⟩]
    rfl
  have hh : ∀ mem, ri_heap G M [] (.invokestatic idx) (ra_I y :: ra_I x :: st) mem = none := fun mem => by simp only [ri_heap]; rw [hc]; rfl
  by_cases h : x < y
  · rw [Int.max_eq_right (Int.le_of_lt h)] at k
    exact ra_ctl hd (fun _ => rfl) hh rfl (fun C K lv mem => (e C K lv mem).trans (ra_br_t (c := .lt) hx hy h)) k
  · rw [Int.max_eq_left (Int.not_lt.mp h)] at k
    exact ra_ctl hd (fun _ => rfl) hh rfl (fun C K lv mem => (e C K lv mem).trans (ra_br_f (c := .lt) hx hy h)) k
theorem ra_min {a1 b1 : Nat} {x y : Int} (hd : (ri_co M)[pc]? = some (some (.invokestatic idx, 3))) (hc : ri_cp G M idx = some (11, a1, b1, tx)) (hx : ra_in x) (hy : ra_in y) (hst : st.length ≤ 4) (k : ra_P G sh b d M (pc + 3) L (ra_I (min x y) :: st) σ Q) : ra_P G sh b d M pc L (ra_I y :: ra_I x :: st) σ Q := by
  have e : ∀ (C : ri_Call) (K : ri_K) lv mem, ri_ctl G C M K pc (.invokestatic idx) 3 lv (ra_I y :: ra_I x :: st) [] mem = ri_br [] (ri_cnd .lt (ra_I y) (ra_I x)) (fun cs' => K (pc + 3) lv (ra_I y :: st) cs' mem) (fun cs' => K (pc + 3) lv (ra_I x :: st) cs' mem) := fun C K lv mem => by
    simp only [ri_ctl]
    rw [if_pos trivial]
    unfold ri_inv
    rw [hc]
    dsimp only
    rw [if_neg (by decide), if_neg (by decide), if_neg (by decide), if_pos rfl, if_pos ⟨rfl, rfl, rfl, hst⟩]
    rfl
  have hh : ∀ mem, ri_heap G M [] (.invokestatic idx) (ra_I y :: ra_I x :: st) mem = none := fun mem => by simp only [ri_heap]; rw [hc]; rfl
  by_cases h : y < x
  · rw [Int.min_eq_right (Int.le_of_lt h)] at k
    exact ra_ctl hd (fun _ => rfl) hh rfl (fun C K lv mem => (e C K lv mem).trans (ra_br_t (c := .lt) hy hx h)) k
  · rw [Int.min_eq_left (Int.not_lt.mp h)] at k
    exact ra_ctl hd (fun _ => rfl) hh rfl (fun C K lv mem => (e C K lv mem).trans (ra_br_f (c := .lt) hy hx h)) k
end RA5
end RA
