/-! T5: the order by start, the least start, all moved to the left *-/
section
section
variable {σ s t τ υ μ : ra_V} {D p q j k n : Nat} {a b m x y z v c d to w : Int}
noncomputable def x5nbF (τ : ra_V) (c : Int) : Int := @dite Int (∃ z, NB τ c 8 z) (Classical.propDecidable _) (fun h => Classical.choose h) (fun _ => -1)
theorem x5nb_u (hW : WF τ) (h : NB τ c 8 x) (h2 : NB τ c 8 y) : x = y := by
  obtain ⟨a1, a2⟩ := h
  obtain ⟨b1, b2⟩ := h2
  by_cases e : x = -1
  · by_cases f : y = -1
    · omega
    · obtain ⟨y0, y1, y2, y3⟩ := b1.resolve_left f
      exact absurd e (a2 y y0 y1 y2 y3).1
  · obtain ⟨x0, x1, x2, x3⟩ := a1.resolve_left e
    have q := b2 x x0 x1 x2 x3
    obtain ⟨y0, y1, y2, y3⟩ := b1.resolve_left q.1
    have q2 := (a2 y y0 y1 y2 y3).2
    by_cases g : x = y
    · exact g
    · have ha := WF_ap hW x0 x1 y0 y1 g x2 y2
      have h1 := WF_p hW x0 x1 x2
      have h2 := WF_p hW y0 y1 y2
      omega
theorem x5nb_f (hW : WF τ) (h : NB τ c 8 z) : z = x5nbF τ c := by
  have hx : ∃ z, NB τ c 8 z := ⟨z, h⟩
  have e : x5nbF τ c = Classical.choose hx := @dif_pos (∃ z, NB τ c 8 z) (Classical.propDecidable _) hx Int (fun h => Classical.choose h) (fun _ => -1)
  rw [e]
  exact x5nb_u hW h (Classical.choose_spec hx)
noncomputable def x5ordN (τ : ra_V) : Nat → Int
  | 0 => x5nbF τ (-1)
  | k + 1 => if x5ordN τ k = -1 then -1 else x5nbF τ (wq τ (x5ordN τ k) 1)
theorem x5ord_s (h : x5ordN τ k ≠ -1) : x5ordN τ (k + 1) = x5nbF τ (wq τ (x5ordN τ k) 1) := if_neg h
noncomputable def x5lstF (μ : ra_V) (p : Int) : Int := @dite Int (∃ z, x5LST (fun k => x5whyM μ p k (ra_g μ 180 4) = 0) 0 (wq μ p 1) z) (Classical.propDecidable _) (fun h => Classical.choose h) (fun _ => -1)
theorem x5lst_0 (h0 : 0 ≤ a) (h : x5LST (fun k => x5whyM μ w k (ra_g μ 180 4) = 0) a (wq μ w 1) z) (ha : a = 0 ∨ a = ra_g μ 180 1) : z = x5lstF μ w := by
  have hl : ∀ k, x5whyM μ w k (ra_g μ 180 4) = 0 → k < wq μ w 1 → (a ≤ k ↔ 0 ≤ k) := fun k hk _ => by
    have := (x5whyM_ok hk).2.2.2.1
    unfold US at this
    constructor
    · intro; omega
    · intro
      rcases ha with rfl | rfl <;> omega
  have hx : ∃ z, x5LST (fun k => x5whyM μ w k (ra_g μ 180 4) = 0) 0 (wq μ w 1) z := by
    refine ⟨z, ?_⟩
    rcases h with ⟨e, h⟩ | ⟨e1, e2, e3, h⟩
    · exact Or.inl ⟨e, fun k k0 k1 hk => h k ((hl k hk k1).mpr k0) k1 hk⟩
    · exact Or.inr ⟨by omega, e2, e3, fun k k0 k1 hk => h k ((hl k hk (by omega)).mpr k0) k1 hk⟩
  have e : x5lstF μ w = Classical.choose hx := @dif_pos (∃ z, x5LST (fun k => x5whyM μ w k (ra_g μ 180 4) = 0) 0 (wq μ w 1) z) (Classical.propDecidable _) hx Int (fun h => Classical.choose h) (fun _ => -1)
  rw [e]
  exact x5lst_u h0 (Int.le_refl 0) hl h (Classical.choose_spec hx)
noncomputable def x5pk1 (μ : ra_V) (p : Int) : ra_V := if x5lstF μ p = -1 then μ else x5runV 999 (x5bgV μ p (x5lstF μ p))
noncomputable def x5pkV : Nat → ra_V → ra_V
  | 0, τ => τ
  | k + 1, τ => x5pk1 (x5pkV k τ) (x5ordN τ k)
noncomputable def x5pkN : Nat → ra_V → Int
  | 0, _ => 0
  | k + 1, τ => x5pkN k τ + (if x5lstF (x5pkV k τ) (x5ordN τ k) = -1 then 0 else 1)
theorem x5pk_n (h : x5lstF (x5pkV k τ) (x5ordN τ k) = -1) : x5pkV (k + 1) τ = x5pkV k τ ∧ x5pkN (k + 1) τ = x5pkN k τ := ⟨if_pos h, by show x5pkN k τ + (if _ then _ else _) = _; rw [if_pos h, Int.add_zero]⟩
theorem x5pk_y (h : x5lstF (x5pkV k τ) (x5ordN τ k) ≠ -1) : x5pkV (k + 1) τ = x5runV 999 (x5bgV (x5pkV k τ) (x5ordN τ k) (x5lstF (x5pkV k τ) (x5ordN τ k))) ∧ x5pkN (k + 1) τ = x5pkN k τ + 1 := ⟨if_neg h, by show x5pkN k τ + (if _ then _ else _) = _; rw [if_neg h]⟩
/-! a move begun keeps to what a row keeps to -/
theorem x5scg_ex (hw : WFa τ) (hm : 1 ≤ m) : ∃ z, x5SCG τ a to m z := by
  unfold WFa at hw
  have hb : ∀ q, x5RUN τ a to m q → q ≤ 600 := fun q h => by
    have := (h.2 q (by omega) (by omega)).1
    unfold US at this
    omega
  have key : ∀ n : Nat, (∃ q, x5RUN τ a to m q ∧ 600 - q ≤ n) → ∃ z, x5SCG τ a to m z := by
    intro n
    induction n with
    | zero =>
      rintro ⟨q, h, hq⟩
      exact ⟨q, Or.inr ⟨h, fun r hr h2 => by have := hb r h2; omega⟩⟩
    | succ n ih =>
      rintro ⟨q, h, hq⟩
      by_cases c : ∃ r, q < r ∧ x5RUN τ a to m r
      · obtain ⟨r, r1, r2⟩ := c
        exact ih ⟨r, r2, by omega⟩
      · exact ⟨q, Or.inr ⟨h, fun r hr h2 => c ⟨r, hr, h2⟩⟩⟩
  by_cases c : ∃ q, x5RUN τ a to m q
  · obtain ⟨q, h⟩ := c
    exact key (600 - q).toNat ⟨q, h, by have := hb q h; omega⟩
  · exact ⟨-1, Or.inl ⟨rfl, fun q h => c ⟨q, h⟩⟩⟩
theorem x5w2_bg (hW : x5W2 τ) (hp : x5EX τ x) (hk : x5whyM τ x to (ra_g τ 180 4) = 0) : x5W2 (x5bgV τ x to) ∧ ra_g (x5bgV τ x to) 180 16 ≠ -1 := by
  have hp0 := hp
  have ho := x5whyM_ok hk
  have ha := WF_a hW.1
  have ha0 := ha
  unfold WFa at ha
  have hq := WF_p hW.1 hp.1 hp.2.1 hp.2.2
  have hu := ho.2.2.2.1
  unfold US at hu
  have hs : (-1 ≤ x5sclF τ x to ∧ x5sclF τ x to + min (ra_g τ 180 4) (wq τ x 2) ≤ 600) ∧ (x5sclF τ x to = -1 → min (ra_g τ 180 4) (wq τ x 2) ≤ rfar (wq τ x 1) to) := by
    by_cases c : rfar (wq τ x 1) to < min (ra_g τ 180 4) (wq τ x 2)
    · obtain ⟨z, hz⟩ := x5scg_ex (a := x) (to := to) (m := min (ra_g τ 180 4) (wq τ x 2)) ha0 (by omega)
      rw [← x5scl_y c hz]
      obtain ⟨s1, s2, s3⟩ := x5sc_old ha0 (by omega) hz
      have hr := ho.2.2.2.2.2.2 c
      exact ⟨by omega, fun e => absurd hr (s2 e)⟩
    · rw [← x5scl_n c]
      exact ⟨by omega, fun _ => by omega⟩
  obtain ⟨w0, w1, w2, w3, w4, w5, w6⟩ := x5bg_w (τ := τ) (a := x) (to := to) (by have := hp.1; have := hp.2.1; unfold ra_in; omega) (by unfold ra_in; omega) (by unfold ra_in; omega)
  refine ⟨⟨st_w hW.1 hp0 (x5whyM_old hk) w0 w1 w2 w3 w4 w5 w6 (fun a h => x5bg_o h) hs, fun p p0 p1 => ?_, fun _ q => by omega⟩, by rw [w0]; have := hp.1; omega⟩
  rw [x5bg_q p0 (by omega)]
  exact hW.2.1 p p0 p1
theorem x5it_ex (hr : 0 ≤ x) (hx : x < 8) : ∀ n : Nat, x5W2 τ → wq (x5itv n τ) x 0 = wq τ x 0
  | 0, _ => rfl
  | n + 1, h => by
    have h1 := x5w2_it n h
    by_cases c : ra_g (x5itv n τ) 180 16 = -1
    · have e : x5itv (n + 1) τ = x5itv n τ := if_pos c
      rw [e]; exact x5it_ex hr hx n h
    · rw [x5itv_y c, ← x5it_ex hr hx n h]
      have hM := (MV_f h1.1 c).1
      unfold x5st0
      split
      · exact x5up_wn (by omega)
      · split
        · exact (x5up_wn (by omega)).trans (x5up_wn (by omega))
        · rw [x5up_wn (by omega), x5up_wn (by omega), x5up_wn (by omega), x5up_wn (by omega), x5up_wn (by omega), x5up_wn (by omega)]
theorem x5ls_ok (hW : x5W2 μ) (hp : x5EX μ x) (h : x5lstF μ x ≠ -1) : x5whyM μ x (x5lstF μ x) (ra_g μ 180 4) = 0 := by
  by_cases hx : ∃ z, x5LST (fun k => x5whyM μ x k (ra_g μ 180 4) = 0) 0 (wq μ x 1) z
  · have e : x5lstF μ x = Classical.choose hx := @dif_pos (∃ z, x5LST (fun k => x5whyM μ x k (ra_g μ 180 4) = 0) 0 (wq μ x 1) z) (Classical.propDecidable _) hx Int (fun h => Classical.choose h) (fun _ => -1)
    have c := Classical.choose_spec hx
    rw [← e] at c
    rcases c with ⟨c, -⟩ | ⟨-, -, c, -⟩
    · exact absurd c h
    · exact c
  · exact absurd (@dif_neg (∃ z, x5LST (fun k => x5whyM μ x k (ra_g μ 180 4) = 0) 0 (wq μ x 1) z) (Classical.propDecidable _) hx Int (fun h => Classical.choose h) (fun _ => -1)) h
/-- one moved -/
theorem x5w2_pk (hW : x5W2 μ) (hm : ra_g μ 180 16 = -1) (hp : x5EX μ x) : x5W2 (x5pk1 μ x) ∧ ra_g (x5pk1 μ x) 180 16 = -1 ∧ ∀ r, 0 ≤ r → r < 8 → wq (x5pk1 μ x) r 0 = wq μ r 0 := by
  by_cases c : x5lstF μ x = -1
  · have e : x5pk1 μ x = μ := if_pos c
    rw [e]
    exact ⟨hW, hm, fun _ _ _ => rfl⟩
  · have e : x5pk1 μ x = x5runV 999 (x5bgV μ x (x5lstF μ x)) := if_neg c
    obtain ⟨b1, b2⟩ := x5w2_bg hW hp (x5ls_ok hW hp c)
    have hs := x5sl_max b1 b2
    rw [e, x5run_16]
    refine ⟨x5w2_run 999 b1, (x5run_u (p := 999) (q := 999) b1 b2 hs hs).2.2, fun r r0 r1 => ?_⟩
    have e1 : wq (x5runV 999 (x5bgV μ x (x5lstF μ x))) r 0 = wq (x5itv 999 (x5bgV μ x (x5lstF μ x))) r 0 := x5up_wn (by omega)
    rw [e1, x5it_ex r0 r1 999 b1]
    exact x5bg_q r0 (by omega)
/-- they are in the order of their starts, as many as there are -/
theorem x5ord_c (hW : WF τ) (hx : NB τ (-1) 8 z) : z = x5ordN τ 0 := x5nb_f hW hx
theorem x5pks (hW : x5W2 τ) (hm : ra_g τ 180 16 = -1) : ∀ k : Nat, (∀ j, j < k → x5EX τ (x5ordN τ j)) → x5W2 (x5pkV k τ) ∧ ra_g (x5pkV k τ) 180 16 = -1 ∧ ∀ r, 0 ≤ r → r < 8 → wq (x5pkV k τ) r 0 = wq τ r 0
  | 0, _ => ⟨hW, hm, fun _ _ _ => rfl⟩
  | k + 1, h => by
    obtain ⟨h1, h2, h3⟩ := x5pks hW hm k (fun j hj => h j (by omega))
    have hk := h k (by omega)
    obtain ⟨g1, g2, g3⟩ := x5w2_pk h1 h2 (show x5EX (x5pkV k τ) (x5ordN τ k) from ⟨hk.1, hk.2.1, (h3 _ hk.1 hk.2.1).trans hk.2.2⟩)
    exact ⟨g1, g2, fun r r0 r1 => (g3 r r0 r1).trans (h3 r r0 r1)⟩
end
end
