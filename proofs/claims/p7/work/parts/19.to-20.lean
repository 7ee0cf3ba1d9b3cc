section
/-! RI: the whole run is sound; a contract for each call that runs through -/
section RIZ
section RIZ1
variable {p : Program} {l : Launch} {e : Env} {R : Room} {s : State} {m : MethodId} {args : Array Value} {below : List Frame} {meth : Method} {c : Code}
variable {ALL : List Jvm.Cond} {STR : List (String × Nat × String)} {G : ri_Tb} {M : ri_Mt} {D : va_G} {tyc : Nat → ClassId} {A : Nat → Prop}
variable {ρ : Nat → Int32} {sa : String → Nat → Nat} {n0 LC d mcT msT : Nat} {ad0 : Nat → Nat} {LT : List ri_Lf} {lv : List (Nat × Jvm.Term)} {st rest : List Jvm.Term} {mem : ri_Me} {pc idx len : Nat} {cs : List ri_Cd} {rs r1 : ri_Rs} {K : ri_K} {call : ri_Call}
theorem ri_ans_s {ok : Jvm.Term → Option FieldType → Bool} (h : ri_ans M st cs mem ok = some rs) : ∃ t, st = [t] ∧ ok t (ri_rt M) = true ∧ rs = ([(cs, mem, .inl (some t))], 0, 0, []) := by
  unfold ri_ans at h
  split at h
  · next t =>
    split at h
    · next hk => cases h; exact ⟨t, rfl, hk, rfl⟩
    · cases h
  · cases h
theorem ri_ofI {z : Int} (h1 : -2147483648 ≤ z) (h2 : z < 2147483648) : (Int32.ofInt z).toInt = z := by
  rw [Int32.toInt_ofInt]
  have : z.bmod (2 ^ 32) = z := by
    rw [Int.bmod_def]
    split <;> omega
  exact this
theorem ri_lks {x : Int32} {off dflt : Int} : ∀ (ps : List (Int × Int)), (∀ q ∈ ps, -2147483648 ≤ q.1 ∧ q.1 < 2147483648) → ((∃ (j : Nat) (v : Int), ps[j]? = some (v, off) ∧ x = Int32.ofInt v ∧ ∀ (i : Nat), i < j → ∀ (w o : Int), ps[i]? = some (w, o) → ¬ x = Int32.ofInt w) ∨ (off = dflt ∧ ∀ (i : Nat) (w o : Int), ps[i]? = some (w, o) → ¬ x = Int32.ofInt w)) → Op.lookupswitch.offset ps dflt x.toInt = off
  | [], _, h => by
    rcases h with ⟨j, v, h1, -⟩ | ⟨h1, -⟩
    · simp at h1
    · rw [h1]; rfl
  | (a, o) :: l, hr, h => by
    have ha := hr (a, o) List.mem_cons_self
    have hl : ∀ q ∈ l, -2147483648 ≤ q.1 ∧ q.1 < 2147483648 := fun q hq => hr q (List.mem_cons_of_mem _ hq)
    have e : (Int32.ofInt a).toInt = a := ri_ofI ha.1 ha.2
    rcases h with ⟨j, v, h1, h2, h3⟩ | ⟨h1, h3⟩
    · match j, h1, h3 with
      | 0, h1, _ =>
        cases h1
        rw [Op.lookupswitch.offset_cons, if_pos]
        rw [h2, e]
      | j + 1, h1, h3 =>
        rw [lv_osw (h3 0 (Nat.succ_pos _) a o rfl) e]
        exact ri_lks l hl (Or.inl ⟨j, v, by simpa using h1, h2, fun i hi w o2 hw => h3 (i + 1) (Nat.succ_lt_succ hi) w o2 (by simpa using hw)⟩)
    · rw [lv_osw (h3 0 a o rfl) e]
      exact ri_lks l hl (Or.inr ⟨h1, fun i w o2 hw => h3 (i + 1) w o2 (by simpa using hw)⟩)
theorem ri_jump (h : ri_So p l e R s m args below meth c G M D tyc A ρ sa n0 ad0 LT mcT msT pc lv st cs mem rs) : ri_So p l e R s m args below meth c G M D tyc A ρ sa n0 ad0 LT mcT msT pc lv st cs mem rs := h
theorem ri_ctl_W {i : Instr} (hC : ri_Cx l ALL STR sa G M D tyc A p s m args meth c R LC d mcT msT) (hK : ∀ pc lv st cs mem rs, K pc lv st cs mem = some rs → ri_So p l e R s m args below meth c G M D tyc A ρ sa n0 ad0 LT mcT msT pc lv st cs mem rs)
    (hcall : ∀ mi as cs mem rs, call mi as cs mem = some rs → ri_Con l ALL STR G LC d mi as cs mem rs) (hcode : ∀ pc i len, (ri_co M)[pc]? = some (some (i, len)) → decode (ri_by M) pc = .ok (i, len))
    (hd : decode (ri_by M) pc = .ok (i, len)) (h : ri_ctl G call M K pc i len lv st cs mem = some rs) : ri_So p l e R s m args below meth c G M D tyc A ρ sa n0 ad0 LT mcT msT pc lv st cs mem rs := by
  have hC0 := hC
  obtain ⟨⟨⟨hx, hb, hml, hown, hin⟩, hM, hcl, hlk, hts, hKK, hA, hstr⟩, hSt, hwm, hr, hlocks, hex, hl, rfl, hLC, hco, hcs, hhi⟩ := hC
  cases i with
  | goto off =>
    simp only [ri_ctl] at h
    split at h
    · next t ht =>
      split at h
      · next h3 =>
        subst h3
        intro ad ls H locs cells slots h1 h2 h3 h4 h5 h6 h7 h8 h9 h10 h11 h12 h13 h14
        exact lv_goto hx hb hd (ri_tg_s ht) (hK _ _ _ _ _ _ h ad ls H locs cells slots h1 h2 h3 h4 h5 h6 h7 h8 h9 h10 h11 h12 h13 h14)
      · cases h
    · cases h
  | ifCond cnd off =>
    simp only [ri_ctl] at h
    split at h
    · next a r t ht =>
      split at h
      · next hk =>
        obtain ⟨ha, rfl⟩ := hk
        intro ad ls H locs cells slots h1 h2 h3 h4 h5 h6 h7 h8 h9 h10 h11 h12 h13 h14
        have h9' : ∀ z ∈ r, ri_ok mem.length z := fun z hz => h9 z (List.mem_cons_of_mem _ hz)
        refine ri_if_W hx hb hd (ri_tg_s ht) ha (fun hs => ?_) (fun hs => ?_)
        · rcases ri_br_s h10 h with ⟨g1, cs', q1, g2, g3, g4⟩ | ⟨g1, cs', q1, g2, g3, g4⟩
          · exact ri_So_le (hK _ _ _ _ _ _ g2) g4 ad ls H locs cells slots h1 h2 h3 h4 h5 h6 h7 h8 h9' g3 h11 h12 h13 h14
          · exact absurd hs g1
        · rcases ri_br_s h10 h with ⟨g1, cs', q1, g2, g3, g4⟩ | ⟨g1, cs', q1, g2, g3, g4⟩
          · exact absurd g1 hs
          · exact ri_So_le (hK _ _ _ _ _ _ g2) g4 ad ls H locs cells slots h1 h2 h3 h4 h5 h6 h7 h8 h9' g3 h11 h12 h13 h14
      · cases h
    · cases h
  | if_icmp cnd off =>
    simp only [ri_ctl] at h
    split at h
    · next b a r t ht =>
      split at h
      · next hk =>
        obtain ⟨ha, hb2, rfl⟩ := hk
        intro ad ls H locs cells slots h1 h2 h3 h4 h5 h6 h7 h8 h9 h10 h11 h12 h13 h14
        have h9' : ∀ z ∈ r, ri_ok mem.length z := fun z hz => h9 z (List.mem_cons_of_mem _ (List.mem_cons_of_mem _ hz))
        refine ri_ic_W hx hb hd (ri_tg_s ht) ha hb2 (fun hs => ?_) (fun hs => ?_)
        · rcases ri_br_s h10 h with ⟨g1, cs', q1, g2, g3, g4⟩ | ⟨g1, cs', q1, g2, g3, g4⟩
          · exact ri_So_le (hK _ _ _ _ _ _ g2) g4 ad ls H locs cells slots h1 h2 h3 h4 h5 h6 h7 h8 h9' g3 h11 h12 h13 h14
          · exact absurd hs g1
        · rcases ri_br_s h10 h with ⟨g1, cs', q1, g2, g3, g4⟩ | ⟨g1, cs', q1, g2, g3, g4⟩
          · exact absurd g1 hs
          · exact ri_So_le (hK _ _ _ _ _ _ g2) g4 ad ls H locs cells slots h1 h2 h3 h4 h5 h6 h7 h8 h9' g3 h11 h12 h13 h14
      · cases h
    · cases h
  | ifnull off =>
    simp only [ri_ctl] at h
    split at h
    · next a r t ht =>
      split at h
      · next h3 =>
        subst h3
        intro ad ls H locs cells slots h1 h2 h3 h4 h5 h6 h7 h8 h9 h10 h11 h12 h13 h14
        have h9' : ∀ z ∈ r, ri_ok mem.length z := fun z hz => h9 z (List.mem_cons_of_mem _ hz)
        split at h
        · next hk =>
          rw [List.map_cons, ri_N hk]
          exact lv_ifnullN hx hb hd (ri_tg_s ht) (hK _ _ _ _ _ _ h ad ls H locs cells slots h1 h2 h3 h4 h5 h6 h7 h8 h9' h10 h11 h12 h13 h14)
        · split at h
          · next hk =>
            obtain ⟨x, hx9⟩ := ri_R (ρ := ρ) (sa := sa) (ad := ad) hk
            rw [List.map_cons, hx9]
            exact lv_ifnull hx hb hd (hK _ _ _ _ _ _ h ad ls H locs cells slots h1 h2 h3 h4 h5 h6 h7 h8 h9' h10 h11 h12 h13 h14)
          · cases h
      · cases h
    · cases h
  | ifnonnull off =>
    simp only [ri_ctl] at h
    split at h
    · next a r t ht =>
      split at h
      · next h3 =>
        subst h3
        intro ad ls H locs cells slots h1 h2 h3 h4 h5 h6 h7 h8 h9 h10 h11 h12 h13 h14
        have h9' : ∀ z ∈ r, ri_ok mem.length z := fun z hz => h9 z (List.mem_cons_of_mem _ hz)
        split at h
        · next hk =>
          obtain ⟨x, hx9⟩ := ri_R (ρ := ρ) (sa := sa) (ad := ad) hk
          rw [List.map_cons, hx9]
          exact lv_ifnonnull hx hb hd (ri_tg_s ht) (hK _ _ _ _ _ _ h ad ls H locs cells slots h1 h2 h3 h4 h5 h6 h7 h8 h9' h10 h11 h12 h13 h14)
        · split at h
          · next hk =>
            rw [List.map_cons, ri_N hk]
            exact lv_ifnonnullN hx hb hd (hK _ _ _ _ _ _ h ad ls H locs cells slots h1 h2 h3 h4 h5 h6 h7 h8 h9' h10 h11 h12 h13 h14)
          · cases h
      · cases h
    · cases h
  | tableswitch dflt lo hi offs =>
    simp only [ri_ctl] at h
    split at h
    · next x r =>
      split at h
      · next hk =>
        obtain ⟨hk0, hhi, hlo1, hhi1⟩ := hk
        intro ad ls H locs cells slots h1 h2 h3 h4 h5 h6 h7 h8 h9 h10 h11 h12 h13 h14
        have h9' : ∀ z ∈ r, ri_ok mem.length z := fun z hz => h9 z (List.mem_cons_of_mem _ hz)
        obtain ⟨off, t, cs', q1, g1, g2, g3, g4, g5⟩ := ri_chain_s _ _ h10 h
        have hgo := ri_So_le (hK _ _ _ _ _ _ g2) g4 ad ls H locs cells slots h1 h2 h3 h4 h5 h6 h7 h8 h9' g3 h11 h12 h13 h14
        rw [List.map_cons, ri_ivI hk0]
        rcases g5 with ⟨j, v, k1, k2, -⟩ | ⟨k1, k2⟩
        · rw [List.getElem?_mapIdx] at k1
          obtain ⟨o, ho, he⟩ := Option.map_eq_some_iff.mp k1
          cases he
          have hj : j < offs.size := by
            have := (List.getElem?_eq_some_iff.mp ho).1
            simpa using this
          have hv : (ri_iv ρ x).toInt = lo + (j : Int) := by rw [k2]; exact ri_ofI (by omega) (by omega)
          refine lv_tableIn hx hb hd (by omega) (by omega) ?_ (ri_tg_s g1) hgo
          have e9 : ((ri_iv ρ x).toInt - lo).toNat = j := by omega
          rw [e9]
          simpa using ho
        · subst k1
          refine lv_tableOut hx hb hd ?_ (ri_tg_s g1) hgo
          rcases Int.lt_or_le (ri_iv ρ x).toInt lo with z | z
          · exact Or.inl z
          · rcases Int.lt_or_le hi (ri_iv ρ x).toInt with y | y
            · exact Or.inr y
            · exfalso
              have hj : ((ri_iv ρ x).toInt - lo).toNat < offs.toList.length := by
                rw [Array.length_toList]; omega
              refine k2 ((ri_iv ρ x).toInt - lo).toNat _ _ (by rw [List.getElem?_mapIdx, List.getElem?_eq_getElem hj]; rfl) ?_
              have e9 : lo + (((ri_iv ρ x).toInt - lo).toNat : Int) = (ri_iv ρ x).toInt := by omega
              rw [e9]
              exact (Int32.ofInt_toInt _).symm
      · cases h
    · cases h
  | lookupswitch dflt ps =>
    simp only [ri_ctl] at h
    split at h
    · next x r =>
      split at h
      · next hk =>
        obtain ⟨hk0, hsorted, hrange⟩ := hk
        intro ad ls H locs cells slots h1 h2 h3 h4 h5 h6 h7 h8 h9 h10 h11 h12 h13 h14
        have h9' : ∀ z ∈ r, ri_ok mem.length z := fun z hz => h9 z (List.mem_cons_of_mem _ hz)
        obtain ⟨off, t, cs', q1, g1, g2, g3, g4, g5⟩ := ri_chain_s _ _ h10 h
        have hgo := ri_So_le (hK _ _ _ _ _ _ g2) g4 ad ls H locs cells slots h1 h2 h3 h4 h5 h6 h7 h8 h9' g3 h11 h12 h13 h14
        rw [List.map_cons, ri_ivI hk0]
        exact lv_lookup hx hb hd hsorted (ri_lks _ (fun q hq => decide_eq_true_iff.mp (List.all_eq_true.mp hrange q hq)) g5) (ri_tg_s g1) hgo
      · cases h
    · cases h
  | ireturn =>
    simp only [ri_ctl] at h
    split at h
    · next h3 =>
      subst h3
      obtain ⟨t, rfl, hok9, rfl⟩ := ri_ans_s h
      intro ad ls H locs cells slots h1 h2 h3 h4 h5 h6 h7 h8 h9 h10 h11 h12 h13 h14
      have hE := fun t9 (ht9 : t9.heap = H) => ri_end (args := args) (tm := some t) (cs := cs) (t := t9) h1 h2 h4 h5 h6 h7 (fun z hz => by cases hz; exact h9 t List.mem_cons_self) h10 (h11 _ List.mem_cons_self) ht9
      refine vx_ret (W.widen h12 h13 ?_)
      cases hrt : ri_rt M with
      | none => rw [hrt] at hok9; exact absurd hok9 (by simp [ri_okI])
      | some ty =>
        rw [hrt] at hok9
        have hr2 := hr.trans hrt
        cases ty with
        | int =>
          have hk : ri_k t = 0 := by simpa [ri_okI] using hok9
          simp only [List.map_cons, List.map_nil, Option.map_some] at hE ⊢
          rw [ri_I hk] at hE ⊢
          exact W.iret hx hb hr2 (fun t9 ht9 _ => hE t9 ht9) h6.2.2 hd hlocks
        | boolean =>
          obtain ⟨q1, q2⟩ := ri_fit_s (ρ := ρ) (sa := sa) (ad := ad) (ty := .boolean) (t := t) hok9
          have hk : ri_k t = 0 := by
            simp only [ri_okI, ri_fit] at hok9
            split at hok9
            · rfl
            · cases hok9
          simp only [List.map_cons, List.map_nil, Option.map_some] at hE ⊢
          rw [ri_I hk] at hE q1 ⊢
          exact W.zret hx hb hr2 q1 (fun t9 ht9 _ => hE t9 ht9) h6.2.2 hd hlocks
        | _ => exact absurd hok9 (by simp [ri_okI])
    · cases h
  | areturn =>
    simp only [ri_ctl] at h
    split at h
    · next h3 =>
      subst h3
      obtain ⟨t, rfl, hok9, rfl⟩ := ri_ans_s h
      intro ad ls H locs cells slots h1 h2 h3 h4 h5 h6 h7 h8 h9 h10 h11 h12 h13 h14
      have hE := fun t9 (ht9 : t9.heap = H) => ri_end (args := args) (tm := some t) (cs := cs) (t := t9) h1 h2 h4 h5 h6 h7 (fun z hz => by cases hz; exact h9 t List.mem_cons_self) h10 (h11 _ List.mem_cons_self) ht9
      refine vx_ret (W.widen h12 h13 ?_)
      cases hrt : ri_rt M with
      | none => rw [hrt] at hok9; exact absurd hok9 (by simp [ri_okA])
      | some ty =>
        rw [hrt] at hok9
        have hr2 := hr.trans hrt
        have hk : (ri_k t = 2 ∨ ri_k t = 3) ∧ ((∃ n, ty = .object n) ∨ ∃ z, ty = .array z) := by
          cases ty with
          | object n => simp [ri_okA] at hok9; exact ⟨hok9, Or.inl ⟨n, rfl⟩⟩
          | array n => simp [ri_okA] at hok9; exact ⟨hok9, Or.inr ⟨n, rfl⟩⟩
          | _ => exact absurd hok9 (by simp [ri_okA])
        have hv : ri_cv ρ sa ad t = .null ∨ ∃ a, ri_cv ρ sa ad t = .ref a := by
          rcases hk.1 with h0 | h0
          · exact Or.inr (ri_R h0)
          · exact Or.inl (ri_N h0)
        simp only [List.map_cons, List.map_nil, Option.map_some] at hE ⊢
        exact W.aret hx hb hr2 hk.2 hv (fun t9 ht9 _ => hE t9 ht9) h6.2.2 hd hlocks
    · cases h
  | dreturn =>
    simp only [ri_ctl] at h
    split at h
    · next h3 =>
      subst h3
      obtain ⟨t, rfl, hok9, rfl⟩ := ri_ans_s h
      intro ad ls H locs cells slots h1 h2 h3 h4 h5 h6 h7 h8 h9 h10 h11 h12 h13 h14
      have hE := fun t9 (ht9 : t9.heap = H) => ri_end (args := args) (tm := some t) (cs := cs) (t := t9) h1 h2 h4 h5 h6 h7 (fun z hz => by cases hz; exact h9 t List.mem_cons_self) h10 (h11 _ List.mem_cons_self) ht9
      refine vx_ret (W.widen h12 h13 ?_)
      cases hrt : ri_rt M with
      | none => rw [hrt] at hok9; exact absurd hok9 (by simp [ri_okD])
      | some ty =>
        rw [hrt] at hok9
        have hr2 := hr.trans hrt
        cases ty with
        | double =>
          have hk : ri_k t = 4 := by simpa [ri_okD] using hok9
          obtain ⟨b9, hb9⟩ := ri_Dd (ρ := ρ) (sa := sa) (ad := ad) hk
          simp only [List.map_cons, List.map_nil, Option.map_some] at hE ⊢
          rw [hb9] at hE ⊢
          exact W.dret hx hb hr2 (fun t9 ht9 _ => hE t9 ht9) h6.2.2 hd hlocks
        | _ => exact absurd hok9 (by simp [ri_okD])
    · cases h
  | freturn =>
    simp only [ri_ctl] at h
    split at h
    · next h3 =>
      subst h3
      obtain ⟨t, rfl, hok9, rfl⟩ := ri_ans_s h
      intro ad ls H locs cells slots h1 h2 h3 h4 h5 h6 h7 h8 h9 h10 h11 h12 h13 h14
      have hE := fun t9 (ht9 : t9.heap = H) => ri_end (args := args) (tm := some t) (cs := cs) (t := t9) h1 h2 h4 h5 h6 h7 (fun z hz => by cases hz; exact h9 t List.mem_cons_self) h10 (h11 _ List.mem_cons_self) ht9
      refine vx_ret (W.widen h12 h13 ?_)
      cases hrt : ri_rt M with
      | none => rw [hrt] at hok9; exact absurd hok9 (by simp [ri_okF])
      | some ty =>
        rw [hrt] at hok9
        have hr2 := hr.trans hrt
        cases ty with
        | float =>
          have hk : ri_k t = 5 := by simpa [ri_okF] using hok9
          obtain ⟨b9, hb9⟩ := ri_Ff (ρ := ρ) (sa := sa) (ad := ad) hk
          simp only [List.map_cons, List.map_nil, Option.map_some] at hE ⊢
          rw [hb9] at hE ⊢
          exact W.fret hx hb hr2 (fun t9 ht9 _ => hE t9 ht9) h6.2.2 hd hlocks
        | _ => exact absurd hok9 (by simp [ri_okF])
    · cases h
  | return_ =>
    simp only [ri_ctl] at h
    split at h
    · next hrt =>
      split at h
      · next h3 =>
        subst h3
        cases h
        intro ad ls H locs cells slots h1 h2 h3 h4 h5 h6 h7 h8 h9 h10 h11 h12 h13 h14
        have hE := fun t9 (ht9 : t9.heap = H) => ri_end (args := args) (tm := none) (cs := cs) (t := t9) h1 h2 h4 h5 h6 h7 (fun z hz => by cases hz) h10 (h11 _ List.mem_cons_self) ht9
        refine vx_ret (W.widen h12 h13 ?_)
        exact W.vret hx hb (hr.trans hrt) (fun t9 ht9 _ => hE t9 ht9) h6.2.2 hd hlocks
      · cases h
    · cases h
  | new ik =>
    simp only [ri_ctl] at h
    split at h
    · next h3 =>
      subst h3
      exact ri_thr_W hC0 hcode h hd
    · cases h
  | invokevirtual idx =>
    simp only [ri_ctl] at h
    split at h
    · next h3 =>
      subst h3
      exact ri_inv_W 0 hC0 hK hcall (fun _ => hd) (fun q => by cases q) (fun q => by cases q) (by decide) hcode h
    · cases h
  | invokestatic idx =>
    simp only [ri_ctl] at h
    split at h
    · next h3 =>
      subst h3
      exact ri_inv_W 1 hC0 hK hcall (fun q => by cases q) (fun _ => hd) (fun q => by cases q) (by decide) hcode h
    · cases h
  | invokespecial idx =>
    simp only [ri_ctl] at h
    split at h
    · next h3 =>
      subst h3
      exact ri_inv_W 2 hC0 hK hcall (fun q => by cases q) (fun q => by cases q) (fun _ => hd) (by decide) hcode h
    · cases h
  | _ => exact absurd h (by simp [ri_ctl])
theorem ri_heap_W (hsc : ri_hsc G M sa A s) {x : ri_H1} {i : Instr} {ad : Nat → Nat} {ls : Array Slot} {H : Heap} {locs : List Loc} {cells slots : Nat} {Q : State → Prop} (hac : ∀ t : ArrayType, ri_isI (newarray.typeOf t) = true → Jvm.Cond.arrayClass (newarray.typeOf t) ∈ ALL) (hC : ri_Ctx ALL STR sa G M D tyc A p s m args meth c) (h : ri_heap G M cs i st mem = some x) (hd : decode (ri_by M) pc = .ok (i, x.1)) (hP : va_P D (ri_cls G) (ri_w ρ sa (ri_aty G) tyc ad mem) H) (hD : va_D A (ri_w ρ sa (ri_aty G) tyc ad mem)) (hS : va_S A s.heap H locs) (hok : ri_okM mem.length mem) (hst : ∀ t ∈ st, ri_ok mem.length t)
    (hsat : ∀ q ∈ cs, ri_sat ρ q) (hob : ∀ o ∈ x.2.2.2.2.2, ri_obs ρ o) (hls : ls.size = ri_mx M) (hR1 : 1 ≤ R.frames) (hR2 : 100 ≤ R.locals) (hc1 : cells + x.2.2.2.1 ≤ R.cells) (hs1 : slots + x.2.2.2.2.1 ≤ R.slots)
    (kk : ri_KK p l e R s m args below meth c cells slots Q G D tyc A ρ sa ad mem ls pc x) : W p l e R s m args below meth c H locs cells slots Q (F0 m pc ls (st.map (ri_cv ρ sa ad))) := by
  have hlk := hC.2.2.2.1
  have hM := hC.2.1
  cases i with
  | getfield idx => exact ri_getf_W hC h hd hP hD hS hok hst kk
  | putfield idx => exact ri_putf_W hC h hd hP hD hS hok hst kk
  | iaload =>
    simp only [ri_heap] at h
    split at h
    · next x9 hx9 => cases h; exact ri_sld_W hsc hC hx9 hd hP hD hS hok hst kk
    · exact ri_iald_W hC h hd hP hD hS hok hst hsat hob kk
  | iastore => exact ri_iast_W hC h hd hP hD hS hok hst kk
  | laload => exact ri_lald_W hC h hd hP hD hS hok hst kk
  | lastore => exact ri_last_W hC h hd hP hD hS hok hst kk
  | ldc2_w idx => exact ri_ldc2_W hC h hd hP hD hS hok hst kk
  | aaload => exact ri_aald_W hC h hd hP hD hS hok hst kk
  | aastore => exact ri_aast_W hC h hd hP hD hS hok hst kk
  | arraylength =>
    simp only [ri_heap] at h
    split at h
    · next x9 hx9 => cases h; exact ri_slen_W hsc hC hx9 hd hP hD hS hok hst kk
    · exact ri_alen_W hC h hd hP hD hS hok hst kk
  | new idx => exact ri_newo_W hC h hd hP hD hS hok hst hc1 hs1 kk
  | newarray t =>
    have h0 : ri_newr G (ri_typeOf t) 2 st mem = some x := h
    obtain ⟨v, r, a, e1, e2, hi, e3, e4, rfl⟩ := ri_newr_s h0
    exact ri_newa_W hC (hac t hi) h0 hd hP hD hS hok hst hc1 hs1 kk
  | anewarray idx =>
    simp only [ri_heap] at h
    split at h
    · next a b tx hcp =>
      obtain ⟨C, g1, g2, g3⟩ := ri_cp_s hlk hM hcp
      rw [Nat.add_sub_cancel] at g2
      rw [g1] at h
      have h0 : ri_newr G (.object C) 3 st mem = some x := h
      obtain ⟨v, r, a2, e1, e2, hi, e3, e4, rfl⟩ := ri_newr_s h0
      exact ri_newq_W (a := a) (ty := .object C) hC g2 g3 h0 hd hP hD hS hok hst hc1 hs1 kk
    · cases h
  | ldc idx => exact ri_ldc_W hC h hd hP hD hS hok hst kk
  | ldc_w idx => exact ri_ldcw_W hC h hd hP hD hS hok hst kk
  | invokestatic idx =>
    simp only [ri_heap] at h
    split at h
    · next a b tx hcp =>
      exact ri_acpy_W hC (ri_cp_s hlk hM hcp) h hd hP hD hS hok hst hls hR1 hR2 kk
    · cases h
  | _ => exact absurd h (by simp [ri_heap])
theorem ri_bin_ok {n : Nat} {f : Int32 → Int32 → Int32} {t a b : Jvm.Term} (h : ri_ok n t) : ri_ok n (ri_bin f t a b) := by
  unfold ri_bin
  split
  · rw [ri_ci_eq]; trivial
  · exact h
theorem ri_binL_ok {n : Nat} {f : Int64 → Int64 → Int64} {t a b : Jvm.Term} (h : ri_ok n t) : ri_ok n (ri_binL f t a b) := by
  unfold ri_binL
  split
  · rw [ri_cl_eq]; trivial
  · exact h
theorem ri_binC_ok {n : Nat} {t a b : Jvm.Term} (h : ri_ok n t) : ri_ok n (ri_binC t a b) := by
  unfold ri_binC
  split
  · rw [ri_ci_eq]; trivial
  · exact h
theorem ri_un_ok {n : Nat} {f : Int32 → Int32} {t a : Jvm.Term} (h : ri_ok n t) : ri_ok n (ri_un f t a) := by
  unfold ri_un
  split
  · rw [ri_ci_eq]; trivial
  · exact h
theorem ri_unIL_ok {n : Nat} {f : Int32 → Int64} {t a : Jvm.Term} (h : ri_ok n t) : ri_ok n (ri_unIL f t a) := by
  unfold ri_unIL
  split
  · rw [ri_cl_eq]; trivial
  · exact h
theorem ri_unLI_ok {n : Nat} {f : Int64 → Int32} {t a : Jvm.Term} (h : ri_ok n t) : ri_ok n (ri_unLI f t a) := by
  unfold ri_unLI
  split
  · rw [ri_ci_eq]; trivial
  · exact h
theorem ri_ci_ok {n : Nat} {x : Int32} : ri_ok n (ri_ci x) := by rw [ri_ci_eq]; trivial
theorem ri_cl_ok {n : Nat} {x : Int64} : ri_ok n (ri_cl x) := by rw [ri_cl_eq]; trivial
theorem ri_all_cons {n : Nat} {t : Jvm.Term} {st : List Jvm.Term} (h : ri_ok n t) (hs : ∀ z ∈ st, ri_ok n z) : ∀ z ∈ t :: st, ri_ok n z := fun z hz => by
  rcases List.mem_cons.mp hz with rfl | hz
  · exact h
  · exact hs z hz
theorem ri_all_tl {n : Nat} {t : Jvm.Term} {st : List Jvm.Term} (hs : ∀ z ∈ t :: st, ri_ok n z) : ∀ z ∈ st, ri_ok n z := fun z hz => hs z (List.mem_cons_of_mem _ hz)
theorem ri_sto_ok {n i : Nat} {lv : List (Nat × Jvm.Term)} {t : Jvm.Term} (h : ri_ok n t) (hs : ∀ q ∈ lv, ri_ok n q.2) : ∀ q ∈ ri_sto lv i t, ri_ok n q.2 := fun q hq => by
  rcases List.mem_cons.mp hq with rfl | hq
  · exact h
  · exact hs q (List.mem_filter.mp hq).1
theorem ri_sto2_ok {n i : Nat} {lv : List (Nat × Jvm.Term)} {t : Jvm.Term} (h : ri_ok n t) (hs : ∀ q ∈ lv, ri_ok n q.2) : ∀ q ∈ ri_sto2 lv i t, ri_ok n q.2 := fun q hq => by
  rcases List.mem_cons.mp hq with rfl | hq
  · exact h
  · exact hs q (List.mem_filter.mp hq).1
theorem ri_pure_ok {nL : Nat} {i : Instr} {lv lv' : List (Nat × Jvm.Term)} {st st' : List Jvm.Term} {n len : Nat} (h : ri_pure nL i lv st = some (len, lv', st')) (hlv : ∀ q ∈ lv, ri_ok n q.2) (hst : ∀ t ∈ st, ri_ok n t) : (∀ q ∈ lv', ri_ok n q.2) ∧ ∀ t ∈ st', ri_ok n t := by
  have LD : ∀ {k t}, ri_ld lv k = some t → ri_ok n t := fun h => hlv _ (ri_ld_mem h)
  cases i with
  | iconst k => cases h; exact ⟨hlv, ri_all_cons ri_ci_ok hst⟩
  | bipush k => cases h; exact ⟨hlv, ri_all_cons ri_ci_ok hst⟩
  | sipush k => cases h; exact ⟨hlv, ri_all_cons ri_ci_ok hst⟩
  | lconst k => cases h; exact ⟨hlv, ri_all_cons ri_cl_ok hst⟩
  | aconst_null => cases h; exact ⟨hlv, ri_all_cons trivial hst⟩
  | iload k => obtain ⟨t, h1, h2, rfl, rfl, rfl⟩ := ri_pl_s h; exact ⟨hlv, ri_all_cons (LD h1) hst⟩
  | iload_n k => obtain ⟨t, h1, h2, rfl, rfl, rfl⟩ := ri_pl_s h; exact ⟨hlv, ri_all_cons (LD h1) hst⟩
  | lload k => obtain ⟨t, h1, h2, rfl, rfl, rfl⟩ := ri_pl_s h; exact ⟨hlv, ri_all_cons (LD h1) hst⟩
  | lload_n k => obtain ⟨t, h1, h2, rfl, rfl, rfl⟩ := ri_pl_s h; exact ⟨hlv, ri_all_cons (LD h1) hst⟩
  | aload k => obtain ⟨t, h1, h2, rfl, rfl, rfl⟩ := ri_pa_s h; exact ⟨hlv, ri_all_cons (LD h1) hst⟩
  | aload_n k => obtain ⟨t, h1, h2, rfl, rfl, rfl⟩ := ri_pa_s h; exact ⟨hlv, ri_all_cons (LD h1) hst⟩
  | istore k => obtain ⟨t, rfl, h2, h3, rfl, rfl⟩ := ri_ps_s h; exact ⟨ri_sto_ok (hst t List.mem_cons_self) hlv, ri_all_tl hst⟩
  | istore_n k => obtain ⟨t, rfl, h2, h3, rfl, rfl⟩ := ri_ps_s h; exact ⟨ri_sto_ok (hst t List.mem_cons_self) hlv, ri_all_tl hst⟩
  | lstore k => obtain ⟨t, rfl, h2, h3, rfl, rfl⟩ := ri_ps2_s h; exact ⟨ri_sto2_ok (hst t List.mem_cons_self) hlv, ri_all_tl hst⟩
  | lstore_n k => obtain ⟨t, rfl, h2, h3, rfl, rfl⟩ := ri_ps2_s h; exact ⟨ri_sto2_ok (hst t List.mem_cons_self) hlv, ri_all_tl hst⟩
  | astore k => obtain ⟨t, rfl, h2, h3, rfl, rfl⟩ := ri_psa_s h; exact ⟨ri_sto_ok (hst t List.mem_cons_self) hlv, ri_all_tl hst⟩
  | astore_n k => obtain ⟨t, rfl, h2, h3, rfl, rfl⟩ := ri_psa_s h; exact ⟨ri_sto_ok (hst t List.mem_cons_self) hlv, ri_all_tl hst⟩
  | iinc k v => obtain ⟨t, h1, h2, h3, rfl, rfl, rfl⟩ := ri_inc_s h; exact ⟨ri_sto_ok (ri_bin_ok trivial) hlv, hst⟩
  | iadd => obtain ⟨a, b, r, rfl, ha, hb2, rfl, rfl, rfl⟩ := ri_s2_s h; exact ⟨hlv, ri_all_cons (ri_bin_ok trivial) (ri_all_tl (ri_all_tl hst))⟩
  | isub => obtain ⟨a, b, r, rfl, ha, hb2, rfl, rfl, rfl⟩ := ri_s2_s h; exact ⟨hlv, ri_all_cons (ri_bin_ok trivial) (ri_all_tl (ri_all_tl hst))⟩
  | imul => obtain ⟨a, b, r, rfl, ha, hb2, rfl, rfl, rfl⟩ := ri_s2_s h; exact ⟨hlv, ri_all_cons (ri_bin_ok trivial) (ri_all_tl (ri_all_tl hst))⟩
  | idiv => obtain ⟨a, b, r, rfl, ha, hz, rfl, rfl, rfl⟩ := ri_sd_s h; exact ⟨hlv, ri_all_cons (ri_bin_ok trivial) (ri_all_tl (ri_all_tl hst))⟩
  | irem => obtain ⟨a, b, r, rfl, ha, hz, rfl, rfl, rfl⟩ := ri_sd_s h; exact ⟨hlv, ri_all_cons (ri_bin_ok trivial) (ri_all_tl (ri_all_tl hst))⟩
  | iand => obtain ⟨a, b, r, rfl, ha, hb2, rfl, rfl, rfl⟩ := ri_s2_s h; exact ⟨hlv, ri_all_cons (ri_bin_ok trivial) (ri_all_tl (ri_all_tl hst))⟩
  | ior => obtain ⟨a, b, r, rfl, ha, hb2, rfl, rfl, rfl⟩ := ri_s2_s h; exact ⟨hlv, ri_all_cons (ri_bin_ok trivial) (ri_all_tl (ri_all_tl hst))⟩
  | ixor => obtain ⟨a, b, r, rfl, ha, hb2, rfl, rfl, rfl⟩ := ri_s2_s h; exact ⟨hlv, ri_all_cons (ri_bin_ok trivial) (ri_all_tl (ri_all_tl hst))⟩
  | ishl => obtain ⟨a, b, r, rfl, ha, hb2, rfl, rfl, rfl⟩ := ri_s2_s h; exact ⟨hlv, ri_all_cons (ri_bin_ok trivial) (ri_all_tl (ri_all_tl hst))⟩
  | ishr => obtain ⟨a, b, r, rfl, ha, hb2, rfl, rfl, rfl⟩ := ri_s2_s h; exact ⟨hlv, ri_all_cons (ri_bin_ok trivial) (ri_all_tl (ri_all_tl hst))⟩
  | iushr => obtain ⟨a, b, r, rfl, ha, hb2, rfl, rfl, rfl⟩ := ri_s2_s h; exact ⟨hlv, ri_all_cons (ri_bin_ok trivial) (ri_all_tl (ri_all_tl hst))⟩
  | ineg => obtain ⟨a, r, rfl, ha, rfl, rfl, rfl⟩ := ri_s1_s h; exact ⟨hlv, ri_all_cons (ri_un_ok trivial) (ri_all_tl hst)⟩
  | i2l => obtain ⟨a, r, rfl, ha, rfl, rfl, rfl⟩ := ri_s1_s h; exact ⟨hlv, ri_all_cons (ri_unIL_ok trivial) (ri_all_tl hst)⟩
  | l2i => obtain ⟨a, r, rfl, ha, rfl, rfl, rfl⟩ := ri_s1_s h; exact ⟨hlv, ri_all_cons (ri_unLI_ok trivial) (ri_all_tl hst)⟩
  | ladd => obtain ⟨a, b, r, rfl, ha, hb2, rfl, rfl, rfl⟩ := ri_s2_s h; exact ⟨hlv, ri_all_cons (ri_binL_ok trivial) (ri_all_tl (ri_all_tl hst))⟩
  | lsub => obtain ⟨a, b, r, rfl, ha, hb2, rfl, rfl, rfl⟩ := ri_s2_s h; exact ⟨hlv, ri_all_cons (ri_binL_ok trivial) (ri_all_tl (ri_all_tl hst))⟩
  | lcmp => obtain ⟨a, b, r, rfl, ha, hb2, rfl, rfl, rfl⟩ := ri_s2_s h; exact ⟨hlv, ri_all_cons (ri_binC_ok trivial) (ri_all_tl (ri_all_tl hst))⟩
  | i2d => obtain ⟨x, r, rfl, rfl, rfl, rfl⟩ := ri_sI_s h; exact ⟨hlv, ri_all_cons trivial (ri_all_tl hst)⟩
  | i2f => obtain ⟨x, r, rfl, rfl, rfl, rfl⟩ := ri_sI_s h; exact ⟨hlv, ri_all_cons trivial (ri_all_tl hst)⟩
  | ddiv => obtain ⟨x, y, r, rfl, hn, rfl, rfl, rfl⟩ := ri_s2D_s h; exact ⟨hlv, ri_all_cons trivial (ri_all_tl (ri_all_tl hst))⟩
  | fdiv => obtain ⟨x, y, r, rfl, hn, rfl, rfl, rfl⟩ := ri_s2F_s h; exact ⟨hlv, ri_all_cons trivial (ri_all_tl (ri_all_tl hst))⟩
  | fsub => obtain ⟨x, y, r, rfl, hn, rfl, rfl, rfl⟩ := ri_s2F_s h; exact ⟨hlv, ri_all_cons trivial (ri_all_tl (ri_all_tl hst))⟩
  | f2d => obtain ⟨x, r, rfl, hn, rfl, rfl, rfl⟩ := ri_s1F_s h; exact ⟨hlv, ri_all_cons trivial (ri_all_tl hst)⟩
  | fconst k =>
    match k, h with
    | 0, h => cases h; exact ⟨hlv, ri_all_cons trivial hst⟩
    | 1, h => cases h; exact ⟨hlv, ri_all_cons trivial hst⟩
    | 2, h => cases h
  | dconst k =>
    match k, h with
    | 0, h => cases h; exact ⟨hlv, ri_all_cons trivial hst⟩
    | 1, h => cases h
  | dcmp op => obtain ⟨x, y, r, rfl, rfl, rfl, rfl⟩ := ri_sC_s h; exact ⟨hlv, ri_all_cons ri_ci_ok (ri_all_tl (ri_all_tl hst))⟩
  | dload k => obtain ⟨t, h1, h2, rfl, rfl, rfl⟩ := ri_pl_s h; exact ⟨hlv, ri_all_cons (LD h1) hst⟩
  | dload_n k => obtain ⟨t, h1, h2, rfl, rfl, rfl⟩ := ri_pl_s h; exact ⟨hlv, ri_all_cons (LD h1) hst⟩
  | dstore k => obtain ⟨t, rfl, h2, h3, rfl, rfl⟩ := ri_psd_s h; exact ⟨ri_sto2_ok (hst t List.mem_cons_self) hlv, ri_all_tl hst⟩
  | dstore_n k => obtain ⟨t, rfl, h2, h3, rfl, rfl⟩ := ri_psd_s h; exact ⟨ri_sto2_ok (hst t List.mem_cons_self) hlv, ri_all_tl hst⟩
  | dup => obtain ⟨a, r, rfl, ha, rfl, rfl, rfl⟩ := ri_dup_s h; exact ⟨hlv, ri_all_cons (hst a List.mem_cons_self) hst⟩
  | dup_x1 => obtain ⟨a, b, r, rfl, ha, hb2, rfl, rfl, rfl⟩ := ri_dup_x1_s h; exact ⟨hlv, ri_all_cons (hst a List.mem_cons_self) (ri_all_cons (ri_all_tl hst b List.mem_cons_self) (ri_all_cons (hst a List.mem_cons_self) (ri_all_tl (ri_all_tl hst))))⟩
  | dup2 => obtain ⟨a, b, r, rfl, ha, hb2, rfl, rfl, rfl⟩ := ri_dup2_s h; exact ⟨hlv, ri_all_cons (hst a List.mem_cons_self) (ri_all_cons (ri_all_tl hst b List.mem_cons_self) hst)⟩
  | pop => obtain ⟨a, rfl, ha, rfl, rfl⟩ := ri_pop_s h; exact ⟨hlv, ri_all_tl hst⟩
  | _ => exact absurd h (by simp [ri_pure])
theorem ri_foc_W {B : ri_K} {i : Instr} {f : Nat} {a r : List Jvm.Term} {t : Jvm.Term} (ih : ∀ (pc : Nat) (lv : List (Nat × Jvm.Term)) (st : List Jvm.Term) (cs : List ri_Cd) (mem : ri_Me) (rs : ri_Rs), ri_runB G call M B f pc lv st cs mem = some rs → ri_So p l e R s m args below meth c G M D tyc A ρ sa n0 ad0 LT mcT msT pc lv st cs mem rs)
    (hf : ri_foc i st = some (a, t, r)) (hk : ri_k t = 0) (h : ri_vals t (fun y cs' => ri_runB G call M B f pc lv (a ++ y :: r) cs' mem) ((ri_bd cs t).2 - (ri_bd cs t).1 + 1).toNat (ri_bd cs t).1 cs = some rs) : ri_So p l e R s m args below meth c G M D tyc A ρ sa n0 ad0 LT mcT msT pc lv st cs mem rs := by
  have e := ri_foc_s hf
  subst e
  intro ad ls H locs cells slots h1 h2 h3 h4 h5 h6 h7 h8 h9 h10 h11 h12 h13 h14
  obtain ⟨b1, b2⟩ := (ri_bd_s h10 t).1 hk
  obtain ⟨v, cs', r1, k1, k2, k3, k4⟩ := ri_vals_s _ _ cs h10 h b1 (by omega)
  have hgo := ri_So_le (ih _ _ _ _ _ _ k2) k4 ad ls H locs cells slots h1 h2 h3 h4 h5 h6 h7 h8 (fun z hz => by
    rcases List.mem_append.mp hz with hz | hz
    · exact h9 z (List.mem_append_left _ hz)
    · rcases List.mem_cons.mp hz with rfl | hz
      · trivial
      · exact h9 z (List.mem_append_right _ (List.mem_cons_of_mem _ hz))) k3 h11 h12 h13 h14
  rw [List.map_append, List.map_cons, ri_ivI hk, k1]
  rw [List.map_append, List.map_cons] at hgo
  exact hgo
theorem ri_run_W {B : ri_K} (hB : ∀ pc lv st cs mem rs, B pc lv st cs mem = some rs → ri_So p l e R s m args below meth c G M D tyc A ρ sa n0 ad0 LT mcT msT pc lv st cs mem rs) (hsc : ri_hsc G M sa A s) (hac : ∀ t : ArrayType, ri_isI (newarray.typeOf t) = true → Jvm.Cond.arrayClass (newarray.typeOf t) ∈ ALL) (hC : ri_Cx l ALL STR sa G M D tyc A p s m args meth c R LC d mcT msT)
    (hcall : ∀ mi as cs mem rs, call mi as cs mem = some rs → ri_Con l ALL STR G LC d mi as cs mem rs) (hcode : ∀ pc i len, (ri_co M)[pc]? = some (some (i, len)) → decode (ri_by M) pc = .ok (i, len)) :
    ∀ (f pc : Nat) (lv : List (Nat × Jvm.Term)) (st : List Jvm.Term) (cs : List ri_Cd) (mem : ri_Me) (rs : ri_Rs), ri_runB G call M B f pc lv st cs mem = some rs → ri_So p l e R s m args below meth c G M D tyc A ρ sa n0 ad0 LT mcT msT pc lv st cs mem rs := by
  intro f
  induction f with
  | zero => intro pc lv st cs mem rs h; exact hB _ _ _ _ _ _ h
  | succ f ih =>
    intro pc lv st cs mem rs h
    have hC0 := hC
    obtain ⟨⟨⟨hx, hb, hml, hown, hin⟩, hM, hcl, hlk, hts, hKK, hA, hstr⟩, hSt, hwm, hr, hlocks, hex, hl, rfl, hLC, hco, hcs, hhi⟩ := hC
    rw [ri_runB_S] at h
    unfold ri_one at h
    split at h
    · next i len hi =>
      have hd := hcode _ _ _ hi
      split at h
      · next len' lv' st' hp =>
        split at h
        · next hlen =>
          subst hlen
          intro ad ls H locs cells slots h1 h2 h3 h4 h5 h6 h7 h8 h9 h10 h11 h12 h13 h14
          obtain ⟨k1, k2⟩ := ri_pure_ok hp h8 h9
          exact ri_pure_W hx hb hp hd h3 (fun ls' hl' => ih _ _ _ _ _ _ h ad ls' H locs cells slots h1 h2 hl' h4 h5 h6 h7 k1 k2 h10 h11 h12 h13 h14)
        · cases h
      · split at h
        · next x hhp =>
          split at h
          · next hlen =>
            subst hlen
            obtain ⟨r2, g1, g2, g3, g4, g5⟩ := ri_more_s h
            intro ad ls H locs cells slots h1 h2 h3 h4 h5 h6 h7 h8 h9 h10 h11 h12 h13 h14
            rw [g3] at h12
            rw [g4] at h13
            rw [g5] at h14
            refine ri_heap_W hsc hac hC0.1 hhp hd h4 h5 h6 h7 h9 h10 (fun o ho => h14 o (List.mem_append_left _ ho)) h3.1 (by show 1 ≤ d + 1 + 1; omega) (by show 100 ≤ 100 + (d + 1) * LC; omega) (by show _ ≤ mcT; omega) (by show _ ≤ msT; omega) ?_
            intro ad' H' locs' a1 a2 a3 a4 a5 a6 a7
            exact ih _ _ _ _ _ _ g1 ad' ls H' locs' (cells + x.2.2.2.1) (slots + x.2.2.2.2.1) (ri_ag_tr h1 a1 h2) (Nat.le_trans h2 a6) (by rw [ri_lc_ag h8 a1]; exact h3) a2 a3 a4 a5 (fun q hq => ri_ok_mono (h8 q hq) a6) a7 h10 (fun z hz => h11 z (by rw [g2]; exact hz)) (by omega) (by omega) (fun o ho => h14 o (List.mem_append_right _ ho))
          · cases h
        · split at h
          · next a t r hf =>
            split at h
            · next hk => exact ri_foc_W ih hf hk.1 h
            · cases h
          · exact ri_ctl_W hC0 (fun pc lv st cs mem rs hh => ih pc lv st cs mem rs hh) hcall hcode hd h
    · cases h
theorem ri_args_lc {ad : Nat → Nat} : ∀ (as : List Jvm.Term) (i : Nat), ri_lc ρ sa ad (ri_args i as) = lv_args i (as.map (ri_cv ρ sa ad))
  | [], i => rfl
  | t :: ts, i => by
    show (i, ri_cv ρ sa ad t) :: ri_lc ρ sa ad (ri_args (if ri_wide t = true then i + 2 else i + 1) ts) = (i, ri_cv ρ sa ad t) :: lv_args (if (ri_cv ρ sa ad t).category = 2 then i + 2 else i + 1) (ts.map (ri_cv ρ sa ad))
    rw [ri_args_lc ts]
    by_cases h : ri_wide t = true
    · rw [if_pos h, if_pos (ri_cat2.mpr h)]
    · rw [if_neg h, if_neg (fun z => h (ri_cat2.mp z))]
theorem ri_args_ok {n : Nat} : ∀ (as : List Jvm.Term) (i : Nat), (∀ t ∈ as, ri_ok n t) → ∀ q ∈ ri_args i as, ri_ok n q.2
  | [], i, h, q, hq => by cases hq
  | t :: ts, i, h, q, hq => by
    rcases List.mem_cons.mp hq with rfl | hq
    · exact h t List.mem_cons_self
    · exact ri_args_ok ts _ (ri_all_tl h) q hq
theorem ri_args_len {ad : Nat → Nat} : ∀ (as : List Jvm.Term), (lg_sl (as.map (ri_cv ρ sa ad))).length = (as.map (fun t => if ri_wide t = true then 2 else 1)).sum
  | [] => rfl
  | t :: ts => by
    have ih := ri_args_len (ad := ad) ts
    unfold lg_sl at ih ⊢
    rw [List.map_cons, List.flatMap_cons, List.length_append, ih, List.map_cons, List.sum_cons]
    by_cases h : ri_wide t = true
    · rw [if_pos h, if_pos (ri_cat2.mpr h)]; rfl
    · rw [if_neg h, if_neg (fun z => h (ri_cat2.mp z))]; rfl
/-- what a program must show of its tables -/
def ri_TB (ALL : List Jvm.Cond) (STR : List (String × Nat × String)) (G : ri_Tb) (LC : Nat) : Prop := ri_clOK ALL G ∧ ri_lkOK ALL STR G ∧ (∀ w ∈ ALL, ri_warm w = true) ∧ (∀ i ∈ ri_mts G, 19 + ri_mx i ≤ LC) ∧ (∀ M2 ∈ ri_mts G, ri_own M2 = (ri_nm M2).cls ∧ ri_hw M2 ∈ ALL ∧ goodWord (ri_hw M2) = true ∧ Jvm.Cond.initialized (ri_nm M2).cls ∈ ALL ∧ Bundle.fit (ri_nm M2).cls = true) ∧ (∀ t : ArrayType, ri_isI (newarray.typeOf t) = true → Jvm.Cond.arrayClass (newarray.typeOf t) ∈ ALL) ∧ (∀ M ∈ ri_mts G, ∀ pc i len, (ri_co M)[pc]? = some (some (i, len)) → decode (ri_by M) pc = .ok (i, len)) ∧ (∀ q ∈ ri_nc G, q.2.2 = true → Jvm.Cond.castable q.1 q.2.1 ∈ ALL)
/-- EACH CALL THAT RUNS THROUGH HAS ITS CONTRACT -/
theorem ri_call_W {fuel : Nat} (hl : l.stackTraces = false) (hT : ri_TB ALL STR G LC) : ∀ (k mi : Nat) (as : List Jvm.Term) (cs : List ri_Cd) (mem : ri_Me) (rs : ri_Rs), ri_call G fuel k mi as cs mem = some rs → ri_Con l ALL STR G LC k mi as cs mem rs := by
  obtain ⟨hcl, hlk, hwm, hLC, hco, hac, hcode, hcs⟩ := hT
  intro k
  induction k with
  | zero => intro mi as cs mem rs h; rw [ri_call_0] at h; cases h
  | succ k ih =>
    intro mi as cs mem rs h M hM D tyc ρ sa ad sz hsat hok hargs hob
    rw [ri_call_S] at h
    rw [hM] at h
    dsimp only at h
    split at h
    · next hlen =>
      obtain ⟨hlw, hlen, hhi⟩ := hlen
      have hMm := List.mem_of_getElem? hM
      obtain ⟨c0, c1, c2, c3, c4⟩ := hco M hMm
      have body : ∀ (p : Program) (e : Env) (s : State) (m : MethodId) (args : Array Value) (below : List Frame) (meth : Method) (c : Code) (s₁ : State), BodyLoose p l (ri_nm M) (headSpec [ri_hw M] (ri_rm (k + 1) LC rs.2.1 rs.2.2.1)) (ri_by M) (ri_mx M) (ri_rt M) e s m args below meth c s₁ → c.maxLocals = ri_mx M → c.exceptionTable.toList = tableOf (ri_hh M) → ri_Pc ALL STR G D tyc ρ sa ad sz as mem args s →
          W p l e (ri_rm (k + 1) LC rs.2.1 rs.2.2.1) s m args below meth c s.heap [] 0 0 (vx_MQ below (ri_Qc G D tyc (va_A (ri_w ρ sa (ri_aty G) tyc ad mem) sz) ρ sa mem.length ad rs.1) (ri_XC G D tyc (va_A (ri_w ρ sa (ri_aty G) tyc ad mem) sz) ρ sa mem.length ad rs.1) args s rs.2.1 rs.2.2.1 (va_A (ri_w ρ sa (ri_aty G) tyc ad mem) sz)) (entryFrame m args (ri_mx M)) := by
        intro p e s m args below meth c s₁ B hml hex hPc
        obtain ⟨rfl, hsz, hP, hD0, hSt⟩ := hPc
        have hD : va_D (va_A (ri_w ρ sa (ri_aty G) tyc ad mem) sz) (ri_w ρ sa (ri_aty G) tyc ad mem) := hD0.self
        have hown : s.vm.findClass (ri_own M) = some m.cls := by rw [c0]; exact findClass_of_methodNamed B.named
        have hA : ∀ q, s.heap.size ≤ q → va_A (ri_w ρ sa (ri_aty G) tyc ad mem) sz q := fun q h => Or.inr (by rw [← hsz]; exact h)
        have hC : ri_Cx l ALL STR sa G M D tyc (va_A (ri_w ρ sa (ri_aty G) tyc ad mem) sz) p s m (as.map (ri_cv ρ sa ad)).toArray meth c (ri_rm (k + 1) LC rs.2.1 rs.2.2.1) LC k rs.2.1 rs.2.2.1 :=
          ⟨⟨⟨B.exec, B.bytes, hml, hown, fun h => (name_of_methodNamed B.named B.method).1.trans h⟩, hlk M hMm, hcl, hlk, fun w hw => hSt.1 w hw _, hSt.2.1, hA, hSt.2.2.1⟩, hSt, hwm, B.returns, B.notSynchronized, hex, hl, rfl, hLC, hco, hcs, hhi⟩
        have hgo := ri_run_W (ρ := ρ) (below := below) (e := e) (n0 := mem.length) (ad0 := ad) (LT := rs.1) (fun _ _ _ _ _ _ z => by cases z) (fun z => by rw [hlw] at z; cases z) hac hC (fun mi as cs mem rs h => ih mi as cs mem rs h) (hcode M hMm) fuel 0 (ri_args 0 as) [] cs mem rs h
        have hl0 := lv_entry (as.map (ri_cv ρ sa ad)) (n := ri_mx M) (by rw [ri_args_len]; exact hlen)
        rw [lg_entry_eq]
        rw [← ri_args_lc as 0] at hl0
        exact hgo ad _ s.heap [] 0 0 ri_ag_rf (Nat.le_refl _) hl0 hP hD va_S.rf hok (ri_args_ok as 0 hargs) (fun t ht => by cases ht) hsat (fun x hx => hx) (by rw [Nat.zero_add]; exact Nat.le_refl _) (by rw [Nat.zero_add]; exact Nat.le_refl _) hob
      cases hh9 : ri_hh M with
      | nil =>
        refine vx_ofW (cc := ri_by M) (maxL := ri_mx M) (ret := ri_rt M) (ws' := []) (Bundle.fit_spec c4).1 (by rw [ri_hw_nil (M2 := M) (by rw [hh9]; rfl)]) ?_
        intro p e s m args below meth c s₁ B hml hex hPc
        refine body p e s m args below meth c s₁ B hml ?_ hPc
        rw [hh9]
        exact List.eq_nil_iff_forall_not_mem.mpr fun x hx => hex x hx
      | cons h9 t9 =>
        refine vx_ofWH (cc := ri_by M) (maxL := ri_mx M) (ret := ri_rt M) (hh := h9 :: t9) (ws' := []) (Bundle.fit_spec c4).1 (by rw [ri_hw_cons (M2 := M) hh9]) ?_
        intro p e s m args below meth c s₁ B hml hPc
        refine body p e s m args below meth c s₁ B hml ?_ hPc
        have hpre := atoms_spec (ws := [ri_hw M]) B.pre (ri_hw M) List.mem_cons_self
        rw [ri_hw_cons (M2 := M) hh9] at hpre
        rw [hh9]
        exact vx_table (x := ri_nm M) B hpre
    · cases h
end RIZ1
end RIZ
end
section
/-! names of the program (out of the printed ones) -/
def RX0 : String := "PartitionBench$Disk"
abbrev cX0_init : ByteArray := prog_2_method_1_code
def yX0_init : MethodName := ⟨RX0, "<init>", "()V"⟩
abbrev cX0_clear : ByteArray := prog_2_method_2_code
def yX0_clear : MethodName := ⟨RX0, "clear", "(I)V"⟩
abbrev cX0_copyFrom : ByteArray := prog_2_method_3_code
def yX0_copyFrom : MethodName := ⟨RX0, "copyFrom", "(LPartitionBench$Disk;)V"⟩
abbrev cX0_find : ByteArray := prog_2_method_4_code
def yX0_find : MethodName := ⟨RX0, "find", "(I)LPartitionBench$Part;"⟩
abbrev cX0_standing : ByteArray := prog_2_method_5_code
def yX0_standing : MethodName := ⟨RX0, "standing", "()I"⟩
abbrev cX0_takenByParts : ByteArray := prog_2_method_6_code
def yX0_takenByParts : MethodName := ⟨RX0, "takenByParts", "()I"⟩
abbrev cX0_nextBehind : ByteArray := prog_2_method_7_code
def yX0_nextBehind : MethodName := ⟨RX0, "nextBehind", "(I)LPartitionBench$Part;"⟩
abbrev cX0_isMoved : ByteArray := prog_2_method_8_code
def yX0_isMoved : MethodName := ⟨RX0, "isMoved", "(LPartitionBench$Part;)Z"⟩
abbrev cX0_isFree : ByteArray := prog_2_method_9_code
def yX0_isFree : MethodName := ⟨RX0, "isFree", "(LPartitionBench$Part;)Z"⟩
abbrev cX0_usableEnd : ByteArray := prog_2_method_10_code
def yX0_usableEnd : MethodName := ⟨RX0, "usableEnd", "()I"⟩
abbrev cX0_isUsable : ByteArray := prog_2_method_11_code
def yX0_isUsable : MethodName := ⟨RX0, "isUsable", "(JJ)Z"⟩
abbrev cX0_isAligned : ByteArray := prog_2_method_12_code
def yX0_isAligned : MethodName := ⟨RX0, "isAligned", "(I)Z"⟩
abbrev cX0_meeting : ByteArray := prog_2_method_13_code
def yX0_meeting : MethodName := ⟨RX0, "meeting", "(JJ)I"⟩
abbrev cX0_meetingOthers : ByteArray := prog_2_method_14_code
def yX0_meetingOthers : MethodName := ⟨RX0, "meetingOthers", "(LPartitionBench$Part;II)I"⟩
abbrev cX0_endOfTaken : ByteArray := prog_2_method_15_code
def yX0_endOfTaken : MethodName := ⟨RX0, "endOfTaken", "(I)I"⟩
abbrev cX0_nextTaken : ByteArray := prog_2_method_16_code
def yX0_nextTaken : MethodName := ⟨RX0, "nextTaken", "(I)I"⟩
abbrev cX0_whyNotTake : ByteArray := prog_2_method_17_code
def yX0_whyNotTake : MethodName := ⟨RX0, "whyNotTake", "(II)I"⟩
abbrev cX0_whyNotSize : ByteArray := prog_2_method_18_code
def yX0_whyNotSize : MethodName := ⟨RX0, "whyNotSize", "(LPartitionBench$Part;I)I"⟩
abbrev cX0_whyNoRoomFor : ByteArray := prog_2_method_19_code
def yX0_whyNoRoomFor : MethodName := ⟨RX0, "whyNoRoomFor", "(LPartitionBench$Part;I)I"⟩
abbrev cX0_whyNotMove : ByteArray := prog_2_method_20_code
def yX0_whyNotMove : MethodName := ⟨RX0, "whyNotMove", "(LPartitionBench$Part;II)I"⟩
abbrev cX0_needsScratch : ByteArray := prog_2_method_21_code
def yX0_needsScratch : MethodName := ⟨RX0, "needsScratch", "(LPartitionBench$Part;II)Z"⟩
abbrev cX0_scratchFor : ByteArray := prog_2_method_22_code
def yX0_scratchFor : MethodName := ⟨RX0, "scratchFor", "(LPartitionBench$Part;II)I"⟩
abbrev cX0_startInTheWay : ByteArray := prog_2_method_23_code
def yX0_startInTheWay : MethodName := ⟨RX0, "startInTheWay", "(LPartitionBench$Part;III)I"⟩
abbrev cX0_numberAt : ByteArray := prog_2_method_24_code
def yX0_numberAt : MethodName := ⟨RX0, "numberAt", "(I)I"⟩
abbrev cX0_write : ByteArray := prog_2_method_25_code
def yX0_write : MethodName := ⟨RX0, "write", "(II)V"⟩
abbrev cX0_writeBlocks : ByteArray := prog_2_method_26_code
def yX0_writeBlocks : MethodName := ⟨RX0, "writeBlocks", "(LPartitionBench$Part;I)V"⟩
abbrev cX0_placeOf : ByteArray := prog_2_method_27_code
def yX0_placeOf : MethodName := ⟨RX0, "placeOf", "(LPartitionBench$Part;I)I"⟩
abbrev cX0_holderOf : ByteArray := prog_2_method_28_code
def yX0_holderOf : MethodName := ⟨RX0, "holderOf", "(I)I"⟩
abbrev cX0_hasPlace : ByteArray := prog_2_method_29_code
def yX0_hasPlace : MethodName := ⟨RX0, "hasPlace", "(LPartitionBench$Part;I)Z"⟩
abbrev cX0_isPlaceOf : ByteArray := prog_2_method_30_code
def yX0_isPlaceOf : MethodName := ⟨RX0, "isPlaceOf", "(LPartitionBench$Part;II)Z"⟩
abbrev cX0_keepsWhole : ByteArray := prog_2_method_31_code
def yX0_keepsWhole : MethodName := ⟨RX0, "keepsWhole", "(LPartitionBench$Part;)Z"⟩
abbrev cX0_leftOverOf : ByteArray := prog_2_method_32_code
def yX0_leftOverOf : MethodName := ⟨RX0, "leftOverOf", "(LPartitionBench$Part;)I"⟩
abbrev cX0_wipeOut : ByteArray := prog_2_method_33_code
def yX0_wipeOut : MethodName := ⟨RX0, "wipeOut", "()I"⟩
abbrev cX0_make : ByteArray := prog_2_method_34_code
def yX0_make : MethodName := ⟨RX0, "make", "(IIII)I"⟩
abbrev cX0_giveSize : ByteArray := prog_2_method_35_code
def yX0_giveSize : MethodName := ⟨RX0, "giveSize", "(LPartitionBench$Part;I)V"⟩
abbrev cX0_stepsOrNone : ByteArray := prog_2_method_36_code
def yX0_stepsOrNone : MethodName := ⟨RX0, "stepsOrNone", "(LPartitionBench$Part;II)I"⟩
abbrev cX0_beginMove : ByteArray := prog_2_method_37_code
def yX0_beginMove : MethodName := ⟨RX0, "beginMove", "(LPartitionBench$Part;I)V"⟩
abbrev cX0_doSteps : ByteArray := prog_2_method_38_code
def yX0_doSteps : MethodName := ⟨RX0, "doSteps", "(I)I"⟩
abbrev cX0_doStep : ByteArray := prog_2_method_39_code
def yX0_doStep : MethodName := ⟨RX0, "doStep", "()V"⟩
abbrev cX0_tearStep : ByteArray := prog_2_method_40_code
def yX0_tearStep : MethodName := ⟨RX0, "tearStep", "()I"⟩
abbrev cX0_copySectors : ByteArray := prog_2_method_41_code
def yX0_copySectors : MethodName := ⟨RX0, "copySectors", "(III)V"⟩
abbrev cX0_endMove : ByteArray := prog_2_method_42_code
def yX0_endMove : MethodName := ⟨RX0, "endMove", "()V"⟩
abbrev cX0_turnMove : ByteArray := prog_2_method_43_code
def yX0_turnMove : MethodName := ⟨RX0, "turnMove", "()V"⟩
abbrev cX0_leastStart : ByteArray := prog_2_method_44_code
def yX0_leastStart : MethodName := ⟨RX0, "leastStart", "(LPartitionBench$Part;)I"⟩
abbrev cX0_greatestStart : ByteArray := prog_2_method_45_code
def yX0_greatestStart : MethodName := ⟨RX0, "greatestStart", "(LPartitionBench$Part;)I"⟩
abbrev cX0_packLeft : ByteArray := prog_2_method_46_code
def yX0_packLeft : MethodName := ⟨RX0, "packLeft", "()I"⟩
abbrev cX0_bringsRoom : ByteArray := prog_2_method_47_code
def yX0_bringsRoom : MethodName := ⟨RX0, "bringsRoom", "(LPartitionBench$Part;II)Z"⟩
def RX1 : String := "PartitionBench$Gaps"
abbrev cX1_init : ByteArray := prog_3_method_1_code
def yX1_init : MethodName := ⟨RX1, "<init>", "()V"⟩
abbrev cX1_find : ByteArray := prog_3_method_2_code
def yX1_find : MethodName := ⟨RX1, "find", "(LPartitionBench$Disk;)V"⟩
abbrev cX1_note : ByteArray := prog_3_method_3_code
def yX1_note : MethodName := ⟨RX1, "note", "(II)V"⟩
abbrev cX1_start : ByteArray := prog_3_method_4_code
def yX1_start : MethodName := ⟨RX1, "start", "(I)I"⟩
abbrev cX1_size : ByteArray := prog_3_method_5_code
def yX1_size : MethodName := ⟨RX1, "size", "(I)I"⟩
abbrev cX1_roomStart : ByteArray := prog_3_method_6_code
def yX1_roomStart : MethodName := ⟨RX1, "roomStart", "(I)I"⟩
abbrev cX1_room : ByteArray := prog_3_method_7_code
def yX1_room : MethodName := ⟨RX1, "room", "(I)I"⟩
abbrev cX1_sectors : ByteArray := prog_3_method_8_code
def yX1_sectors : MethodName := ⟨RX1, "sectors", "()I"⟩
abbrev cX1_sectorsOfRooms : ByteArray := prog_3_method_9_code
def yX1_sectorsOfRooms : MethodName := ⟨RX1, "sectorsOfRooms", "()I"⟩
abbrev cX1_largest : ByteArray := prog_3_method_10_code
def yX1_largest : MethodName := ⟨RX1, "largest", "()I"⟩
abbrev cX1_mostRoom : ByteArray := prog_3_method_11_code
def yX1_mostRoom : MethodName := ⟨RX1, "mostRoom", "()I"⟩
abbrev cX1_holding : ByteArray := prog_3_method_12_code
def yX1_holding : MethodName := ⟨RX1, "holding", "(I)I"⟩
abbrev cX1_startFor : ByteArray := prog_3_method_13_code
def yX1_startFor : MethodName := ⟨RX1, "startFor", "(II)I"⟩
abbrev cX1_isBetter : ByteArray := prog_3_method_14_code
def yX1_isBetter : MethodName := ⟨RX1, "isBetter", "(III)Z"⟩
def RX2 : String := "PartitionBench$History"
abbrev cX2_init : ByteArray := prog_4_method_1_code
def yX2_init : MethodName := ⟨RX2, "<init>", "()V"⟩
abbrev cX2_note : ByteArray := prog_4_method_2_code
def yX2_note : MethodName := ⟨RX2, "note", "(LPartitionBench$Disk;)V"⟩
abbrev cX2_takeBack : ByteArray := prog_4_method_3_code
def yX2_takeBack : MethodName := ⟨RX2, "takeBack", "(LPartitionBench$Disk;)Z"⟩
abbrev cX2_forget : ByteArray := prog_4_method_4_code
def yX2_forget : MethodName := ⟨RX2, "forget", "()V"⟩
def RX3 : String := "PartitionBench$Move"
abbrev cX3_init : ByteArray := prog_5_method_1_code
def yX3_init : MethodName := ⟨RX3, "<init>", "()V"⟩
abbrev cX3_copyFrom : ByteArray := prog_5_method_2_code
def yX3_copyFrom : MethodName := ⟨RX3, "copyFrom", "(LPartitionBench$Move;)V"⟩
abbrev cX3_isOn : ByteArray := prog_5_method_3_code
def yX3_isOn : MethodName := ⟨RX3, "isOn", "()Z"⟩
abbrev cX3_stop : ByteArray := prog_5_method_4_code
def yX3_stop : MethodName := ⟨RX3, "stop", "()V"⟩
abbrev cX3_lengthOf : ByteArray := prog_5_method_5_code
def yX3_lengthOf : MethodName := ⟨RX3, "lengthOf", "(I)I"⟩
abbrev cX3_isMovedChunk : ByteArray := prog_5_method_6_code
def yX3_isMovedChunk : MethodName := ⟨RX3, "isMovedChunk", "(I)Z"⟩
abbrev cX3_nextChunk : ByteArray := prog_5_method_7_code
def yX3_nextChunk : MethodName := ⟨RX3, "nextChunk", "()I"⟩
abbrev cX3_firstBlock : ByteArray := prog_5_method_8_code
def yX3_firstBlock : MethodName := ⟨RX3, "firstBlock", "()I"⟩
abbrev cX3_stepLength : ByteArray := prog_5_method_9_code
def yX3_stepLength : MethodName := ⟨RX3, "stepLength", "()I"⟩
abbrev cX3_stepKind : ByteArray := prog_5_method_10_code
def yX3_stepKind : MethodName := ⟨RX3, "stepKind", "()I"⟩
abbrev cX3_stepSource : ByteArray := prog_5_method_11_code
def yX3_stepSource : MethodName := ⟨RX3, "stepSource", "(I)I"⟩
abbrev cX3_stepTarget : ByteArray := prog_5_method_12_code
def yX3_stepTarget : MethodName := ⟨RX3, "stepTarget", "(I)I"⟩
abbrev cX3_placeOfBlock : ByteArray := prog_5_method_13_code
def yX3_placeOfBlock : MethodName := ⟨RX3, "placeOfBlock", "(I)I"⟩
abbrev cX3_blocksMoved : ByteArray := prog_5_method_14_code
def yX3_blocksMoved : MethodName := ⟨RX3, "blocksMoved", "()I"⟩
abbrev cX3_stepsLeft : ByteArray := prog_5_method_15_code
def yX3_stepsLeft : MethodName := ⟨RX3, "stepsLeft", "()I"⟩
abbrev cX3_scratchSize : ByteArray := prog_5_method_16_code
def yX3_scratchSize : MethodName := ⟨RX3, "scratchSize", "()I"⟩
abbrev cX3_keepsBusy : ByteArray := prog_5_method_17_code
def yX3_keepsBusy : MethodName := ⟨RX3, "keepsBusy", "(JJ)Z"⟩
abbrev cX3_endOfBusy : ByteArray := prog_5_method_18_code
def yX3_endOfBusy : MethodName := ⟨RX3, "endOfBusy", "(I)I"⟩
abbrev cX3_nextBusy : ByteArray := prog_5_method_19_code
def yX3_nextBusy : MethodName := ⟨RX3, "nextBusy", "(II)I"⟩
def RX4 : String := "PartitionBench$Output"
abbrev cX4_init : ByteArray := prog_6_method_1_code
def yX4_init : MethodName := ⟨RX4, "<init>", "()V"⟩
abbrev cX4_empty : ByteArray := prog_6_method_2_code
def yX4_empty : MethodName := ⟨RX4, "empty", "()V"⟩
abbrev cX4_putSign : ByteArray := prog_6_method_3_code
def yX4_putSign : MethodName := ⟨RX4, "putSign", "(I)V"⟩
abbrev cX4_putNumber : ByteArray := prog_6_method_4_code
def yX4_putNumber : MethodName := ⟨RX4, "putNumber", "(I)V"⟩
abbrev cX4_putPart : ByteArray := prog_6_method_5_code
def yX4_putPart : MethodName := ⟨RX4, "putPart", "(LPartitionBench$Part;Z)V"⟩
abbrev cX4_byteAt : ByteArray := prog_6_method_6_code
def yX4_byteAt : MethodName := ⟨RX4, "byteAt", "(I)I"⟩
def RX5 : String := "PartitionBench$Part"
abbrev cX5_init : ByteArray := prog_7_method_1_code
def yX5_init : MethodName := ⟨RX5, "<init>", "(I)V"⟩
abbrev cX5_copyFrom : ByteArray := prog_7_method_2_code
def yX5_copyFrom : MethodName := ⟨RX5, "copyFrom", "(LPartitionBench$Part;)V"⟩
abbrev cX5_stands : ByteArray := prog_7_method_3_code
def yX5_stands : MethodName := ⟨RX5, "stands", "()Z"⟩
abbrev cX5_end : ByteArray := prog_7_method_4_code
def yX5_end : MethodName := ⟨RX5, "end", "()I"⟩
abbrev cX5_numberOf : ByteArray := prog_7_method_5_code
def yX5_numberOf : MethodName := ⟨RX5, "numberOf", "(I)I"⟩
abbrev cX5_meetsArea : ByteArray := prog_7_method_6_code
def yX5_meetsArea : MethodName := ⟨RX5, "meetsArea", "(JJ)Z"⟩
def RX6 : String := "PartitionBench$Setup"
abbrev cX6_init : ByteArray := prog_8_method_1_code
def yX6_init : MethodName := ⟨RX6, "<init>", "()V"⟩
abbrev cX6_hasRoomFor : ByteArray := prog_8_method_2_code
def yX6_hasRoomFor : MethodName := ⟨RX6, "hasRoomFor", "(I)Z"⟩
abbrev cX6_putBytes : ByteArray := prog_8_method_3_code
def yX6_putBytes : MethodName := ⟨RX6, "putBytes", "(I)V"⟩
abbrev cX6_parseInto : ByteArray := prog_8_method_4_code
def yX6_parseInto : MethodName := ⟨RX6, "parseInto", "(LPartitionBench$Disk;)Z"⟩
abbrev cX6_statement : ByteArray := prog_8_method_5_code
def yX6_statement : MethodName := ⟨RX6, "statement", "(LPartitionBench$Disk;)Z"⟩
abbrev cX6_layout : ByteArray := prog_8_method_6_code
def yX6_layout : MethodName := ⟨RX6, "layout", "(LPartitionBench$Disk;)Z"⟩
abbrev cX6_chunking : ByteArray := prog_8_method_7_code
def yX6_chunking : MethodName := ⟨RX6, "chunking", "(LPartitionBench$Disk;)Z"⟩
abbrev cX6_partition : ByteArray := prog_8_method_8_code
def yX6_partition : MethodName := ⟨RX6, "partition", "(LPartitionBench$Disk;)Z"⟩
abbrev cX6_locking : ByteArray := prog_8_method_9_code
def yX6_locking : MethodName := ⟨RX6, "locking", "(LPartitionBench$Disk;)Z"⟩
abbrev cX6_semicolon : ByteArray := prog_8_method_10_code
def yX6_semicolon : MethodName := ⟨RX6, "semicolon", "()Z"⟩
abbrev cX6_number : ByteArray := prog_8_method_11_code
def yX6_number : MethodName := ⟨RX6, "number", "(II)Z"⟩
abbrev cX6_fail : ByteArray := prog_8_method_12_code
def yX6_fail : MethodName := ⟨RX6, "fail", "(I)Z"⟩
abbrev cX6_byteAt : ByteArray := prog_8_method_13_code
def yX6_byteAt : MethodName := ⟨RX6, "byteAt", "(I)I"⟩
abbrev cX6_isLetter : ByteArray := prog_8_method_14_code
def yX6_isLetter : MethodName := ⟨RX6, "isLetter", "(I)Z"⟩
abbrev cX6_isDigit : ByteArray := prog_8_method_15_code
def yX6_isDigit : MethodName := ⟨RX6, "isDigit", "(I)Z"⟩
abbrev cX6_next : ByteArray := prog_8_method_16_code
def yX6_next : MethodName := ⟨RX6, "next", "()V"⟩
abbrev cX6_isWord : ByteArray := prog_8_method_17_code
def yX6_isWord : MethodName := ⟨RX6, "isWord", "(Ljava/lang/String;)Z"⟩
def RX7 : String := "PartitionBench"
abbrev cX7_init : ByteArray := prog_1_method_1_code
def yX7_init : MethodName := ⟨RX7, "<init>", "()V"⟩
abbrev cX7_appendInput : ByteArray := prog_1_method_2_code
def yX7_appendInput : MethodName := ⟨RX7, "appendInput", "(IIIII)I"⟩
abbrev cX7_truncateInput : ByteArray := prog_1_method_3_code
def yX7_truncateInput : MethodName := ⟨RX7, "truncateInput", "(I)Z"⟩
abbrev cX7_loadDisk : ByteArray := prog_1_method_4_code
def yX7_loadDisk : MethodName := ⟨RX7, "loadDisk", "()I"⟩
abbrev cX7_errorCode : ByteArray := prog_1_method_5_code
def yX7_errorCode : MethodName := ⟨RX7, "errorCode", "()I"⟩
abbrev cX7_errorOffset : ByteArray := prog_1_method_6_code
def yX7_errorOffset : MethodName := ⟨RX7, "errorOffset", "()I"⟩
abbrev cX7_count : ByteArray := prog_1_method_7_code
def yX7_count : MethodName := ⟨RX7, "count", "(I)I"⟩
abbrev cX7_part : ByteArray := prog_1_method_8_code
def yX7_part : MethodName := ⟨RX7, "part", "(II)I"⟩
abbrev cX7_sector : ByteArray := prog_1_method_9_code
def yX7_sector : MethodName := ⟨RX7, "sector", "(I)I"⟩
abbrev cX7_owner : ByteArray := prog_1_method_10_code
def yX7_owner : MethodName := ⟨RX7, "owner", "(I)I"⟩
abbrev cX7_place : ByteArray := prog_1_method_11_code
def yX7_place : MethodName := ⟨RX7, "place", "(II)I"⟩
abbrev cX7_isWhole : ByteArray := prog_1_method_12_code
def yX7_isWhole : MethodName := ⟨RX7, "isWhole", "(I)Z"⟩
abbrev cX7_byStart : ByteArray := prog_1_method_13_code
def yX7_byStart : MethodName := ⟨RX7, "byStart", "(I)I"⟩
abbrev cX7_behind : ByteArray := prog_1_method_14_code
def yX7_behind : MethodName := ⟨RX7, "behind", "(I)I"⟩
abbrev cX7_overlapped : ByteArray := prog_1_method_15_code
def yX7_overlapped : MethodName := ⟨RX7, "overlapped", "(II)I"⟩
abbrev cX7_used : ByteArray := prog_1_method_16_code
def yX7_used : MethodName := ⟨RX7, "used", "()D"⟩
abbrev cX7_slack : ByteArray := prog_1_method_17_code
def yX7_slack : MethodName := ⟨RX7, "slack", "()I"⟩
abbrev cX7_ofKind : ByteArray := prog_1_method_18_code
def yX7_ofKind : MethodName := ⟨RX7, "ofKind", "(I)I"⟩
abbrev cX7_copies : ByteArray := prog_1_method_19_code
def yX7_copies : MethodName := ⟨RX7, "copies", "(I)I"⟩
abbrev cX7_verify : ByteArray := prog_1_method_20_code
def yX7_verify : MethodName := ⟨RX7, "verify", "()I"⟩
abbrev cX7_gap : ByteArray := prog_1_method_21_code
def yX7_gap : MethodName := ⟨RX7, "gap", "(II)I"⟩
abbrev cX7_largestGap : ByteArray := prog_1_method_22_code
def yX7_largestGap : MethodName := ⟨RX7, "largestGap", "()I"⟩
abbrev cX7_fit : ByteArray := prog_1_method_23_code
def yX7_fit : MethodName := ⟨RX7, "fit", "(II)I"⟩
abbrev cX7_waste : ByteArray := prog_1_method_24_code
def yX7_waste : MethodName := ⟨RX7, "waste", "()I"⟩
abbrev cX7_scatter : ByteArray := prog_1_method_25_code
def yX7_scatter : MethodName := ⟨RX7, "scatter", "()F"⟩
abbrev cX7_gapAt : ByteArray := prog_1_method_26_code
def yX7_gapAt : MethodName := ⟨RX7, "gapAt", "(I)I"⟩
abbrev cX7_reason : ByteArray := prog_1_method_27_code
def yX7_reason : MethodName := ⟨RX7, "reason", "(II)I"⟩
abbrev cX7_add : ByteArray := prog_1_method_28_code
def yX7_add : MethodName := ⟨RX7, "add", "(IIII)I"⟩
abbrev cX7_addBy : ByteArray := prog_1_method_29_code
def yX7_addBy : MethodName := ⟨RX7, "addBy", "(IIII)I"⟩
abbrev cX7_remove : ByteArray := prog_1_method_30_code
def yX7_remove : MethodName := ⟨RX7, "remove", "(I)I"⟩
abbrev cX7_lock : ByteArray := prog_1_method_31_code
def yX7_lock : MethodName := ⟨RX7, "lock", "(IZ)Z"⟩
abbrev cX7_resizeReason : ByteArray := prog_1_method_32_code
def yX7_resizeReason : MethodName := ⟨RX7, "resizeReason", "(II)I"⟩
abbrev cX7_resize : ByteArray := prog_1_method_33_code
def yX7_resize : MethodName := ⟨RX7, "resize", "(II)I"⟩
abbrev cX7_roundUp : ByteArray := prog_1_method_34_code
def yX7_roundUp : MethodName := ⟨RX7, "roundUp", "(I)I"⟩
abbrev cX7_setMinimum : ByteArray := prog_1_method_35_code
def yX7_setMinimum : MethodName := ⟨RX7, "setMinimum", "(II)I"⟩
abbrev cX7_growsTo : ByteArray := prog_1_method_36_code
def yX7_growsTo : MethodName := ⟨RX7, "growsTo", "(I)I"⟩
abbrev cX7_set : ByteArray := prog_1_method_37_code
def yX7_set : MethodName := ⟨RX7, "set", "(II)I"⟩
abbrev cX7_split : ByteArray := prog_1_method_38_code
def yX7_split : MethodName := ⟨RX7, "split", "(II)I"⟩
abbrev cX7_join : ByteArray := prog_1_method_39_code
def yX7_join : MethodName := ⟨RX7, "join", "(I)I"⟩
abbrev cX7_shrinkAll : ByteArray := prog_1_method_40_code
def yX7_shrinkAll : MethodName := ⟨RX7, "shrinkAll", "()I"⟩
abbrev cX7_wipe : ByteArray := prog_1_method_41_code
def yX7_wipe : MethodName := ⟨RX7, "wipe", "()I"⟩
abbrev cX7_moveReason : ByteArray := prog_1_method_42_code
def yX7_moveReason : MethodName := ⟨RX7, "moveReason", "(II)I"⟩
abbrev cX7_stepsFor : ByteArray := prog_1_method_43_code
def yX7_stepsFor : MethodName := ⟨RX7, "stepsFor", "(II)I"⟩
abbrev cX7_bestChunk : ByteArray := prog_1_method_44_code
def yX7_bestChunk : MethodName := ⟨RX7, "bestChunk", "(II)I"⟩
abbrev cX7_leftmost : ByteArray := prog_1_method_45_code
def yX7_leftmost : MethodName := ⟨RX7, "leftmost", "(I)I"⟩
abbrev cX7_rightmost : ByteArray := prog_1_method_46_code
def yX7_rightmost : MethodName := ⟨RX7, "rightmost", "(I)I"⟩
abbrev cX7_begin : ByteArray := prog_1_method_47_code
def yX7_begin : MethodName := ⟨RX7, "begin", "(II)I"⟩
abbrev cX7_run : ByteArray := prog_1_method_48_code
def yX7_run : MethodName := ⟨RX7, "run", "(I)I"⟩
abbrev cX7_tear : ByteArray := prog_1_method_49_code
def yX7_tear : MethodName := ⟨RX7, "tear", "()I"⟩
abbrev cX7_turnBack : ByteArray := prog_1_method_50_code
def yX7_turnBack : MethodName := ⟨RX7, "turnBack", "()I"⟩
abbrev cX7_move : ByteArray := prog_1_method_51_code
def yX7_move : MethodName := ⟨RX7, "move", "(I)I"⟩
abbrev cX7_blocksAt : ByteArray := prog_1_method_52_code
def yX7_blocksAt : MethodName := ⟨RX7, "blocksAt", "(I)I"⟩
abbrev cX7_nextStep : ByteArray := prog_1_method_53_code
def yX7_nextStep : MethodName := ⟨RX7, "nextStep", "(I)I"⟩
abbrev cX7_stepSector : ByteArray := prog_1_method_54_code
def yX7_stepSector : MethodName := ⟨RX7, "stepSector", "(IZ)I"⟩
abbrev cX7_compact : ByteArray := prog_1_method_55_code
def yX7_compact : MethodName := ⟨RX7, "compact", "()I"⟩
abbrev cX7_compactSteps : ByteArray := prog_1_method_56_code
def yX7_compactSteps : MethodName := ⟨RX7, "compactSteps", "()I"⟩
abbrev cX7_cheapestMove : ByteArray := prog_1_method_57_code
def yX7_cheapestMove : MethodName := ⟨RX7, "cheapestMove", "(I)I"⟩
abbrev cX7_printDisk : ByteArray := prog_1_method_58_code
def yX7_printDisk : MethodName := ⟨RX7, "printDisk", "()I"⟩
abbrev cX7_outputByte : ByteArray := prog_1_method_59_code
def yX7_outputByte : MethodName := ⟨RX7, "outputByte", "(I)I"⟩
abbrev cX7_undo : ByteArray := prog_1_method_60_code
def yX7_undo : MethodName := ⟨RX7, "undo", "()I"⟩
abbrev cX7_saveState : ByteArray := prog_1_method_61_code
def yX7_saveState : MethodName := ⟨RX7, "saveState", "()I"⟩
abbrev cX7_restoreState : ByteArray := prog_1_method_62_code
def yX7_restoreState : MethodName := ⟨RX7, "restoreState", "()I"⟩
abbrev cX7_gapsNow : ByteArray := prog_1_method_63_code
def yX7_gapsNow : MethodName := ⟨RX7, "gapsNow", "()LPartitionBench$Gaps;"⟩
abbrev cX7_need : ByteArray := prog_1_method_64_code
def yX7_need : MethodName := ⟨RX7, "need", "(I)LPartitionBench$Part;"⟩
abbrev cX7_needSector : ByteArray := prog_1_method_65_code
def yX7_needSector : MethodName := ⟨RX7, "needSector", "(I)V"⟩
abbrev cX7_needKindAndMinimum : ByteArray := prog_1_method_66_code
def yX7_needKindAndMinimum : MethodName := ⟨RX7, "needKindAndMinimum", "(III)V"⟩
abbrev cX7_needRule : ByteArray := prog_1_method_67_code
def yX7_needRule : MethodName := ⟨RX7, "needRule", "(I)V"⟩
abbrev cX7_needNumberLeft : ByteArray := prog_1_method_68_code
def yX7_needNumberLeft : MethodName := ⟨RX7, "needNumberLeft", "()V"⟩
abbrev cX7_needFree : ByteArray := prog_1_method_69_code
def yX7_needFree : MethodName := ⟨RX7, "needFree", "(LPartitionBench$Part;)V"⟩
abbrev cX7_needSizeFor : ByteArray := prog_1_method_70_code
def yX7_needSizeFor : MethodName := ⟨RX7, "needSizeFor", "(LPartitionBench$Part;I)V"⟩
abbrev cX7_needMove : ByteArray := prog_1_method_71_code
def yX7_needMove : MethodName := ⟨RX7, "needMove", "()V"⟩
abbrev cX7_needNoMove : ByteArray := prog_1_method_72_code
def yX7_needNoMove : MethodName := ⟨RX7, "needNoMove", "()V"⟩
abbrev cX7_meet : ByteArray := prog_1_method_73_code
def yX7_meet : MethodName := ⟨RX7, "meet", "(JJJJ)Z"⟩
abbrev cX7_roundedUp : ByteArray := prog_1_method_74_code
def yX7_roundedUp : MethodName := ⟨RX7, "roundedUp", "(II)I"⟩
abbrev cX7_roomBetween : ByteArray := prog_1_method_75_code
def yX7_roomBetween : MethodName := ⟨RX7, "roomBetween", "(III)I"⟩
abbrev cX7_distanceOf : ByteArray := prog_1_method_76_code
def yX7_distanceOf : MethodName := ⟨RX7, "distanceOf", "(II)I"⟩
abbrev cX7_stepsOfChunk : ByteArray := prog_1_method_77_code
def yX7_stepsOfChunk : MethodName := ⟨RX7, "stepsOfChunk", "(II)I"⟩
abbrev cX7_stepsOfMove : ByteArray := prog_1_method_78_code
def yX7_stepsOfMove : MethodName := ⟨RX7, "stepsOfMove", "(III)I"⟩
def RX8 : String := "PartitionBenchModel"
abbrev cX8_init : ByteArray := prog_10_method_1_code
def yX8_init : MethodName := ⟨RX8, "<init>", "()V"⟩
abbrev cX8_thrown : ByteArray := prog_10_method_2_code
def yX8_thrown : MethodName := ⟨RX8, "thrown", "()I"⟩
abbrev cX8_inRange : ByteArray := prog_10_method_3_code
def yX8_inRange : MethodName := ⟨RX8, "inRange", "(JJJ)Z"⟩
abbrev cX8_fails : ByteArray := prog_10_method_4_code
def yX8_fails : MethodName := ⟨RX8, "fails", "(ZI)Z"⟩
abbrev cX8_copies : ByteArray := prog_10_method_5_code
def yX8_copies : MethodName := ⟨RX8, "copies", "([II[III)V"⟩
abbrev cX8_clear : ByteArray := prog_10_method_6_code
def yX8_clear : MethodName := ⟨RX8, "clear", "(I)V"⟩
abbrev cX8_remembers : ByteArray := prog_10_method_7_code
def yX8_remembers : MethodName := ⟨RX8, "remembers", "()V"⟩
abbrev cX8_begins : ByteArray := prog_10_method_8_code
def yX8_begins : MethodName := ⟨RX8, "begins", "()V"⟩
abbrev cX8_ends : ByteArray := prog_10_method_9_code
def yX8_ends : MethodName := ⟨RX8, "ends", "()V"⟩
abbrev cX8_of : ByteArray := prog_10_method_10_code
def yX8_of : MethodName := ⟨RX8, "of", "(II)I"⟩
abbrev cX8_put : ByteArray := prog_10_method_11_code
def yX8_put : MethodName := ⟨RX8, "put", "(III)V"⟩
abbrev cX8_stands : ByteArray := prog_10_method_12_code
def yX8_stands : MethodName := ⟨RX8, "stands", "(I)Z"⟩
abbrev cX8_partsMany : ByteArray := prog_10_method_13_code
def yX8_partsMany : MethodName := ⟨RX8, "partsMany", "()I"⟩
abbrev cX8_isMoving : ByteArray := prog_10_method_14_code
def yX8_isMoving : MethodName := ⟨RX8, "isMoving", "()Z"⟩
abbrev cX8_isMoved : ByteArray := prog_10_method_15_code
def yX8_isMoved : MethodName := ⟨RX8, "isMoved", "(I)Z"⟩
abbrev cX8_isFixed : ByteArray := prog_10_method_16_code
def yX8_isFixed : MethodName := ⟨RX8, "isFixed", "(I)Z"⟩
abbrev cX8_up : ByteArray := prog_10_method_17_code
def yX8_up : MethodName := ⟨RX8, "up", "(II)I"⟩
abbrev cX8_numberOf : ByteArray := prog_10_method_18_code
def yX8_numberOf : MethodName := ⟨RX8, "numberOf", "(II)I"⟩
abbrev cX8_writes : ByteArray := prog_10_method_19_code
def yX8_writes : MethodName := ⟨RX8, "writes", "(II)V"⟩
abbrev cX8_makes : ByteArray := prog_10_method_20_code
def yX8_makes : MethodName := ⟨RX8, "makes", "(IIII)I"⟩
abbrev cX8_isUsable : ByteArray := prog_10_method_21_code
def yX8_isUsable : MethodName := ⟨RX8, "isUsable", "(JJ)Z"⟩
abbrev cX8_meet : ByteArray := prog_10_method_22_code
def yX8_meet : MethodName := ⟨RX8, "meet", "(JJJJ)Z"⟩
abbrev cX8_isTaken : ByteArray := prog_10_method_23_code
def yX8_isTaken : MethodName := ⟨RX8, "isTaken", "(JJI)Z"⟩
abbrev cX8_scratchSize : ByteArray := prog_10_method_24_code
def yX8_scratchSize : MethodName := ⟨RX8, "scratchSize", "()I"⟩
abbrev cX8_isBusy : ByteArray := prog_10_method_25_code
def yX8_isBusy : MethodName := ⟨RX8, "isBusy", "(JJ)Z"⟩
abbrev cX8_whyNot : ByteArray := prog_10_method_26_code
def yX8_whyNot : MethodName := ⟨RX8, "whyNot", "(II)I"⟩
abbrev cX8_isFree : ByteArray := prog_10_method_27_code
def yX8_isFree : MethodName := ⟨RX8, "isFree", "(I)Z"⟩
abbrev cX8_laysGaps : ByteArray := prog_10_method_28_code
def yX8_laysGaps : MethodName := ⟨RX8, "laysGaps", "()V"⟩
abbrev cX8_roomStart : ByteArray := prog_10_method_29_code
def yX8_roomStart : MethodName := ⟨RX8, "roomStart", "(I)I"⟩
abbrev cX8_roomSize : ByteArray := prog_10_method_30_code
def yX8_roomSize : MethodName := ⟨RX8, "roomSize", "(I)I"⟩
abbrev cX8_mostRoom : ByteArray := prog_10_method_31_code
def yX8_mostRoom : MethodName := ⟨RX8, "mostRoom", "()I"⟩
abbrev cX8_fits : ByteArray := prog_10_method_32_code
def yX8_fits : MethodName := ⟨RX8, "fits", "(II)I"⟩
abbrev cX8_scratchFor : ByteArray := prog_10_method_33_code
def yX8_scratchFor : MethodName := ⟨RX8, "scratchFor", "(III)I"⟩
abbrev cX8_whyNotMoved : ByteArray := prog_10_method_34_code
def yX8_whyNotMoved : MethodName := ⟨RX8, "whyNotMoved", "(II)I"⟩
abbrev cX8_far : ByteArray := prog_10_method_35_code
def yX8_far : MethodName := ⟨RX8, "far", "(II)I"⟩
abbrev cX8_stepsOf : ByteArray := prog_10_method_36_code
def yX8_stepsOf : MethodName := ⟨RX8, "stepsOf", "(IIIII)I"⟩
abbrev cX8_stepsBy : ByteArray := prog_10_method_37_code
def yX8_stepsBy : MethodName := ⟨RX8, "stepsBy", "(II)I"⟩
abbrev cX8_chunks : ByteArray := prog_10_method_38_code
def yX8_chunks : MethodName := ⟨RX8, "chunks", "()I"⟩
abbrev cX8_distance : ByteArray := prog_10_method_39_code
def yX8_distance : MethodName := ⟨RX8, "distance", "()I"⟩
abbrev cX8_isAscending : ByteArray := prog_10_method_40_code
def yX8_isAscending : MethodName := ⟨RX8, "isAscending", "()Z"⟩
abbrev cX8_isChunkMoved : ByteArray := prog_10_method_41_code
def yX8_isChunkMoved : MethodName := ⟨RX8, "isChunkMoved", "(I)Z"⟩
abbrev cX8_nextChunk : ByteArray := prog_10_method_42_code
def yX8_nextChunk : MethodName := ⟨RX8, "nextChunk", "()I"⟩
abbrev cX8_firstBlock : ByteArray := prog_10_method_43_code
def yX8_firstBlock : MethodName := ⟨RX8, "firstBlock", "()I"⟩
abbrev cX8_blocksNext : ByteArray := prog_10_method_44_code
def yX8_blocksNext : MethodName := ⟨RX8, "blocksNext", "()I"⟩
abbrev cX8_stepsLeft : ByteArray := prog_10_method_45_code
def yX8_stepsLeft : MethodName := ⟨RX8, "stepsLeft", "()I"⟩
abbrev cX8_stepKind : ByteArray := prog_10_method_46_code
def yX8_stepKind : MethodName := ⟨RX8, "stepKind", "()I"⟩
abbrev cX8_sourceOf : ByteArray := prog_10_method_47_code
def yX8_sourceOf : MethodName := ⟨RX8, "sourceOf", "(I)I"⟩
abbrev cX8_targetOf : ByteArray := prog_10_method_48_code
def yX8_targetOf : MethodName := ⟨RX8, "targetOf", "(I)I"⟩
abbrev cX8_copiesBlocks : ByteArray := prog_10_method_49_code
def yX8_copiesBlocks : MethodName := ⟨RX8, "copiesBlocks", "(I)V"⟩
abbrev cX8_starts : ByteArray := prog_10_method_50_code
def yX8_starts : MethodName := ⟨RX8, "starts", "(II)V"⟩
abbrev cX8_step : ByteArray := prog_10_method_51_code
def yX8_step : MethodName := ⟨RX8, "step", "()V"⟩
abbrev cX8_runs : ByteArray := prog_10_method_52_code
def yX8_runs : MethodName := ⟨RX8, "runs", "(I)I"⟩
abbrev cX8_placeOf : ByteArray := prog_10_method_53_code
def yX8_placeOf : MethodName := ⟨RX8, "placeOf", "(II)I"⟩
abbrev cX8_leftOf : ByteArray := prog_10_method_54_code
def yX8_leftOf : MethodName := ⟨RX8, "leftOf", "(I)I"⟩
abbrev cX8_rightOf : ByteArray := prog_10_method_55_code
def yX8_rightOf : MethodName := ⟨RX8, "rightOf", "(I)I"⟩
abbrev cX8_appendWord : ByteArray := prog_10_method_56_code
def yX8_appendWord : MethodName := ⟨RX8, "appendWord", "(I)V"⟩
abbrev cX8_appendInput : ByteArray := prog_10_method_57_code
def yX8_appendInput : MethodName := ⟨RX8, "appendInput", "(IIIII)I"⟩
abbrev cX8_truncateInput : ByteArray := prog_10_method_58_code
def yX8_truncateInput : MethodName := ⟨RX8, "truncateInput", "(I)Z"⟩
abbrev cX8_byteAt : ByteArray := prog_10_method_59_code
def yX8_byteAt : MethodName := ⟨RX8, "byteAt", "(I)I"⟩
abbrev cX8_advanceToken : ByteArray := prog_10_method_60_code
def yX8_advanceToken : MethodName := ⟨RX8, "advanceToken", "()V"⟩
abbrev cX8_tokenLength : ByteArray := prog_10_method_61_code
def yX8_tokenLength : MethodName := ⟨RX8, "tokenLength", "()I"⟩
abbrev cX8_failsAt : ByteArray := prog_10_method_62_code
def yX8_failsAt : MethodName := ⟨RX8, "failsAt", "(I)Z"⟩
abbrev cX8_isWord : ByteArray := prog_10_method_63_code
def yX8_isWord : MethodName := ⟨RX8, "isWord", "(Ljava/lang/String;)Z"⟩
abbrev cX8_isNumber : ByteArray := prog_10_method_64_code
def yX8_isNumber : MethodName := ⟨RX8, "isNumber", "(II)Z"⟩
abbrev cX8_takes : ByteArray := prog_10_method_65_code
def yX8_takes : MethodName := ⟨RX8, "takes", "(III)Z"⟩
abbrev cX8_readSetting : ByteArray := prog_10_method_66_code
def yX8_readSetting : MethodName := ⟨RX8, "readSetting", "(IIII)Z"⟩
abbrev cX8_readPart : ByteArray := prog_10_method_67_code
def yX8_readPart : MethodName := ⟨RX8, "readPart", "()Z"⟩
abbrev cX8_readLock : ByteArray := prog_10_method_68_code
def yX8_readLock : MethodName := ⟨RX8, "readLock", "()Z"⟩
abbrev cX8_readStatement : ByteArray := prog_10_method_69_code
def yX8_readStatement : MethodName := ⟨RX8, "readStatement", "()Z"⟩
abbrev cX8_passesSemicolon : ByteArray := prog_10_method_70_code
def yX8_passesSemicolon : MethodName := ⟨RX8, "passesSemicolon", "()Z"⟩
abbrev cX8_readText : ByteArray := prog_10_method_71_code
def yX8_readText : MethodName := ⟨RX8, "readText", "()Z"⟩
abbrev cX8_loadDisk : ByteArray := prog_10_method_72_code
def yX8_loadDisk : MethodName := ⟨RX8, "loadDisk", "()I"⟩
abbrev cX8_errorCode : ByteArray := prog_10_method_73_code
def yX8_errorCode : MethodName := ⟨RX8, "errorCode", "()I"⟩
abbrev cX8_errorOffset : ByteArray := prog_10_method_74_code
def yX8_errorOffset : MethodName := ⟨RX8, "errorOffset", "()I"⟩
abbrev cX8_gapSectors : ByteArray := prog_10_method_75_code
def yX8_gapSectors : MethodName := ⟨RX8, "gapSectors", "()I"⟩
abbrev cX8_gapsNow : ByteArray := prog_10_method_76_code
def yX8_gapsNow : MethodName := ⟨RX8, "gapsNow", "()I"⟩
abbrev cX8_count : ByteArray := prog_10_method_77_code
def yX8_count : MethodName := ⟨RX8, "count", "(I)I"⟩
abbrev cX8_noPart : ByteArray := prog_10_method_78_code
def yX8_noPart : MethodName := ⟨RX8, "noPart", "(II)Z"⟩
abbrev cX8_part : ByteArray := prog_10_method_79_code
def yX8_part : MethodName := ⟨RX8, "part", "(II)I"⟩
abbrev cX8_noSector : ByteArray := prog_10_method_80_code
def yX8_noSector : MethodName := ⟨RX8, "noSector", "(I)Z"⟩
abbrev cX8_sector : ByteArray := prog_10_method_81_code
def yX8_sector : MethodName := ⟨RX8, "sector", "(I)I"⟩
abbrev cX8_ownerOf : ByteArray := prog_10_method_82_code
def yX8_ownerOf : MethodName := ⟨RX8, "ownerOf", "(I)I"⟩
abbrev cX8_owner : ByteArray := prog_10_method_83_code
def yX8_owner : MethodName := ⟨RX8, "owner", "(I)I"⟩
abbrev cX8_place : ByteArray := prog_10_method_84_code
def yX8_place : MethodName := ⟨RX8, "place", "(II)I"⟩
abbrev cX8_whole : ByteArray := prog_10_method_85_code
def yX8_whole : MethodName := ⟨RX8, "whole", "(I)Z"⟩
abbrev cX8_isWhole : ByteArray := prog_10_method_86_code
def yX8_isWhole : MethodName := ⟨RX8, "isWhole", "(I)Z"⟩
abbrev cX8_verify : ByteArray := prog_10_method_87_code
def yX8_verify : MethodName := ⟨RX8, "verify", "()I"⟩
abbrev cX8_nextBy : ByteArray := prog_10_method_88_code
def yX8_nextBy : MethodName := ⟨RX8, "nextBy", "(I)I"⟩
abbrev cX8_standsAt : ByteArray := prog_10_method_89_code
def yX8_standsAt : MethodName := ⟨RX8, "standsAt", "(I)I"⟩
abbrev cX8_byStart : ByteArray := prog_10_method_90_code
def yX8_byStart : MethodName := ⟨RX8, "byStart", "(I)I"⟩
abbrev cX8_behind : ByteArray := prog_10_method_91_code
def yX8_behind : MethodName := ⟨RX8, "behind", "(I)I"⟩
abbrev cX8_gap : ByteArray := prog_10_method_92_code
def yX8_gap : MethodName := ⟨RX8, "gap", "(II)I"⟩
abbrev cX8_greatestGap : ByteArray := prog_10_method_93_code
def yX8_greatestGap : MethodName := ⟨RX8, "greatestGap", "()I"⟩
abbrev cX8_largestGap : ByteArray := prog_10_method_94_code
def yX8_largestGap : MethodName := ⟨RX8, "largestGap", "()I"⟩
abbrev cX8_gapAt : ByteArray := prog_10_method_95_code
def yX8_gapAt : MethodName := ⟨RX8, "gapAt", "(I)I"⟩
abbrev cX8_fit : ByteArray := prog_10_method_96_code
def yX8_fit : MethodName := ⟨RX8, "fit", "(II)I"⟩
abbrev cX8_reason : ByteArray := prog_10_method_97_code
def yX8_reason : MethodName := ⟨RX8, "reason", "(II)I"⟩
abbrev cX8_overlapped : ByteArray := prog_10_method_98_code
def yX8_overlapped : MethodName := ⟨RX8, "overlapped", "(II)I"⟩
abbrev cX8_waste : ByteArray := prog_10_method_99_code
def yX8_waste : MethodName := ⟨RX8, "waste", "()I"⟩
abbrev cX8_scatter : ByteArray := prog_10_method_100_code
def yX8_scatter : MethodName := ⟨RX8, "scatter", "()F"⟩
abbrev cX8_sizes : ByteArray := prog_10_method_101_code
def yX8_sizes : MethodName := ⟨RX8, "sizes", "()I"⟩
abbrev cX8_used : ByteArray := prog_10_method_102_code
def yX8_used : MethodName := ⟨RX8, "used", "()D"⟩
abbrev cX8_slackOf : ByteArray := prog_10_method_103_code
def yX8_slackOf : MethodName := ⟨RX8, "slackOf", "(I)I"⟩
abbrev cX8_slack : ByteArray := prog_10_method_104_code
def yX8_slack : MethodName := ⟨RX8, "slack", "()I"⟩
abbrev cX8_ofKind : ByteArray := prog_10_method_105_code
def yX8_ofKind : MethodName := ⟨RX8, "ofKind", "(I)I"⟩
abbrev cX8_isTold : ByteArray := prog_10_method_106_code
def yX8_isTold : MethodName := ⟨RX8, "isTold", "(III)Z"⟩
abbrev cX8_add : ByteArray := prog_10_method_107_code
def yX8_add : MethodName := ⟨RX8, "add", "(IIII)I"⟩
abbrev cX8_addBy : ByteArray := prog_10_method_108_code
def yX8_addBy : MethodName := ⟨RX8, "addBy", "(IIII)I"⟩
abbrev cX8_remove : ByteArray := prog_10_method_109_code
def yX8_remove : MethodName := ⟨RX8, "remove", "(I)I"⟩
abbrev cX8_lock : ByteArray := prog_10_method_110_code
def yX8_lock : MethodName := ⟨RX8, "lock", "(IZ)Z"⟩
abbrev cX8_whyNotSized : ByteArray := prog_10_method_111_code
def yX8_whyNotSized : MethodName := ⟨RX8, "whyNotSized", "(II)I"⟩
abbrev cX8_whyNotResized : ByteArray := prog_10_method_112_code
def yX8_whyNotResized : MethodName := ⟨RX8, "whyNotResized", "(II)I"⟩
abbrev cX8_resizeReason : ByteArray := prog_10_method_113_code
def yX8_resizeReason : MethodName := ⟨RX8, "resizeReason", "(II)I"⟩
abbrev cX8_resizes : ByteArray := prog_10_method_114_code
def yX8_resizes : MethodName := ⟨RX8, "resizes", "(II)V"⟩
abbrev cX8_resize : ByteArray := prog_10_method_115_code
def yX8_resize : MethodName := ⟨RX8, "resize", "(II)I"⟩
abbrev cX8_roundUp : ByteArray := prog_10_method_116_code
def yX8_roundUp : MethodName := ⟨RX8, "roundUp", "(I)I"⟩
abbrev cX8_setMinimum : ByteArray := prog_10_method_117_code
def yX8_setMinimum : MethodName := ⟨RX8, "setMinimum", "(II)I"⟩
abbrev cX8_growsTo : ByteArray := prog_10_method_118_code
def yX8_growsTo : MethodName := ⟨RX8, "growsTo", "(I)I"⟩
abbrev cX8_split : ByteArray := prog_10_method_119_code
def yX8_split : MethodName := ⟨RX8, "split", "(II)I"⟩
abbrev cX8_neighbour : ByteArray := prog_10_method_120_code
def yX8_neighbour : MethodName := ⟨RX8, "neighbour", "(I)I"⟩
abbrev cX8_canJoin : ByteArray := prog_10_method_121_code
def yX8_canJoin : MethodName := ⟨RX8, "canJoin", "(I)Z"⟩
abbrev cX8_join : ByteArray := prog_10_method_122_code
def yX8_join : MethodName := ⟨RX8, "join", "(I)I"⟩
abbrev cX8_shrinkAll : ByteArray := prog_10_method_123_code
def yX8_shrinkAll : MethodName := ⟨RX8, "shrinkAll", "()I"⟩
abbrev cX8_wipe : ByteArray := prog_10_method_124_code
def yX8_wipe : MethodName := ⟨RX8, "wipe", "()I"⟩
abbrev cX8_set : ByteArray := prog_10_method_125_code
def yX8_set : MethodName := ⟨RX8, "set", "(II)I"⟩
abbrev cX8_moveReason : ByteArray := prog_10_method_126_code
def yX8_moveReason : MethodName := ⟨RX8, "moveReason", "(II)I"⟩
abbrev cX8_stepsFor : ByteArray := prog_10_method_127_code
def yX8_stepsFor : MethodName := ⟨RX8, "stepsFor", "(II)I"⟩
abbrev cX8_begin : ByteArray := prog_10_method_128_code
def yX8_begin : MethodName := ⟨RX8, "begin", "(II)I"⟩
abbrev cX8_run : ByteArray := prog_10_method_129_code
def yX8_run : MethodName := ⟨RX8, "run", "(I)I"⟩
abbrev cX8_tear : ByteArray := prog_10_method_130_code
def yX8_tear : MethodName := ⟨RX8, "tear", "()I"⟩
abbrev cX8_turnBack : ByteArray := prog_10_method_131_code
def yX8_turnBack : MethodName := ⟨RX8, "turnBack", "()I"⟩
abbrev cX8_move : ByteArray := prog_10_method_132_code
def yX8_move : MethodName := ⟨RX8, "move", "(I)I"⟩
abbrev cX8_blocksAt : ByteArray := prog_10_method_133_code
def yX8_blocksAt : MethodName := ⟨RX8, "blocksAt", "(I)I"⟩
abbrev cX8_nextStep : ByteArray := prog_10_method_134_code
def yX8_nextStep : MethodName := ⟨RX8, "nextStep", "(I)I"⟩
abbrev cX8_stepSector : ByteArray := prog_10_method_135_code
def yX8_stepSector : MethodName := ⟨RX8, "stepSector", "(IZ)I"⟩
abbrev cX8_copies_ : ByteArray := prog_10_method_136_code
def yX8_copies_ : MethodName := ⟨RX8, "copies", "(I)I"⟩
abbrev cX8_leftmost : ByteArray := prog_10_method_137_code
def yX8_leftmost : MethodName := ⟨RX8, "leftmost", "(I)I"⟩
abbrev cX8_rightmost : ByteArray := prog_10_method_138_code
def yX8_rightmost : MethodName := ⟨RX8, "rightmost", "(I)I"⟩
abbrev cX8_compacts : ByteArray := prog_10_method_139_code
def yX8_compacts : MethodName := ⟨RX8, "compacts", "()I"⟩
abbrev cX8_compact : ByteArray := prog_10_method_140_code
def yX8_compact : MethodName := ⟨RX8, "compact", "()I"⟩
abbrev cX8_compactSteps : ByteArray := prog_10_method_141_code
def yX8_compactSteps : MethodName := ⟨RX8, "compactSteps", "()I"⟩
abbrev cX8_cheapestMove : ByteArray := prog_10_method_142_code
def yX8_cheapestMove : MethodName := ⟨RX8, "cheapestMove", "(I)I"⟩
abbrev cX8_brings : ByteArray := prog_10_method_143_code
def yX8_brings : MethodName := ⟨RX8, "brings", "(III)Z"⟩
abbrev cX8_bestChunk : ByteArray := prog_10_method_144_code
def yX8_bestChunk : MethodName := ⟨RX8, "bestChunk", "(II)I"⟩
abbrev cX8_write : ByteArray := prog_10_method_145_code
def yX8_write : MethodName := ⟨RX8, "write", "(I)V"⟩
abbrev cX8_writeNumber : ByteArray := prog_10_method_146_code
def yX8_writeNumber : MethodName := ⟨RX8, "writeNumber", "(I)V"⟩
abbrev cX8_printDisk : ByteArray := prog_10_method_147_code
def yX8_printDisk : MethodName := ⟨RX8, "printDisk", "()I"⟩
abbrev cX8_writePart : ByteArray := prog_10_method_148_code
def yX8_writePart : MethodName := ⟨RX8, "writePart", "(I)V"⟩
abbrev cX8_outputByte : ByteArray := prog_10_method_149_code
def yX8_outputByte : MethodName := ⟨RX8, "outputByte", "(I)I"⟩
abbrev cX8_undo : ByteArray := prog_10_method_150_code
def yX8_undo : MethodName := ⟨RX8, "undo", "()I"⟩
abbrev cX8_saveState : ByteArray := prog_10_method_151_code
def yX8_saveState : MethodName := ⟨RX8, "saveState", "()I"⟩
abbrev cX8_restoreState : ByteArray := prog_10_method_152_code
def yX8_restoreState : MethodName := ⟨RX8, "restoreState", "()I"⟩
def RL : String := "PartitionBenchLaw"
abbrev cL_count : ByteArray := method_3_code
def yL_count : MethodName := ⟨RL, "count", "(LPartitionBench;I[J)I"⟩
abbrev cL_part : ByteArray := method_4_code
def yL_part : MethodName := ⟨RL, "part", "(LPartitionBench;II[J)I"⟩
abbrev cL_sector : ByteArray := method_5_code
def yL_sector : MethodName := ⟨RL, "sector", "(LPartitionBench;I[J)I"⟩
abbrev cL_owner : ByteArray := method_6_code
def yL_owner : MethodName := ⟨RL, "owner", "(LPartitionBench;I[J)I"⟩
abbrev cL_place : ByteArray := method_7_code
def yL_place : MethodName := ⟨RL, "place", "(LPartitionBench;II[J)I"⟩
abbrev cL_isWhole : ByteArray := method_8_code
def yL_isWhole : MethodName := ⟨RL, "isWhole", "(LPartitionBench;I[J)I"⟩
abbrev cL_byStart : ByteArray := method_9_code
def yL_byStart : MethodName := ⟨RL, "byStart", "(LPartitionBench;I[J)I"⟩
abbrev cL_gap : ByteArray := method_10_code
def yL_gap : MethodName := ⟨RL, "gap", "(LPartitionBench;II[J)I"⟩
abbrev cL_fit : ByteArray := method_11_code
def yL_fit : MethodName := ⟨RL, "fit", "(LPartitionBench;II[J)I"⟩
abbrev cL_add : ByteArray := method_12_code
def yL_add : MethodName := ⟨RL, "add", "(LPartitionBench;IIII[J)I"⟩
abbrev cL_addBy : ByteArray := method_13_code
def yL_addBy : MethodName := ⟨RL, "addBy", "(LPartitionBench;IIII[J)I"⟩
abbrev cL_remove : ByteArray := method_14_code
def yL_remove : MethodName := ⟨RL, "remove", "(LPartitionBench;I[J)I"⟩
abbrev cL_lock : ByteArray := method_15_code
def yL_lock : MethodName := ⟨RL, "lock", "(LPartitionBench;IZ[J)I"⟩
abbrev cL_resizeReason : ByteArray := method_16_code
def yL_resizeReason : MethodName := ⟨RL, "resizeReason", "(LPartitionBench;II[J)I"⟩
abbrev cL_resize : ByteArray := method_17_code
def yL_resize : MethodName := ⟨RL, "resize", "(LPartitionBench;II[J)I"⟩
abbrev cL_setMinimum : ByteArray := method_18_code
def yL_setMinimum : MethodName := ⟨RL, "setMinimum", "(LPartitionBench;II[J)I"⟩
abbrev cL_growsTo : ByteArray := method_19_code
def yL_growsTo : MethodName := ⟨RL, "growsTo", "(LPartitionBench;I[J)I"⟩
abbrev cL_set : ByteArray := method_20_code
def yL_set : MethodName := ⟨RL, "set", "(LPartitionBench;II[J)I"⟩
abbrev cL_moveReason : ByteArray := method_21_code
def yL_moveReason : MethodName := ⟨RL, "moveReason", "(LPartitionBench;II[J)I"⟩
abbrev cL_stepsFor : ByteArray := method_22_code
def yL_stepsFor : MethodName := ⟨RL, "stepsFor", "(LPartitionBench;II[J)I"⟩
abbrev cL_begin : ByteArray := method_23_code
def yL_begin : MethodName := ⟨RL, "begin", "(LPartitionBench;II[J)I"⟩
abbrev cL_run : ByteArray := method_24_code
def yL_run : MethodName := ⟨RL, "run", "(LPartitionBench;I[J)I"⟩
abbrev cL_tear : ByteArray := method_25_code
def yL_tear : MethodName := ⟨RL, "tear", "(LPartitionBench;[J)I"⟩
abbrev cL_turnBack : ByteArray := method_26_code
def yL_turnBack : MethodName := ⟨RL, "turnBack", "(LPartitionBench;[J)I"⟩
abbrev cL_move : ByteArray := method_27_code
def yL_move : MethodName := ⟨RL, "move", "(LPartitionBench;I[J)I"⟩
abbrev cL_leftmost : ByteArray := method_28_code
def yL_leftmost : MethodName := ⟨RL, "leftmost", "(LPartitionBench;I[J)I"⟩
abbrev cL_compact : ByteArray := method_29_code
def yL_compact : MethodName := ⟨RL, "compact", "(LPartitionBench;[J)I"⟩
abbrev cL_cheapestMove : ByteArray := method_30_code
def yL_cheapestMove : MethodName := ⟨RL, "cheapestMove", "(LPartitionBench;I[J)I"⟩
abbrev cL_ofKind : ByteArray := method_31_code
def yL_ofKind : MethodName := ⟨RL, "ofKind", "(LPartitionBench;I[J)I"⟩
abbrev cL_blocksAt : ByteArray := method_32_code
def yL_blocksAt : MethodName := ⟨RL, "blocksAt", "(LPartitionBench;I[J)I"⟩
abbrev cL_copies : ByteArray := method_33_code
def yL_copies : MethodName := ⟨RL, "copies", "(LPartitionBench;I[J)I"⟩
abbrev cL_split : ByteArray := method_34_code
def yL_split : MethodName := ⟨RL, "split", "(LPartitionBench;II[J)I"⟩
abbrev cL_join : ByteArray := method_35_code
def yL_join : MethodName := ⟨RL, "join", "(LPartitionBench;I[J)I"⟩
abbrev cL_roundUp : ByteArray := method_36_code
def yL_roundUp : MethodName := ⟨RL, "roundUp", "(LPartitionBench;I[J)I"⟩
abbrev cL_bestChunk : ByteArray := method_37_code
def yL_bestChunk : MethodName := ⟨RL, "bestChunk", "(LPartitionBench;II[J)I"⟩
abbrev cL_rightmost : ByteArray := method_38_code
def yL_rightmost : MethodName := ⟨RL, "rightmost", "(LPartitionBench;I[J)I"⟩
abbrev cL_behind : ByteArray := method_39_code
def yL_behind : MethodName := ⟨RL, "behind", "(LPartitionBench;I[J)I"⟩
abbrev cL_gapAt : ByteArray := method_40_code
def yL_gapAt : MethodName := ⟨RL, "gapAt", "(LPartitionBench;I[J)I"⟩
abbrev cL_nextStep : ByteArray := method_41_code
def yL_nextStep : MethodName := ⟨RL, "nextStep", "(LPartitionBench;I[J)I"⟩
abbrev cL_restoreState : ByteArray := method_42_code
def yL_restoreState : MethodName := ⟨RL, "restoreState", "(LPartitionBench;[J)I"⟩
abbrev cL_law : ByteArray := code
def yL_law : MethodName := ⟨RL, "law", "([I)Z"⟩
def TX0 : u_T := fun k => match k with
  | 0 => ("PartitionBench$Disk", "sectors", "[I", true)
  | 1 => ("PartitionBench$Disk", "parts", "[LPartitionBench$Part;", true)
  | 2 => ("PartitionBench$Disk", "move", "LPartitionBench$Move;", true)
  | 3 => ("PartitionBench$Disk", "order", "[I", true)
  | 4 => ("PartitionBench$Disk", "length", "I", false)
  | 5 => ("PartitionBench$Disk", "head", "I", false)
  | 6 => ("PartitionBench$Disk", "tail", "I", false)
  | 7 => ("PartitionBench$Disk", "align", "I", false)
  | 8 => ("PartitionBench$Disk", "chunk", "I", false)
  | 9 => ("PartitionBench$Disk", "made", "I", false)
  | 10 => ("PartitionBench$Disk", "stepsDone", "I", false)
  | 11 => ("PartitionBench$Disk", "stepsTorn", "I", false)
  | _ => ("PartitionBench$Disk", "movesEnded", "I", false)
def TX1 : u_T := fun k => match k with
  | 0 => ("PartitionBench$Gaps", "starts", "[I", true)
  | 1 => ("PartitionBench$Gaps", "sizes", "[I", true)
  | 2 => ("PartitionBench$Gaps", "found", "I", false)
  | _ => ("PartitionBench$Gaps", "align", "I", false)
def TX2 : u_T := fun k => match k with
  | 0 => ("PartitionBench$History", "past", "[LPartitionBench$Disk;", true)
  | 1 => ("PartitionBench$History", "newest", "I", false)
  | _ => ("PartitionBench$History", "kept", "I", false)
def TX3 : u_T := fun k => match k with
  | 0 => ("PartitionBench$Move", "part", "I", false)
  | 1 => ("PartitionBench$Move", "size", "I", false)
  | 2 => ("PartitionBench$Move", "from", "I", false)
  | 3 => ("PartitionBench$Move", "to", "I", false)
  | 4 => ("PartitionBench$Move", "chunk", "I", false)
  | 5 => ("PartitionBench$Move", "chunks", "I", false)
  | 6 => ("PartitionBench$Move", "scratch", "I", false)
  | 7 => ("PartitionBench$Move", "moved", "I", false)
  | _ => ("PartitionBench$Move", "parked", "Z", false)
def TX4 : u_T := fun k => match k with
  | 0 => ("PartitionBench$Output", "signs", "[I", true)
  | _ => ("PartitionBench$Output", "length", "I", false)
def TX5 : u_T := fun k => match k with
  | 0 => ("PartitionBench$Part", "number", "I", true)
  | 1 => ("PartitionBench$Part", "start", "I", false)
  | 2 => ("PartitionBench$Part", "size", "I", false)
  | 3 => ("PartitionBench$Part", "minimum", "I", false)
  | 4 => ("PartitionBench$Part", "kind", "I", false)
  | 5 => ("PartitionBench$Part", "locked", "Z", false)
  | 6 => ("PartitionBench$Part", "serial", "I", false)
  | _ => ("PartitionBench$Part", "ended", "I", false)
def TX6 : u_T := fun k => match k with
  | 0 => ("PartitionBench$Setup", "bytes", "[I", true)
  | 1 => ("PartitionBench$Setup", "length", "I", false)
  | 2 => ("PartitionBench$Setup", "error", "I", false)
  | 3 => ("PartitionBench$Setup", "errorAt", "I", false)
  | 4 => ("PartitionBench$Setup", "position", "I", false)
  | 5 => ("PartitionBench$Setup", "token", "I", false)
  | 6 => ("PartitionBench$Setup", "tokenStart", "I", false)
  | 7 => ("PartitionBench$Setup", "value", "I", false)
  | 8 => ("PartitionBench$Setup", "headTold", "Z", false)
  | 9 => ("PartitionBench$Setup", "tailTold", "Z", false)
  | 10 => ("PartitionBench$Setup", "alignTold", "Z", false)
  | _ => ("PartitionBench$Setup", "chunkTold", "Z", false)
def TX7 : u_T := fun k => match k with
  | 0 => ("PartitionBench", "disk", "LPartitionBench$Disk;", true)
  | 1 => ("PartitionBench", "ahead", "LPartitionBench$Disk;", true)
  | 2 => ("PartitionBench", "saved", "LPartitionBench$Disk;", true)
  | 3 => ("PartitionBench", "isSaved", "Z", false)
  | 4 => ("PartitionBench", "history", "LPartitionBench$History;", true)
  | 5 => ("PartitionBench", "gaps", "LPartitionBench$Gaps;", true)
  | 6 => ("PartitionBench", "setup", "LPartitionBench$Setup;", true)
  | _ => ("PartitionBench", "output", "LPartitionBench$Output;", true)
def TX8 : u_T := fun k => match k with
  | 0 => ("PartitionBenchModel", "w", "[I", true)
  | 1 => ("PartitionBenchModel", "wKept", "[I", true)
  | 2 => ("PartitionBenchModel", "aside", "[I", true)
  | 3 => ("PartitionBenchModel", "savedRow", "[I", true)
  | 4 => ("PartitionBenchModel", "past", "[I", true)
  | 5 => ("PartitionBenchModel", "pastMany", "I", false)
  | 6 => ("PartitionBenchModel", "isSaved", "Z", false)
  | 7 => ("PartitionBenchModel", "thrown", "I", false)
  | 8 => ("PartitionBenchModel", "gapStart", "[I", true)
  | 9 => ("PartitionBenchModel", "gapSize", "[I", true)
  | 10 => ("PartitionBenchModel", "gapMany", "I", false)
  | 11 => ("PartitionBenchModel", "input", "[I", true)
  | 12 => ("PartitionBenchModel", "inputMany", "I", false)
  | 13 => ("PartitionBenchModel", "lastError", "I", false)
  | 14 => ("PartitionBenchModel", "lastOffset", "I", false)
  | 15 => ("PartitionBenchModel", "error", "I", false)
  | 16 => ("PartitionBenchModel", "offset", "I", false)
  | 17 => ("PartitionBenchModel", "nextByte", "I", false)
  | 18 => ("PartitionBenchModel", "begin", "I", false)
  | 19 => ("PartitionBenchModel", "value", "I", false)
  | 20 => ("PartitionBenchModel", "token", "I", false)
  | 21 => ("PartitionBenchModel", "had", "I", false)
  | 22 => ("PartitionBenchModel", "read", "[I", true)
  | 23 => ("PartitionBenchModel", "line", "[I", true)
  | 24 => ("PartitionBenchModel", "output", "[I", true)
  | _ => ("PartitionBenchModel", "outputMany", "I", false)
end
