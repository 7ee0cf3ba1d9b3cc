/-! RI: the whole run is sound; a contract for each call that runs through -/
section RIZ
section RIZ1
variable {p : Program} {l : Launch} {e : Env} {R : Room} {s : State} {m : MethodId} {args : Array Value} {below : List Frame} {meth : Method} {c : Code}
variable {ALL : List Jvm.Cond} {STR : List (String × Nat × String)} {G : ri_Tb} {M : ri_Mt} {D : va_G} {tyc : Nat → ClassId} {A : Nat → Prop}
variable {ρ : Nat → Int32} {sa : String → Nat → Nat} {n0 LC d mcT msT : Nat} {ad0 : Nat → Nat} {LT : List ri_Lf} {lv : List (Nat × Jvm.Term)} {st rest : List Jvm.Term} {mem : ri_Me} {pc idx len : Nat} {cs : List ri_Cd} {rs r1 : ri_Rs} {K : ri_K} {call : ri_Call}
theorem ri_ans_s {ok : Jvm.Term → Option FieldType → Bool} (h : ri_ans M st cs mem ok = some rs) : ∃ t, st = [t] ∧ ok t (ri_rt M) = true ∧ rs = ([(cs, mem, .inl (some t))], 0, 0, []) := by
  unfold ri_ans at h
  split at h
  · next t =>
    split at h
    · next hk => cases h; exact ⟨t, rfl, hk, rfl⟩
    · cases h
  · cases h
theorem ri_ofI {z : Int} (h1 : -2147483648 ≤ z) (h2 : z < 2147483648) : (Int32.ofInt z).toInt = z := by
  rw [Int32.toInt_ofInt]
  have : z.bmod (2 ^ 32) = z := by
    rw [Int.bmod_def]
    split <;> omega
  exact this
theorem ri_lks {x : Int32} {off dflt : Int} : ∀ (ps : List (Int × Int)), (∀ q ∈ ps, -2147483648 ≤ q.1 ∧ q.1 < 2147483648) → ((∃ (j : Nat) (v : Int), ps[j]? = some (v, off) ∧ x = Int32.ofInt v ∧ ∀ (i : Nat), i < j → ∀ (w o : Int), ps[i]? = some (w, o) → ¬ x = Int32.ofInt w) ∨ (off = dflt ∧ ∀ (i : Nat) (w o : Int), ps[i]? = some (w, o) → ¬ x = Int32.ofInt w)) → Op.lookupswitch.offset ps dflt x.toInt = off
  | [], _, h => by
    rcases h with ⟨j, v, h1, -⟩ | ⟨h1, -⟩
    · simp at h1
    · rw [h1]; rfl
  | (a, o) :: l, hr, h => by
    have ha := hr (a, o) List.mem_cons_self
    have hl : ∀ q ∈ l, -2147483648 ≤ q.1 ∧ q.1 < 2147483648 := fun q hq => hr q (List.mem_cons_of_mem _ hq)
    have e : (Int32.ofInt a).toInt = a := ri_ofI ha.1 ha.2
    rcases h with ⟨j, v, h1, h2, h3⟩ | ⟨h1, h3⟩
    · match j, h1, h3 with
      | 0, h1, _ =>
        cases h1
        rw [Op.lookupswitch.offset_cons, if_pos]
        rw [h2, e]
      | j + 1, h1, h3 =>
        rw [lv_osw (h3 0 (Nat.succ_pos _) a o rfl) e]
        exact ri_lks l hl (Or.inl ⟨j, v, by simpa using h1, h2, fun i hi w o2 hw => h3 (i + 1) (Nat.succ_lt_succ hi) w o2 (by simpa using hw)⟩)
    · rw [lv_osw (h3 0 a o rfl) e]
      exact ri_lks l hl (Or.inr ⟨h1, fun i w o2 hw => h3 (i + 1) w o2 (by simpa using hw)⟩)
theorem ri_jump (h : ri_So p l e R s m args below meth c G M D tyc A ρ sa n0 ad0 LT mcT msT pc lv st cs mem rs) : ri_So p l e R s m args below meth c G M D tyc A ρ sa n0 ad0 LT mcT msT pc lv st cs mem rs := h
theorem ri_ctl_W {i : Instr} (hC : ri_Cx l ALL STR sa G M D tyc A p s m args meth c R LC d mcT msT) (hK : ∀ pc lv st cs mem rs, K pc lv st cs mem = some rs → ri_So p l e R s m args below meth c G M D tyc A ρ sa n0 ad0 LT mcT msT pc lv st cs mem rs)
    (hcall : ∀ mi as cs mem rs, call mi as cs mem = some rs → ri_Con l ALL STR G LC d mi as cs mem rs) (hcode : ∀ pc i len, (ri_co M)[pc]? = some (some (i, len)) → decode (ri_by M) pc = .ok (i, len))
    (hd : decode (ri_by M) pc = .ok (i, len)) (h : ri_ctl G call M K pc i len lv st cs mem = some rs) : ri_So p l e R s m args below meth c G M D tyc A ρ sa n0 ad0 LT mcT msT pc lv st cs mem rs := by
  have hC0 := hC
  obtain ⟨⟨⟨hx, hb, hml, hown, hin⟩, hM, hcl, hlk, hts, hKK, hA, hstr⟩, hSt, hwm, hr, hlocks, hex, hl, rfl, hLC, hco, hcs, hhi⟩ := hC
  cases i with
  | goto off =>
    simp only [ri_ctl] at h
    split at h
    · next t ht =>
      split at h
      · next h3 =>
        subst h3
        intro ad ls H locs cells slots h1 h2 h3 h4 h5 h6 h7 h8 h9 h10 h11 h12 h13 h14
        exact lv_goto hx hb hd (ri_tg_s ht) (hK _ _ _ _ _ _ h ad ls H locs cells slots h1 h2 h3 h4 h5 h6 h7 h8 h9 h10 h11 h12 h13 h14)
      · cases h
    · cases h
  | ifCond cnd off =>
    simp only [ri_ctl] at h
    split at h
    · next a r t ht =>
      split at h
      · next hk =>
        obtain ⟨ha, rfl⟩ := hk
        intro ad ls H locs cells slots h1 h2 h3 h4 h5 h6 h7 h8 h9 h10 h11 h12 h13 h14
        have h9' : ∀ z ∈ r, ri_ok mem.length z := fun z hz => h9 z (List.mem_cons_of_mem _ hz)
        refine ri_if_W hx hb hd (ri_tg_s ht) ha (fun hs => ?_) (fun hs => ?_)
        · rcases ri_br_s h10 h with ⟨g1, cs', q1, g2, g3, g4⟩ | ⟨g1, cs', q1, g2, g3, g4⟩
          · exact ri_So_le (hK _ _ _ _ _ _ g2) g4 ad ls H locs cells slots h1 h2 h3 h4 h5 h6 h7 h8 h9' g3 h11 h12 h13 h14
          · exact absurd hs g1
        · rcases ri_br_s h10 h with ⟨g1, cs', q1, g2, g3, g4⟩ | ⟨g1, cs', q1, g2, g3, g4⟩
          · exact absurd g1 hs
          · exact ri_So_le (hK _ _ _ _ _ _ g2) g4 ad ls H locs cells slots h1 h2 h3 h4 h5 h6 h7 h8 h9' g3 h11 h12 h13 h14
      · cases h
    · cases h
  | if_icmp cnd off =>
    simp only [ri_ctl] at h
    split at h
    · next b a r t ht =>
      split at h
      · next hk =>
        obtain ⟨ha, hb2, rfl⟩ := hk
        intro ad ls H locs cells slots h1 h2 h3 h4 h5 h6 h7 h8 h9 h10 h11 h12 h13 h14
        have h9' : ∀ z ∈ r, ri_ok mem.length z := fun z hz => h9 z (List.mem_cons_of_mem _ (List.mem_cons_of_mem _ hz))
        refine ri_ic_W hx hb hd (ri_tg_s ht) ha hb2 (fun hs => ?_) (fun hs => ?_)
        · rcases ri_br_s h10 h with ⟨g1, cs', q1, g2, g3, g4⟩ | ⟨g1, cs', q1, g2, g3, g4⟩
          · exact ri_So_le (hK _ _ _ _ _ _ g2) g4 ad ls H locs cells slots h1 h2 h3 h4 h5 h6 h7 h8 h9' g3 h11 h12 h13 h14
          · exact absurd hs g1
        · rcases ri_br_s h10 h with ⟨g1, cs', q1, g2, g3, g4⟩ | ⟨g1, cs', q1, g2, g3, g4⟩
          · exact absurd g1 hs
          · exact ri_So_le (hK _ _ _ _ _ _ g2) g4 ad ls H locs cells slots h1 h2 h3 h4 h5 h6 h7 h8 h9' g3 h11 h12 h13 h14
      · cases h
    · cases h
  | ifnull off =>
    simp only [ri_ctl] at h
    split at h
    · next a r t ht =>
      split at h
      · next h3 =>
        subst h3
        intro ad ls H locs cells slots h1 h2 h3 h4 h5 h6 h7 h8 h9 h10 h11 h12 h13 h14
        have h9' : ∀ z ∈ r, ri_ok mem.length z := fun z hz => h9 z (List.mem_cons_of_mem _ hz)
        split at h
        · next hk =>
          rw [List.map_cons, ri_N hk]
          exact lv_ifnullN hx hb hd (ri_tg_s ht) (hK _ _ _ _ _ _ h ad ls H locs cells slots h1 h2 h3 h4 h5 h6 h7 h8 h9' h10 h11 h12 h13 h14)
        · split at h
          · next hk =>
            obtain ⟨x, hx9⟩ := ri_R (ρ := ρ) (sa := sa) (ad := ad) hk
            rw [List.map_cons, hx9]
            exact lv_ifnull hx hb hd (hK _ _ _ _ _ _ h ad ls H locs cells slots h1 h2 h3 h4 h5 h6 h7 h8 h9' h10 h11 h12 h13 h14)
          · cases h
      · cases h
    · cases h
  | ifnonnull off =>
    simp only [ri_ctl] at h
    split at h
    · next a r t ht =>
      split at h
      · next h3 =>
        subst h3
        intro ad ls H locs cells slots h1 h2 h3 h4 h5 h6 h7 h8 h9 h10 h11 h12 h13 h14
        have h9' : ∀ z ∈ r, ri_ok mem.length z := fun z hz => h9 z (List.mem_cons_of_mem _ hz)
        split at h
        · next hk =>
          obtain ⟨x, hx9⟩ := ri_R (ρ := ρ) (sa := sa) (ad := ad) hk
          rw [List.map_cons, hx9]
          exact lv_ifnonnull hx hb hd (ri_tg_s ht) (hK _ _ _ _ _ _ h ad ls H locs cells slots h1 h2 h3 h4 h5 h6 h7 h8 h9' h10 h11 h12 h13 h14)
        · split at h
          · next hk =>
            rw [List.map_cons, ri_N hk]
            exact lv_ifnonnullN hx hb hd (hK _ _ _ _ _ _ h ad ls H locs cells slots h1 h2 h3 h4 h5 h6 h7 h8 h9' h10 h11 h12 h13 h14)
          · cases h
      · cases h
    · cases h
  | tableswitch dflt lo hi offs =>
    simp only [ri_ctl] at h
    split at h
    · next x r =>
      split at h
      · next hk =>
        obtain ⟨hk0, hhi, hlo1, hhi1⟩ := hk
        intro ad ls H locs cells slots h1 h2 h3 h4 h5 h6 h7 h8 h9 h10 h11 h12 h13 h14
        have h9' : ∀ z ∈ r, ri_ok mem.length z := fun z hz => h9 z (List.mem_cons_of_mem _ hz)
        obtain ⟨off, t, cs', q1, g1, g2, g3, g4, g5⟩ := ri_chain_s _ _ h10 h
        have hgo := ri_So_le (hK _ _ _ _ _ _ g2) g4 ad ls H locs cells slots h1 h2 h3 h4 h5 h6 h7 h8 h9' g3 h11 h12 h13 h14
        rw [List.map_cons, ri_ivI hk0]
        rcases g5 with ⟨j, v, k1, k2, -⟩ | ⟨k1, k2⟩
        · rw [List.getElem?_mapIdx] at k1
          obtain ⟨o, ho, he⟩ := Option.map_eq_some_iff.mp k1
          cases he
          have hj : j < offs.size := by
            have := (List.getElem?_eq_some_iff.mp ho).1
            simpa using this
          have hv : (ri_iv ρ x).toInt = lo + (j : Int) := by rw [k2]; exact ri_ofI (by omega) (by omega)
          refine lv_tableIn hx hb hd (by omega) (by omega) ?_ (ri_tg_s g1) hgo
          have e9 : ((ri_iv ρ x).toInt - lo).toNat = j := by omega
          rw [e9]
          simpa using ho
        · subst k1
          refine lv_tableOut hx hb hd ?_ (ri_tg_s g1) hgo
          rcases Int.lt_or_le (ri_iv ρ x).toInt lo with z | z
          · exact Or.inl z
          · rcases Int.lt_or_le hi (ri_iv ρ x).toInt with y | y
            · exact Or.inr y
            · exfalso
              have hj : ((ri_iv ρ x).toInt - lo).toNat < offs.toList.length := by
                rw [Array.length_toList]; omega
              refine k2 ((ri_iv ρ x).toInt - lo).toNat _ _ (by rw [List.getElem?_mapIdx, List.getElem?_eq_getElem hj]; rfl) ?_
              have e9 : lo + (((ri_iv ρ x).toInt - lo).toNat : Int) = (ri_iv ρ x).toInt := by omega
              rw [e9]
              exact (Int32.ofInt_toInt _).symm
      · cases h
    · cases h
  | lookupswitch dflt ps =>
    simp only [ri_ctl] at h
    split at h
    · next x r =>
      split at h
      · next hk =>
        obtain ⟨hk0, hsorted, hrange⟩ := hk
        intro ad ls H locs cells slots h1 h2 h3 h4 h5 h6 h7 h8 h9 h10 h11 h12 h13 h14
        have h9' : ∀ z ∈ r, ri_ok mem.length z := fun z hz => h9 z (List.mem_cons_of_mem _ hz)
        obtain ⟨off, t, cs', q1, g1, g2, g3, g4, g5⟩ := ri_chain_s _ _ h10 h
        have hgo := ri_So_le (hK _ _ _ _ _ _ g2) g4 ad ls H locs cells slots h1 h2 h3 h4 h5 h6 h7 h8 h9' g3 h11 h12 h13 h14
        rw [List.map_cons, ri_ivI hk0]
        exact lv_lookup hx hb hd hsorted (ri_lks _ (fun q hq => decide_eq_true_iff.mp (List.all_eq_true.mp hrange q hq)) g5) (ri_tg_s g1) hgo
      · cases h
    · cases h
  | ireturn =>
    simp only [ri_ctl] at h
    split at h
    · next h3 =>
      subst h3
      obtain ⟨t, rfl, hok9, rfl⟩ := ri_ans_s h
      intro ad ls H locs cells slots h1 h2 h3 h4 h5 h6 h7 h8 h9 h10 h11 h12 h13 h14
      have hE := fun t9 (ht9 : t9.heap = H) => ri_end (args := args) (tm := some t) (cs := cs) (t := t9) h1 h2 h4 h5 h6 h7 (fun z hz => by cases hz; exact h9 t List.mem_cons_self) h10 (h11 _ List.mem_cons_self) ht9
      refine vx_ret (W.widen h12 h13 ?_)
      cases hrt : ri_rt M with
      | none => rw [hrt] at hok9; exact absurd hok9 (by simp [ri_okI])
      | some ty =>
        rw [hrt] at hok9
        have hr2 := hr.trans hrt
        cases ty with
        | int =>
          have hk : ri_k t = 0 := by simpa [ri_okI] using hok9
          simp only [List.map_cons, List.map_nil, Option.map_some] at hE ⊢
          rw [ri_I hk] at hE ⊢
          exact W.iret hx hb hr2 (fun t9 ht9 _ => hE t9 ht9) h6.2.2 hd hlocks
        | boolean =>
          obtain ⟨q1, q2⟩ := ri_fit_s (ρ := ρ) (sa := sa) (ad := ad) (ty := .boolean) (t := t) hok9
          have hk : ri_k t = 0 := by
            simp only [ri_okI, ri_fit] at hok9
            split at hok9
            · rfl
            · cases hok9
          simp only [List.map_cons, List.map_nil, Option.map_some] at hE ⊢
          rw [ri_I hk] at hE q1 ⊢
          exact W.zret hx hb hr2 q1 (fun t9 ht9 _ => hE t9 ht9) h6.2.2 hd hlocks
        | _ => exact absurd hok9 (by simp [ri_okI])
    · cases h
  | areturn =>
    simp only [ri_ctl] at h
    split at h
    · next h3 =>
      subst h3
      obtain ⟨t, rfl, hok9, rfl⟩ := ri_ans_s h
      intro ad ls H locs cells slots h1 h2 h3 h4 h5 h6 h7 h8 h9 h10 h11 h12 h13 h14
      have hE := fun t9 (ht9 : t9.heap = H) => ri_end (args := args) (tm := some t) (cs := cs) (t := t9) h1 h2 h4 h5 h6 h7 (fun z hz => by cases hz; exact h9 t List.mem_cons_self) h10 (h11 _ List.mem_cons_self) ht9
      refine vx_ret (W.widen h12 h13 ?_)
      cases hrt : ri_rt M with
      | none => rw [hrt] at hok9; exact absurd hok9 (by simp [ri_okA])
      | some ty =>
        rw [hrt] at hok9
        have hr2 := hr.trans hrt
        have hk : (ri_k t = 2 ∨ ri_k t = 3) ∧ ((∃ n, ty = .object n) ∨ ∃ z, ty = .array z) := by
          cases ty with
          | object n => simp [ri_okA] at hok9; exact ⟨hok9, Or.inl ⟨n, rfl⟩⟩
          | array n => simp [ri_okA] at hok9; exact ⟨hok9, Or.inr ⟨n, rfl⟩⟩
          | _ => exact absurd hok9 (by simp [ri_okA])
        have hv : ri_cv ρ sa ad t = .null ∨ ∃ a, ri_cv ρ sa ad t = .ref a := by
          rcases hk.1 with h0 | h0
          · exact Or.inr (ri_R h0)
          · exact Or.inl (ri_N h0)
        simp only [List.map_cons, List.map_nil, Option.map_some] at hE ⊢
        exact W.aret hx hb hr2 hk.2 hv (fun t9 ht9 _ => hE t9 ht9) h6.2.2 hd hlocks
    · cases h
  | dreturn =>
    simp only [ri_ctl] at h
    split at h
    · next h3 =>
      subst h3
      obtain ⟨t, rfl, hok9, rfl⟩ := ri_ans_s h
      intro ad ls H locs cells slots h1 h2 h3 h4 h5 h6 h7 h8 h9 h10 h11 h12 h13 h14
      have hE := fun t9 (ht9 : t9.heap = H) => ri_end (args := args) (tm := some t) (cs := cs) (t := t9) h1 h2 h4 h5 h6 h7 (fun z hz => by cases hz; exact h9 t List.mem_cons_self) h10 (h11 _ List.mem_cons_self) ht9
      refine vx_ret (W.widen h12 h13 ?_)
      cases hrt : ri_rt M with
      | none => rw [hrt] at hok9; exact absurd hok9 (by simp [ri_okD])
      | some ty =>
        rw [hrt] at hok9
        have hr2 := hr.trans hrt
        cases ty with
        | double =>
          have hk : ri_k t = 4 := by simpa [ri_okD] using hok9
          obtain ⟨b9, hb9⟩ := ri_Dd (ρ := ρ) (sa := sa) (ad := ad) hk
          simp only [List.map_cons, List.map_nil, Option.map_some] at hE ⊢
          rw [hb9] at hE ⊢
          exact W.dret hx hb hr2 (fun t9 ht9 _ => hE t9 ht9) h6.2.2 hd hlocks
        | _ => exact absurd hok9 (by simp [ri_okD])
    · cases h
  | freturn =>
    simp only [ri_ctl] at h
    split at h
    · next h3 =>
      subst h3
      obtain ⟨t, rfl, hok9, rfl⟩ := ri_ans_s h
      intro ad ls H locs cells slots h1 h2 h3 h4 h5 h6 h7 h8 h9 h10 h11 h12 h13 h14
      have hE := fun t9 (ht9 : t9.heap = H) => ri_end (args := args) (tm := some t) (cs := cs) (t := t9) h1 h2 h4 h5 h6 h7 (fun z hz => by cases hz; exact h9 t List.mem_cons_self) h10 (h11 _ List.mem_cons_self) ht9
      refine vx_ret (W.widen h12 h13 ?_)
      cases hrt : ri_rt M with
      | none => rw [hrt] at hok9; exact absurd hok9 (by simp [ri_okF])
      | some ty =>
        rw [hrt] at hok9
        have hr2 := hr.trans hrt
        cases ty with
        | float =>
          have hk : ri_k t = 5 := by simpa [ri_okF] using hok9
          obtain ⟨b9, hb9⟩ := ri_Ff (ρ := ρ) (sa := sa) (ad := ad) hk
          simp only [List.map_cons, List.map_nil, Option.map_some] at hE ⊢
          rw [hb9] at hE ⊢
          exact W.fret hx hb hr2 (fun t9 ht9 _ => hE t9 ht9) h6.2.2 hd hlocks
        | _ => exact absurd hok9 (by simp [ri_okF])
    · cases h
  | return_ =>
    simp only [ri_ctl] at h
    split at h
    · next hrt =>
      split at h
      · next h3 =>
        subst h3
        cases h
        intro ad ls H locs cells slots h1 h2 h3 h4 h5 h6 h7 h8 h9 h10 h11 h12 h13 h14
        have hE := fun t9 (ht9 : t9.heap = H) => ri_end (args := args) (tm := none) (cs := cs) (t := t9) h1 h2 h4 h5 h6 h7 (fun z hz => by cases hz) h10 (h11 _ List.mem_cons_self) ht9
        refine vx_ret (W.widen h12 h13 ?_)
        exact W.vret hx hb (hr.trans hrt) (fun t9 ht9 _ => hE t9 ht9) h6.2.2 hd hlocks
      · cases h
    · cases h
  | new ik =>
    simp only [ri_ctl] at h
    split at h
    · next h3 =>
      subst h3
      exact ri_thr_W hC0 hcode h hd
    · cases h
  | invokevirtual idx =>
    simp only [ri_ctl] at h
    split at h
    · next h3 =>
      subst h3
      exact ri_inv_W 0 hC0 hK hcall (fun _ => hd) (fun q => by cases q) (fun q => by cases q) (by decide) hcode h
    · cases h
  | invokestatic idx =>
    simp only [ri_ctl] at h
    split at h
    · next h3 =>
      subst h3
      exact ri_inv_W 1 hC0 hK hcall (fun q => by cases q) (fun _ => hd) (fun q => by cases q) (by decide) hcode h
    · cases h
  | invokespecial idx =>
    simp only [ri_ctl] at h
    split at h
    · next h3 =>
      subst h3
      exact ri_inv_W 2 hC0 hK hcall (fun q => by cases q) (fun q => by cases q) (fun _ => hd) (by decide) hcode h
    · cases h
  | _ => exact absurd h (by simp [ri_ctl])
theorem ri_heap_W (hsc : ri_hsc G M sa A s) {x : ri_H1} {i : Instr} {ad : Nat → Nat} {ls : Array Slot} {H : Heap} {locs : List Loc} {cells slots : Nat} {Q : State → Prop} (hac : ∀ t : ArrayType, ri_isI (newarray.typeOf t) = true → Jvm.Cond.arrayClass (newarray.typeOf t) ∈ ALL) (hC : ri_Ctx ALL STR sa G M D tyc A p s m args meth c) (h : ri_heap G M cs i st mem = some x) (hd : decode (ri_by M) pc = .ok (i, x.1)) (hP : va_P D (ri_cls G) (ri_w ρ sa (ri_aty G) tyc ad mem) H) (hD : va_D A (ri_w ρ sa (ri_aty G) tyc ad mem)) (hS : va_S A s.heap H locs) (hok : ri_okM mem.length mem) (hst : ∀ t ∈ st, ri_ok mem.length t)
    (hsat : ∀ q ∈ cs, ri_sat ρ q) (hob : ∀ o ∈ x.2.2.2.2.2, ri_obs ρ o) (hls : ls.size = ri_mx M) (hR1 : 1 ≤ R.frames) (hR2 : 100 ≤ R.locals) (hc1 : cells + x.2.2.2.1 ≤ R.cells) (hs1 : slots + x.2.2.2.2.1 ≤ R.slots)
    (kk : ri_KK p l e R s m args below meth c cells slots Q G D tyc A ρ sa ad mem ls pc x) : W p l e R s m args below meth c H locs cells slots Q (F0 m pc ls (st.map (ri_cv ρ sa ad))) := by
  have hlk := hC.2.2.2.1
  have hM := hC.2.1
  cases i with
  | getfield idx => exact ri_getf_W hC h hd hP hD hS hok hst kk
  | putfield idx => exact ri_putf_W hC h hd hP hD hS hok hst kk
  | iaload =>
    simp only [ri_heap] at h
    split at h
    · next x9 hx9 => cases h; exact ri_sld_W hsc hC hx9 hd hP hD hS hok hst kk
    · exact ri_iald_W hC h hd hP hD hS hok hst hsat hob kk
  | iastore => exact ri_iast_W hC h hd hP hD hS hok hst kk
  | laload => exact ri_lald_W hC h hd hP hD hS hok hst kk
  | lastore => exact ri_last_W hC h hd hP hD hS hok hst kk
  | ldc2_w idx => exact ri_ldc2_W hC h hd hP hD hS hok hst kk
  | aaload => exact ri_aald_W hC h hd hP hD hS hok hst kk
  | aastore => exact ri_aast_W hC h hd hP hD hS hok hst kk
  | arraylength =>
    simp only [ri_heap] at h
    split at h
    · next x9 hx9 => cases h; exact ri_slen_W hsc hC hx9 hd hP hD hS hok hst kk
    · exact ri_alen_W hC h hd hP hD hS hok hst kk
  | new idx => exact ri_newo_W hC h hd hP hD hS hok hst hc1 hs1 kk
  | newarray t =>
    have h0 : ri_newr G (ri_typeOf t) 2 st mem = some x := h
    obtain ⟨v, r, a, e1, e2, hi, e3, e4, rfl⟩ := ri_newr_s h0
    exact ri_newa_W hC (hac t hi) h0 hd hP hD hS hok hst hc1 hs1 kk
  | anewarray idx =>
    simp only [ri_heap] at h
    split at h
    · next a b tx hcp =>
      obtain ⟨C, g1, g2, g3⟩ := ri_cp_s hlk hM hcp
      rw [Nat.add_sub_cancel] at g2
      rw [g1] at h
      have h0 : ri_newr G (.object C) 3 st mem = some x := h
      obtain ⟨v, r, a2, e1, e2, hi, e3, e4, rfl⟩ := ri_newr_s h0
      exact ri_newq_W (a := a) (ty := .object C) hC g2 g3 h0 hd hP hD hS hok hst hc1 hs1 kk
    · cases h
  | ldc idx => exact ri_ldc_W hC h hd hP hD hS hok hst kk
  | ldc_w idx => exact ri_ldcw_W hC h hd hP hD hS hok hst kk
  | invokestatic idx =>
    simp only [ri_heap] at h
    split at h
    · next a b tx hcp =>
      exact ri_acpy_W hC (ri_cp_s hlk hM hcp) h hd hP hD hS hok hst hls hR1 hR2 kk
    · cases h
  | _ => exact absurd h (by simp [ri_heap])
theorem ri_bin_ok {n : Nat} {f : Int32 → Int32 → Int32} {t a b : Jvm.Term} (h : ri_ok n t) : ri_ok n (ri_bin f t a b) := by
  unfold ri_bin
  split
  · rw [ri_ci_eq]; trivial
  · exact h
theorem ri_binL_ok {n : Nat} {f : Int64 → Int64 → Int64} {t a b : Jvm.Term} (h : ri_ok n t) : ri_ok n (ri_binL f t a b) := by
  unfold ri_binL
  split
  · rw [ri_cl_eq]; trivial
  · exact h
theorem ri_binC_ok {n : Nat} {t a b : Jvm.Term} (h : ri_ok n t) : ri_ok n (ri_binC t a b) := by
  unfold ri_binC
  split
  · rw [ri_ci_eq]; trivial
  · exact h
theorem ri_un_ok {n : Nat} {f : Int32 → Int32} {t a : Jvm.Term} (h : ri_ok n t) : ri_ok n (ri_un f t a) := by
  unfold ri_un
  split
  · rw [ri_ci_eq]; trivial
  · exact h
theorem ri_unIL_ok {n : Nat} {f : Int32 → Int64} {t a : Jvm.Term} (h : ri_ok n t) : ri_ok n (ri_unIL f t a) := by
  unfold ri_unIL
  split
  · rw [ri_cl_eq]; trivial
  · exact h
theorem ri_unLI_ok {n : Nat} {f : Int64 → Int32} {t a : Jvm.Term} (h : ri_ok n t) : ri_ok n (ri_unLI f t a) := by
  unfold ri_unLI
  split
  · rw [ri_ci_eq]; trivial
  · exact h
theorem ri_ci_ok {n : Nat} {x : Int32} : ri_ok n (ri_ci x) := by rw [ri_ci_eq]; trivial
theorem ri_cl_ok {n : Nat} {x : Int64} : ri_ok n (ri_cl x) := by rw [ri_cl_eq]; trivial
theorem ri_all_cons {n : Nat} {t : Jvm.Term} {st : List Jvm.Term} (h : ri_ok n t) (hs : ∀ z ∈ st, ri_ok n z) : ∀ z ∈ t :: st, ri_ok n z := fun z hz => by
  rcases List.mem_cons.mp hz with rfl | hz
  · exact h
  · exact hs z hz
theorem ri_all_tl {n : Nat} {t : Jvm.Term} {st : List Jvm.Term} (hs : ∀ z ∈ t :: st, ri_ok n z) : ∀ z ∈ st, ri_ok n z := fun z hz => hs z (List.mem_cons_of_mem _ hz)
theorem ri_sto_ok {n i : Nat} {lv : List (Nat × Jvm.Term)} {t : Jvm.Term} (h : ri_ok n t) (hs : ∀ q ∈ lv, ri_ok n q.2) : ∀ q ∈ ri_sto lv i t, ri_ok n q.2 := fun q hq => by
  rcases List.mem_cons.mp hq with rfl | hq
  · exact h
  · exact hs q (List.mem_filter.mp hq).1
theorem ri_sto2_ok {n i : Nat} {lv : List (Nat × Jvm.Term)} {t : Jvm.Term} (h : ri_ok n t) (hs : ∀ q ∈ lv, ri_ok n q.2) : ∀ q ∈ ri_sto2 lv i t, ri_ok n q.2 := fun q hq => by
  rcases List.mem_cons.mp hq with rfl | hq
  · exact h
  · exact hs q (List.mem_filter.mp hq).1
theorem ri_pure_ok {nL : Nat} {i : Instr} {lv lv' : List (Nat × Jvm.Term)} {st st' : List Jvm.Term} {n len : Nat} (h : ri_pure nL i lv st = some (len, lv', st')) (hlv : ∀ q ∈ lv, ri_ok n q.2) (hst : ∀ t ∈ st, ri_ok n t) : (∀ q ∈ lv', ri_ok n q.2) ∧ ∀ t ∈ st', ri_ok n t := by
  have LD : ∀ {k t}, ri_ld lv k = some t → ri_ok n t := fun h => hlv _ (ri_ld_mem h)
  cases i with
  | iconst k => cases h; exact ⟨hlv, ri_all_cons ri_ci_ok hst⟩
  | bipush k => cases h; exact ⟨hlv, ri_all_cons ri_ci_ok hst⟩
  | sipush k => cases h; exact ⟨hlv, ri_all_cons ri_ci_ok hst⟩
  | lconst k => cases h; exact ⟨hlv, ri_all_cons ri_cl_ok hst⟩
  | aconst_null => cases h; exact ⟨hlv, ri_all_cons trivial hst⟩
  | iload k => obtain ⟨t, h1, h2, rfl, rfl, rfl⟩ := ri_pl_s h; exact ⟨hlv, ri_all_cons (LD h1) hst⟩
  | iload_n k => obtain ⟨t, h1, h2, rfl, rfl, rfl⟩ := ri_pl_s h; exact ⟨hlv, ri_all_cons (LD h1) hst⟩
  | lload k => obtain ⟨t, h1, h2, rfl, rfl, rfl⟩ := ri_pl_s h; exact ⟨hlv, ri_all_cons (LD h1) hst⟩
  | lload_n k => obtain ⟨t, h1, h2, rfl, rfl, rfl⟩ := ri_pl_s h; exact ⟨hlv, ri_all_cons (LD h1) hst⟩
  | aload k => obtain ⟨t, h1, h2, rfl, rfl, rfl⟩ := ri_pa_s h; exact ⟨hlv, ri_all_cons (LD h1) hst⟩
  | aload_n k => obtain ⟨t, h1, h2, rfl, rfl, rfl⟩ := ri_pa_s h; exact ⟨hlv, ri_all_cons (LD h1) hst⟩
  | istore k => obtain ⟨t, rfl, h2, h3, rfl, rfl⟩ := ri_ps_s h; exact ⟨ri_sto_ok (hst t List.mem_cons_self) hlv, ri_all_tl hst⟩
  | istore_n k => obtain ⟨t, rfl, h2, h3, rfl, rfl⟩ := ri_ps_s h; exact ⟨ri_sto_ok (hst t List.mem_cons_self) hlv, ri_all_tl hst⟩
  | lstore k => obtain ⟨t, rfl, h2, h3, rfl, rfl⟩ := ri_ps2_s h; exact ⟨ri_sto2_ok (hst t List.mem_cons_self) hlv, ri_all_tl hst⟩
  | lstore_n k => obtain ⟨t, rfl, h2, h3, rfl, rfl⟩ := ri_ps2_s h; exact ⟨ri_sto2_ok (hst t List.mem_cons_self) hlv, ri_all_tl hst⟩
  | astore k => obtain ⟨t, rfl, h2, h3, rfl, rfl⟩ := ri_psa_s h; exact ⟨ri_sto_ok (hst t List.mem_cons_self) hlv, ri_all_tl hst⟩
  | astore_n k => obtain ⟨t, rfl, h2, h3, rfl, rfl⟩ := ri_psa_s h; exact ⟨ri_sto_ok (hst t List.mem_cons_self) hlv, ri_all_tl hst⟩
  | iinc k v => obtain ⟨t, h1, h2, h3, rfl, rfl, rfl⟩ := ri_inc_s h; exact ⟨ri_sto_ok (ri_bin_ok trivial) hlv, hst⟩
  | iadd => obtain ⟨a, b, r, rfl, ha, hb2, rfl, rfl, rfl⟩ := ri_s2_s h; exact ⟨hlv, ri_all_cons (ri_bin_ok trivial) (ri_all_tl (ri_all_tl hst))⟩
  | isub => obtain ⟨a, b, r, rfl, ha, hb2, rfl, rfl, rfl⟩ := ri_s2_s h; exact ⟨hlv, ri_all_cons (ri_bin_ok trivial) (ri_all_tl (ri_all_tl hst))⟩
  | imul => obtain ⟨a, b, r, rfl, ha, hb2, rfl, rfl, rfl⟩ := ri_s2_s h; exact ⟨hlv, ri_all_cons (ri_bin_ok trivial) (ri_all_tl (ri_all_tl hst))⟩
  | idiv => obtain ⟨a, b, r, rfl, ha, hz, rfl, rfl, rfl⟩ := ri_sd_s h; exact ⟨hlv, ri_all_cons (ri_bin_ok trivial) (ri_all_tl (ri_all_tl hst))⟩
  | irem => obtain ⟨a, b, r, rfl, ha, hz, rfl, rfl, rfl⟩ := ri_sd_s h; exact ⟨hlv, ri_all_cons (ri_bin_ok trivial) (ri_all_tl (ri_all_tl hst))⟩
  | iand => obtain ⟨a, b, r, rfl, ha, hb2, rfl, rfl, rfl⟩ := ri_s2_s h; exact ⟨hlv, ri_all_cons (ri_bin_ok trivial) (ri_all_tl (ri_all_tl hst))⟩
  | ior => obtain ⟨a, b, r, rfl, ha, hb2, rfl, rfl, rfl⟩ := ri_s2_s h; exact ⟨hlv, ri_all_cons (ri_bin_ok trivial) (ri_all_tl (ri_all_tl hst))⟩
  | ixor => obtain ⟨a, b, r, rfl, ha, hb2, rfl, rfl, rfl⟩ := ri_s2_s h; exact ⟨hlv, ri_all_cons (ri_bin_ok trivial) (ri_all_tl (ri_all_tl hst))⟩
  | ishl => obtain ⟨a, b, r, rfl, ha, hb2, rfl, rfl, rfl⟩ := ri_s2_s h; exact ⟨hlv, ri_all_cons (ri_bin_ok trivial) (ri_all_tl (ri_all_tl hst))⟩
  | ishr => obtain ⟨a, b, r, rfl, ha, hb2, rfl, rfl, rfl⟩ := ri_s2_s h; exact ⟨hlv, ri_all_cons (ri_bin_ok trivial) (ri_all_tl (ri_all_tl hst))⟩
  | iushr => obtain ⟨a, b, r, rfl, ha, hb2, rfl, rfl, rfl⟩ := ri_s2_s h; exact ⟨hlv, ri_all_cons (ri_bin_ok trivial) (ri_all_tl (ri_all_tl hst))⟩
  | ineg => obtain ⟨a, r, rfl, ha, rfl, rfl, rfl⟩ := ri_s1_s h; exact ⟨hlv, ri_all_cons (ri_un_ok trivial) (ri_all_tl hst)⟩
  | i2l => obtain ⟨a, r, rfl, ha, rfl, rfl, rfl⟩ := ri_s1_s h; exact ⟨hlv, ri_all_cons (ri_unIL_ok trivial) (ri_all_tl hst)⟩
  | l2i => obtain ⟨a, r, rfl, ha, rfl, rfl, rfl⟩ := ri_s1_s h; exact ⟨hlv, ri_all_cons (ri_unLI_ok trivial) (ri_all_tl hst)⟩
  | ladd => obtain ⟨a, b, r, rfl, ha, hb2, rfl, rfl, rfl⟩ := ri_s2_s h; exact ⟨hlv, ri_all_cons (ri_binL_ok trivial) (ri_all_tl (ri_all_tl hst))⟩
  | lsub => obtain ⟨a, b, r, rfl, ha, hb2, rfl, rfl, rfl⟩ := ri_s2_s h; exact ⟨hlv, ri_all_cons (ri_binL_ok trivial) (ri_all_tl (ri_all_tl hst))⟩
  | lcmp => obtain ⟨a, b, r, rfl, ha, hb2, rfl, rfl, rfl⟩ := ri_s2_s h; exact ⟨hlv, ri_all_cons (ri_binC_ok trivial) (ri_all_tl (ri_all_tl hst))⟩
  | i2d => obtain ⟨x, r, rfl, rfl, rfl, rfl⟩ := ri_sI_s h; exact ⟨hlv, ri_all_cons trivial (ri_all_tl hst)⟩
  | i2f => obtain ⟨x, r, rfl, rfl, rfl, rfl⟩ := ri_sI_s h; exact ⟨hlv, ri_all_cons trivial (ri_all_tl hst)⟩
  | ddiv => obtain ⟨x, y, r, rfl, hn, rfl, rfl, rfl⟩ := ri_s2D_s h; exact ⟨hlv, ri_all_cons trivial (ri_all_tl (ri_all_tl hst))⟩
  | fdiv => obtain ⟨x, y, r, rfl, hn, rfl, rfl, rfl⟩ := ri_s2F_s h; exact ⟨hlv, ri_all_cons trivial (ri_all_tl (ri_all_tl hst))⟩
  | fsub => obtain ⟨x, y, r, rfl, hn, rfl, rfl, rfl⟩ := ri_s2F_s h; exact ⟨hlv, ri_all_cons trivial (ri_all_tl (ri_all_tl hst))⟩
  | f2d => obtain ⟨x, r, rfl, hn, rfl, rfl, rfl⟩ := ri_s1F_s h; exact ⟨hlv, ri_all_cons trivial (ri_all_tl hst)⟩
  | fconst k =>
    match k, h with
    | 0, h => cases h; exact ⟨hlv, ri_all_cons trivial hst⟩
    | 1, h => cases h; exact ⟨hlv, ri_all_cons trivial hst⟩
    | 2, h => cases h
  | dconst k =>
    match k, h with
    | 0, h => cases h; exact ⟨hlv, ri_all_cons trivial hst⟩
    | 1, h => cases h
  | dcmp op => obtain ⟨x, y, r, rfl, rfl, rfl, rfl⟩ := ri_sC_s h; exact ⟨hlv, ri_all_cons ri_ci_ok (ri_all_tl (ri_all_tl hst))⟩
  | dload k => obtain ⟨t, h1, h2, rfl, rfl, rfl⟩ := ri_pl_s h; exact ⟨hlv, ri_all_cons (LD h1) hst⟩
  | dload_n k => obtain ⟨t, h1, h2, rfl, rfl, rfl⟩ := ri_pl_s h; exact ⟨hlv, ri_all_cons (LD h1) hst⟩
  | dstore k => obtain ⟨t, rfl, h2, h3, rfl, rfl⟩ := ri_psd_s h; exact ⟨ri_sto2_ok (hst t List.mem_cons_self) hlv, ri_all_tl hst⟩
  | dstore_n k => obtain ⟨t, rfl, h2, h3, rfl, rfl⟩ := ri_psd_s h; exact ⟨ri_sto2_ok (hst t List.mem_cons_self) hlv, ri_all_tl hst⟩
  | dup => obtain ⟨a, r, rfl, ha, rfl, rfl, rfl⟩ := ri_dup_s h; exact ⟨hlv, ri_all_cons (hst a List.mem_cons_self) hst⟩
  | dup_x1 => obtain ⟨a, b, r, rfl, ha, hb2, rfl, rfl, rfl⟩ := ri_dup_x1_s h; exact ⟨hlv, ri_all_cons (hst a List.mem_cons_self) (ri_all_cons (ri_all_tl hst b List.mem_cons_self) (ri_all_cons (hst a List.mem_cons_self) (ri_all_tl (ri_all_tl hst))))⟩
  | dup2 => obtain ⟨a, b, r, rfl, ha, hb2, rfl, rfl, rfl⟩ := ri_dup2_s h; exact ⟨hlv, ri_all_cons (hst a List.mem_cons_self) (ri_all_cons (ri_all_tl hst b List.mem_cons_self) hst)⟩
  | pop => obtain ⟨a, rfl, ha, rfl, rfl⟩ := ri_pop_s h; exact ⟨hlv, ri_all_tl hst⟩
  | _ => exact absurd h (by simp [ri_pure])
theorem ri_foc_W {B : ri_K} {i : Instr} {f : Nat} {a r : List Jvm.Term} {t : Jvm.Term} (ih : ∀ (pc : Nat) (lv : List (Nat × Jvm.Term)) (st : List Jvm.Term) (cs : List ri_Cd) (mem : ri_Me) (rs : ri_Rs), ri_runB G call M B f pc lv st cs mem = some rs → ri_So p l e R s m args below meth c G M D tyc A ρ sa n0 ad0 LT mcT msT pc lv st cs mem rs)
    (hf : ri_foc i st = some (a, t, r)) (hk : ri_k t = 0) (h : ri_vals t (fun y cs' => ri_runB G call M B f pc lv (a ++ y :: r) cs' mem) ((ri_bd cs t).2 - (ri_bd cs t).1 + 1).toNat (ri_bd cs t).1 cs = some rs) : ri_So p l e R s m args below meth c G M D tyc A ρ sa n0 ad0 LT mcT msT pc lv st cs mem rs := by
  have e := ri_foc_s hf
  subst e
  intro ad ls H locs cells slots h1 h2 h3 h4 h5 h6 h7 h8 h9 h10 h11 h12 h13 h14
  obtain ⟨b1, b2⟩ := (ri_bd_s h10 t).1 hk
  obtain ⟨v, cs', r1, k1, k2, k3, k4⟩ := ri_vals_s _ _ cs h10 h b1 (by omega)
  have hgo := ri_So_le (ih _ _ _ _ _ _ k2) k4 ad ls H locs cells slots h1 h2 h3 h4 h5 h6 h7 h8 (fun z hz => by
    rcases List.mem_append.mp hz with hz | hz
    · exact h9 z (List.mem_append_left _ hz)
    · rcases List.mem_cons.mp hz with rfl | hz
      · trivial
      · exact h9 z (List.mem_append_right _ (List.mem_cons_of_mem _ hz))) k3 h11 h12 h13 h14
  rw [List.map_append, List.map_cons, ri_ivI hk, k1]
  rw [List.map_append, List.map_cons] at hgo
  exact hgo
theorem ri_run_W {B : ri_K} (hB : ∀ pc lv st cs mem rs, B pc lv st cs mem = some rs → ri_So p l e R s m args below meth c G M D tyc A ρ sa n0 ad0 LT mcT msT pc lv st cs mem rs) (hsc : ri_hsc G M sa A s) (hac : ∀ t : ArrayType, ri_isI (newarray.typeOf t) = true → Jvm.Cond.arrayClass (newarray.typeOf t) ∈ ALL) (hC : ri_Cx l ALL STR sa G M D tyc A p s m args meth c R LC d mcT msT)
    (hcall : ∀ mi as cs mem rs, call mi as cs mem = some rs → ri_Con l ALL STR G LC d mi as cs mem rs) (hcode : ∀ pc i len, (ri_co M)[pc]? = some (some (i, len)) → decode (ri_by M) pc = .ok (i, len)) :
    ∀ (f pc : Nat) (lv : List (Nat × Jvm.Term)) (st : List Jvm.Term) (cs : List ri_Cd) (mem : ri_Me) (rs : ri_Rs), ri_runB G call M B f pc lv st cs mem = some rs → ri_So p l e R s m args below meth c G M D tyc A ρ sa n0 ad0 LT mcT msT pc lv st cs mem rs := by
  intro f
  induction f with
  | zero => intro pc lv st cs mem rs h; exact hB _ _ _ _ _ _ h
  | succ f ih =>
    intro pc lv st cs mem rs h
    have hC0 := hC
    obtain ⟨⟨⟨hx, hb, hml, hown, hin⟩, hM, hcl, hlk, hts, hKK, hA, hstr⟩, hSt, hwm, hr, hlocks, hex, hl, rfl, hLC, hco, hcs, hhi⟩ := hC
    rw [ri_runB_S] at h
    unfold ri_one at h
    split at h
    · next i len hi =>
      have hd := hcode _ _ _ hi
      split at h
      · next len' lv' st' hp =>
        split at h
        · next hlen =>
          subst hlen
          intro ad ls H locs cells slots h1 h2 h3 h4 h5 h6 h7 h8 h9 h10 h11 h12 h13 h14
          obtain ⟨k1, k2⟩ := ri_pure_ok hp h8 h9
          exact ri_pure_W hx hb hp hd h3 (fun ls' hl' => ih _ _ _ _ _ _ h ad ls' H locs cells slots h1 h2 hl' h4 h5 h6 h7 k1 k2 h10 h11 h12 h13 h14)
        · cases h
      · split at h
        · next x hhp =>
          split at h
          · next hlen =>
            subst hlen
            obtain ⟨r2, g1, g2, g3, g4, g5⟩ := ri_more_s h
            intro ad ls H locs cells slots h1 h2 h3 h4 h5 h6 h7 h8 h9 h10 h11 h12 h13 h14
            rw [g3] at h12
            rw [g4] at h13
            rw [g5] at h14
            refine ri_heap_W hsc hac hC0.1 hhp hd h4 h5 h6 h7 h9 h10 (fun o ho => h14 o (List.mem_append_left _ ho)) h3.1 (by show 1 ≤ d + 1 + 1; omega) (by show 100 ≤ 100 + (d + 1) * LC; omega) (by show _ ≤ mcT; omega) (by show _ ≤ msT; omega) ?_
            intro ad' H' locs' a1 a2 a3 a4 a5 a6 a7
            exact ih _ _ _ _ _ _ g1 ad' ls H' locs' (cells + x.2.2.2.1) (slots + x.2.2.2.2.1) (ri_ag_tr h1 a1 h2) (Nat.le_trans h2 a6) (by rw [ri_lc_ag h8 a1]; exact h3) a2 a3 a4 a5 (fun q hq => ri_ok_mono (h8 q hq) a6) a7 h10 (fun z hz => h11 z (by rw [g2]; exact hz)) (by omega) (by omega) (fun o ho => h14 o (List.mem_append_right _ ho))
          · cases h
        · split at h
          · next a t r hf =>
            split at h
            · next hk => exact ri_foc_W ih hf hk.1 h
            · cases h
          · exact ri_ctl_W hC0 (fun pc lv st cs mem rs hh => ih pc lv st cs mem rs hh) hcall hcode hd h
    · cases h
theorem ri_args_lc {ad : Nat → Nat} : ∀ (as : List Jvm.Term) (i : Nat), ri_lc ρ sa ad (ri_args i as) = lv_args i (as.map (ri_cv ρ sa ad))
  | [], i => rfl
  | t :: ts, i => by
    show (i, ri_cv ρ sa ad t) :: ri_lc ρ sa ad (ri_args (if ri_wide t = true then i + 2 else i + 1) ts) = (i, ri_cv ρ sa ad t) :: lv_args (if (ri_cv ρ sa ad t).category = 2 then i + 2 else i + 1) (ts.map (ri_cv ρ sa ad))
    rw [ri_args_lc ts]
    by_cases h : ri_wide t = true
    · rw [if_pos h, if_pos (ri_cat2.mpr h)]
    · rw [if_neg h, if_neg (fun z => h (ri_cat2.mp z))]
theorem ri_args_ok {n : Nat} : ∀ (as : List Jvm.Term) (i : Nat), (∀ t ∈ as, ri_ok n t) → ∀ q ∈ ri_args i as, ri_ok n q.2
  | [], i, h, q, hq => by cases hq
  | t :: ts, i, h, q, hq => by
    rcases List.mem_cons.mp hq with rfl | hq
    · exact h t List.mem_cons_self
    · exact ri_args_ok ts _ (ri_all_tl h) q hq
theorem ri_args_len {ad : Nat → Nat} : ∀ (as : List Jvm.Term), (lg_sl (as.map (ri_cv ρ sa ad))).length = (as.map (fun t => if ri_wide t = true then 2 else 1)).sum
  | [] => rfl
  | t :: ts => by
    have ih := ri_args_len (ad := ad) ts
    unfold lg_sl at ih ⊢
    rw [List.map_cons, List.flatMap_cons, List.length_append, ih, List.map_cons, List.sum_cons]
    by_cases h : ri_wide t = true
    · rw [if_pos h, if_pos (ri_cat2.mpr h)]; rfl
    · rw [if_neg h, if_neg (fun z => h (ri_cat2.mp z))]; rfl
/-- what a program must show of its tables -/
def ri_TB (ALL : List Jvm.Cond) (STR : List (String × Nat × String)) (G : ri_Tb) (LC : Nat) : Prop := ri_clOK ALL G ∧ ri_lkOK ALL STR G ∧ (∀ w ∈ ALL, ri_warm w = true) ∧ (∀ i ∈ ri_mts G, 19 + ri_mx i ≤ LC) ∧ (∀ M2 ∈ ri_mts G, ri_own M2 = (ri_nm M2).cls ∧ ri_hw M2 ∈ ALL ∧ goodWord (ri_hw M2) = true ∧ Jvm.Cond.initialized (ri_nm M2).cls ∈ ALL ∧ Bundle.fit (ri_nm M2).cls = true) ∧ (∀ t : ArrayType, ri_isI (newarray.typeOf t) = true → Jvm.Cond.arrayClass (newarray.typeOf t) ∈ ALL) ∧ (∀ M ∈ ri_mts G, ∀ pc i len, (ri_co M)[pc]? = some (some (i, len)) → decode (ri_by M) pc = .ok (i, len)) ∧ (∀ q ∈ ri_nc G, q.2.2 = true → Jvm.Cond.castable q.1 q.2.1 ∈ ALL)
/-- EACH CALL THAT RUNS THROUGH HAS ITS CONTRACT -/
theorem ri_call_W {fuel : Nat} (hl : l.stackTraces = false) (hT : ri_TB ALL STR G LC) : ∀ (k mi : Nat) (as : List Jvm.Term) (cs : List ri_Cd) (mem : ri_Me) (rs : ri_Rs), ri_call G fuel k mi as cs mem = some rs → ri_Con l ALL STR G LC k mi as cs mem rs := by
  obtain ⟨hcl, hlk, hwm, hLC, hco, hac, hcode, hcs⟩ := hT
  intro k
  induction k with
  | zero => intro mi as cs mem rs h; rw [ri_call_0] at h; cases h
  | succ k ih =>
    intro mi as cs mem rs h M hM D tyc ρ sa ad sz hsat hok hargs hob
    rw [ri_call_S] at h
    rw [hM] at h
    dsimp only at h
    split at h
    · next hlen =>
      obtain ⟨hlw, hlen, hhi⟩ := hlen
      have hMm := List.mem_of_getElem? hM
      obtain ⟨c0, c1, c2, c3, c4⟩ := hco M hMm
      have body : ∀ (p : Program) (e : Env) (s : State) (m : MethodId) (args : Array Value) (below : List Frame) (meth : Method) (c : Code) (s₁ : State), BodyLoose p l (ri_nm M) (headSpec [ri_hw M] (ri_rm (k + 1) LC rs.2.1 rs.2.2.1)) (ri_by M) (ri_mx M) (ri_rt M) e s m args below meth c s₁ → c.maxLocals = ri_mx M → c.exceptionTable.toList = tableOf (ri_hh M) → ri_Pc ALL STR G D tyc ρ sa ad sz as mem args s →
          W p l e (ri_rm (k + 1) LC rs.2.1 rs.2.2.1) s m args below meth c s.heap [] 0 0 (vx_MQ below (ri_Qc G D tyc (va_A (ri_w ρ sa (ri_aty G) tyc ad mem) sz) ρ sa mem.length ad rs.1) (ri_XC G D tyc (va_A (ri_w ρ sa (ri_aty G) tyc ad mem) sz) ρ sa mem.length ad rs.1) args s rs.2.1 rs.2.2.1 (va_A (ri_w ρ sa (ri_aty G) tyc ad mem) sz)) (entryFrame m args (ri_mx M)) := by
        intro p e s m args below meth c s₁ B hml hex hPc
        obtain ⟨rfl, hsz, hP, hD0, hSt⟩ := hPc
        have hD : va_D (va_A (ri_w ρ sa (ri_aty G) tyc ad mem) sz) (ri_w ρ sa (ri_aty G) tyc ad mem) := hD0.self
        have hown : s.vm.findClass (ri_own M) = some m.cls := by rw [c0]; exact findClass_of_methodNamed B.named
        have hA : ∀ q, s.heap.size ≤ q → va_A (ri_w ρ sa (ri_aty G) tyc ad mem) sz q := fun q h => Or.inr (by rw [← hsz]; exact h)
        have hC : ri_Cx l ALL STR sa G M D tyc (va_A (ri_w ρ sa (ri_aty G) tyc ad mem) sz) p s m (as.map (ri_cv ρ sa ad)).toArray meth c (ri_rm (k + 1) LC rs.2.1 rs.2.2.1) LC k rs.2.1 rs.2.2.1 :=
          ⟨⟨⟨B.exec, B.bytes, hml, hown, fun h => (name_of_methodNamed B.named B.method).1.trans h⟩, hlk M hMm, hcl, hlk, fun w hw => hSt.1 w hw _, hSt.2.1, hA, hSt.2.2.1⟩, hSt, hwm, B.returns, B.notSynchronized, hex, hl, rfl, hLC, hco, hcs, hhi⟩
        have hgo := ri_run_W (ρ := ρ) (below := below) (e := e) (n0 := mem.length) (ad0 := ad) (LT := rs.1) (fun _ _ _ _ _ _ z => by cases z) (fun z => by rw [hlw] at z; cases z) hac hC (fun mi as cs mem rs h => ih mi as cs mem rs h) (hcode M hMm) fuel 0 (ri_args 0 as) [] cs mem rs h
        have hl0 := lv_entry (as.map (ri_cv ρ sa ad)) (n := ri_mx M) (by rw [ri_args_len]; exact hlen)
        rw [lg_entry_eq]
        rw [← ri_args_lc as 0] at hl0
        exact hgo ad _ s.heap [] 0 0 ri_ag_rf (Nat.le_refl _) hl0 hP hD va_S.rf hok (ri_args_ok as 0 hargs) (fun t ht => by cases ht) hsat (fun x hx => hx) (by rw [Nat.zero_add]; exact Nat.le_refl _) (by rw [Nat.zero_add]; exact Nat.le_refl _) hob
      cases hh9 : ri_hh M with
      | nil =>
        refine vx_ofW (cc := ri_by M) (maxL := ri_mx M) (ret := ri_rt M) (ws' := []) (Bundle.fit_spec c4).1 (by rw [ri_hw_nil (M2 := M) (by rw [hh9]; rfl)]) ?_
        intro p e s m args below meth c s₁ B hml hex hPc
        refine body p e s m args below meth c s₁ B hml ?_ hPc
        rw [hh9]
        exact List.eq_nil_iff_forall_not_mem.mpr fun x hx => hex x hx
      | cons h9 t9 =>
        refine vx_ofWH (cc := ri_by M) (maxL := ri_mx M) (ret := ri_rt M) (hh := h9 :: t9) (ws' := []) (Bundle.fit_spec c4).1 (by rw [ri_hw_cons (M2 := M) hh9]) ?_
        intro p e s m args below meth c s₁ B hml hPc
        refine body p e s m args below meth c s₁ B hml ?_ hPc
        have hpre := atoms_spec (ws := [ri_hw M]) B.pre (ri_hw M) List.mem_cons_self
        rw [ri_hw_cons (M2 := M) hh9] at hpre
        rw [hh9]
        exact vx_table (x := ri_nm M) B hpre
    · cases h
end RIZ1
end RIZ
