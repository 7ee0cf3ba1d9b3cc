/-! RI: forks, jumps, answers, exceptions and calls are sound, if what follows is -/
section RIX
/-- what holds of a method that is walked, for its end and its calls too -/
def ri_Cx (l : Launch) (ALL : List Jvm.Cond) (STR : List (String × Nat × String)) (sa : String → Nat → Nat) (G : ri_Tb) (M : ri_Mt) (D : va_G) (tyc : Nat → ClassId) (A : Nat → Prop) (p : Program) (s : State) (m : MethodId) (args : Array Value) (meth : Method) (c : Code) (R : Room) (LC d mcT msT : Nat) : Prop :=
  ri_Ctx ALL STR sa G M D tyc A p s m args meth c ∧ ri_St ALL STR G D tyc sa A s ∧ (∀ w ∈ ALL, ri_warm w = true) ∧ meth.sig.returnType = ri_rt M ∧ meth.locks = false ∧ c.exceptionTable.toList = tableOf (ri_hh M) ∧ l.stackTraces = false ∧ R = ri_rm (d + 1) LC mcT msT ∧ (∀ i ∈ ri_mts G, 19 + ri_mx i ≤ LC) ∧ (∀ M2 ∈ ri_mts G, ri_own M2 = (ri_nm M2).cls ∧ ri_hw M2 ∈ ALL ∧ goodWord (ri_hw M2) = true ∧ Jvm.Cond.initialized (ri_nm M2).cls ∈ ALL ∧ Bundle.fit (ri_nm M2).cls = true) ∧ (∀ q ∈ ri_nc G, q.2.2 = true → Jvm.Cond.castable q.1 q.2.1 ∈ ALL) ∧ (ri_hi M = true → 5 ≤ d)
section RIX1
variable (p : Program) (l : Launch) (e : Env) (R : Room) (s : State) (m : MethodId) (args : Array Value) (below : List Frame) (meth : Method) (c : Code) (G : ri_Tb) (M : ri_Mt) (D : va_G) (tyc : Nat → ClassId) (A : Nat → Prop) (ρ : Nat → Int32) (sa : String → Nat → Nat) (n0 : Nat) (ad0 : Nat → Nat) (LT : List ri_Lf) (mcT msT : Nat)
/-- a place of the walk from which all goes to one of the ends -/
def ri_So (pc : Nat) (lv : List (Nat × Jvm.Term)) (st : List Jvm.Term) (cs : List ri_Cd) (mem : ri_Me) (rs : ri_Rs) : Prop :=
  ∀ (ad : Nat → Nat) (ls : Array Slot) (H : Heap) (locs : List Loc) (cells slots : Nat), ri_ag n0 ad0 ad → n0 ≤ mem.length → lv_has ls (ri_mx M) (ri_lc ρ sa ad lv) → va_P D (ri_cls G) (ri_w ρ sa (ri_aty G) tyc ad mem) H → va_D A (ri_w ρ sa (ri_aty G) tyc ad mem) → va_S A s.heap H locs → ri_okM mem.length mem → (∀ q ∈ lv, ri_ok mem.length q.2) → (∀ t ∈ st, ri_ok mem.length t) → (∀ q ∈ cs, ri_sat ρ q) → (∀ x ∈ rs.1, x ∈ LT) → cells + rs.2.1 ≤ mcT → slots + rs.2.2.1 ≤ msT → (∀ o ∈ rs.2.2.2, ri_obs ρ o) →
    W p l e R s m args below meth c H locs cells slots (vx_MQ below (ri_Qc G D tyc A ρ sa n0 ad0 LT) (ri_XC G D tyc A ρ sa n0 ad0 LT) args s mcT msT A) (F0 m pc ls (st.map (ri_cv ρ sa ad)))
end RIX1
section RIX2
variable {p : Program} {l : Launch} {e : Env} {R : Room} {s : State} {m : MethodId} {args : Array Value} {below : List Frame} {meth : Method} {c : Code}
variable {ALL : List Jvm.Cond} {STR : List (String × Nat × String)} {G : ri_Tb} {M : ri_Mt} {D : va_G} {tyc : Nat → ClassId} {A : Nat → Prop}
variable {ρ : Nat → Int32} {sa : String → Nat → Nat} {n0 LC d mcT msT : Nat} {ad0 : Nat → Nat} {LT : List ri_Lf} {lv : List (Nat × Jvm.Term)} {st : List Jvm.Term} {mem : ri_Me} {pc idx len : Nat} {cs : List ri_Cd} {rs r1 : ri_Rs} {K : ri_K} {call : ri_Call}
theorem ri_So_le (h : ri_So p l e R s m args below meth c G M D tyc A ρ sa n0 ad0 LT mcT msT pc lv st cs mem r1) (hl : ri_le r1 rs) : ri_So p l e R s m args below meth c G M D tyc A ρ sa n0 ad0 LT mcT msT pc lv st cs mem rs :=
  fun ad ls H locs cells slots h1 h2 h3 h4 h5 h6 h7 h8 h9 h10 h11 h12 h13 h14 => h ad ls H locs cells slots h1 h2 h3 h4 h5 h6 h7 h8 h9 h10 (fun x hx => h11 x (hl.1 x hx)) (Nat.le_trans (Nat.add_le_add_left hl.2.1 _) h12) (Nat.le_trans (Nat.add_le_add_left hl.2.2.1 _) h13) (fun o ho => h14 o (hl.2.2.2 o ho))
theorem ri_sat_eq {a b : Jvm.Term} {v : Bool} : ri_sat ρ (0, a, b, v) ↔ (v = true ↔ ri_iv ρ a = ri_iv ρ b) := Iff.rfl
theorem ri_sat_lt {a b : Jvm.Term} {v : Bool} : ri_sat ρ (1, a, b, v) ↔ (v = true ↔ ri_iv ρ a < ri_iv ρ b) := Iff.rfl
theorem ri_i0 : ri_iv ρ (.int 0) = 0 := rfl
/-- a compare with 0 -/
theorem ri_if_W {cnd : ClassFile.Cond} {off : Int} {t : Nat} {a : Jvm.Term} {r : List Jvm.Term} {H : Heap} {locs : List Loc} {cells slots : Nat} {Q : State → Prop} {ls : Array Slot} {ad : Nat → Nat} (hx : p.tables.exec = Jvm.exec) (hb : c.code = ri_by M) (hd : decode (ri_by M) pc = .ok (.ifCond cnd off, 3)) (ht : (pc : Int) + off = (t : Int)) (ha : ri_k a = 0)
    (kt : ri_sat ρ (ri_cnd cnd a (.int 0)) → W p l e R s m args below meth c H locs cells slots Q (F0 m t ls (r.map (ri_cv ρ sa ad)))) (kf : ¬ ri_sat ρ (ri_cnd cnd a (.int 0)) → W p l e R s m args below meth c H locs cells slots Q (F0 m (pc + 3) ls (r.map (ri_cv ρ sa ad)))) :
    W p l e R s m args below meth c H locs cells slots Q (F0 m pc ls ((a :: r).map (ri_cv ρ sa ad))) := by
  rw [List.map_cons, ri_ivI ha]
  cases cnd with
  | eq => exact lv_if_eq hx hb hd ht (fun h => kt (ri_sat_eq.mpr (by rw [ri_i0]; simp [h]))) (fun h => kf (fun q => h (by have := ri_sat_eq.mp q; rw [ri_i0] at this; exact this.mp rfl)))
  | ne => exact lv_if_ne hx hb hd ht (fun h => kt (ri_sat_eq.mpr (by rw [ri_i0]; simp [h]))) (fun h => kf (fun q => by have := ri_sat_eq.mp q; rw [ri_i0] at this; exact absurd (this.mpr h) (by decide)))
  | lt => exact lv_if_lt hx hb hd ht (fun h => kt (ri_sat_lt.mpr (by rw [ri_i0]; simp [h]))) (fun h => kf (fun q => h (by have := ri_sat_lt.mp q; rw [ri_i0] at this; exact this.mp rfl)))
  | ge => exact lv_if_ge hx hb hd ht (fun h => kt (ri_sat_lt.mpr (by rw [ri_i0]; simp [Int32.not_lt.mpr h]))) (fun h => kf (fun q => h (by have := ri_sat_lt.mp q; rw [ri_i0] at this; exact Int32.not_lt.mp (fun z => absurd (this.mpr z) (by decide)))))
  | gt => exact lv_if_gt hx hb hd ht (fun h => kt (ri_sat_lt.mpr (by rw [ri_i0]; simp [h]))) (fun h => kf (fun q => h (by have := ri_sat_lt.mp q; rw [ri_i0] at this; exact this.mp rfl)))
  | le => exact lv_if_le hx hb hd ht (fun h => kt (ri_sat_lt.mpr (by rw [ri_i0]; simp [Int32.not_lt.mpr h]))) (fun h => kf (fun q => h (by have := ri_sat_lt.mp q; rw [ri_i0] at this; exact Int32.not_lt.mp (fun z => absurd (this.mpr z) (by decide)))))
theorem ri_ic_W {cnd : ClassFile.Cond} {off : Int} {t : Nat} {a b : Jvm.Term} {r : List Jvm.Term} {H : Heap} {locs : List Loc} {cells slots : Nat} {Q : State → Prop} {ls : Array Slot} {ad : Nat → Nat} (hx : p.tables.exec = Jvm.exec) (hb : c.code = ri_by M) (hd : decode (ri_by M) pc = .ok (.if_icmp cnd off, 3)) (ht : (pc : Int) + off = (t : Int)) (ha : ri_k a = 0) (hb2 : ri_k b = 0)
    (kt : ri_sat ρ (ri_cnd cnd a b) → W p l e R s m args below meth c H locs cells slots Q (F0 m t ls (r.map (ri_cv ρ sa ad)))) (kf : ¬ ri_sat ρ (ri_cnd cnd a b) → W p l e R s m args below meth c H locs cells slots Q (F0 m (pc + 3) ls (r.map (ri_cv ρ sa ad)))) :
    W p l e R s m args below meth c H locs cells slots Q (F0 m pc ls ((b :: a :: r).map (ri_cv ρ sa ad))) := by
  rw [List.map_cons, List.map_cons, ri_ivI ha, ri_ivI hb2]
  cases cnd with
  | eq => exact lv_icmp_eq hx hb hd ht (fun h => kt (ri_sat_eq.mpr (by simp [h]))) (fun h => kf (fun q => h ((ri_sat_eq.mp q).mp rfl)))
  | ne => exact lv_icmp_ne hx hb hd ht (fun h => kt (ri_sat_eq.mpr (by simp [h]))) (fun h => kf (fun q => absurd ((ri_sat_eq.mp q).mpr h) (by decide)))
  | lt => exact lv_icmp_lt hx hb hd ht (fun h => kt (ri_sat_lt.mpr (by simp [h]))) (fun h => kf (fun q => h ((ri_sat_lt.mp q).mp rfl)))
  | ge => exact lv_icmp_ge hx hb hd ht (fun h => kt (ri_sat_lt.mpr (by simp [Int32.not_lt.mpr h]))) (fun h => kf (fun q => h (Int32.not_lt.mp (fun z => absurd ((ri_sat_lt.mp q).mpr z) (by decide)))))
  | gt => exact lv_icmp_gt hx hb hd ht (fun h => kt (ri_sat_lt.mpr (by simp [h]))) (fun h => kf (fun q => h ((ri_sat_lt.mp q).mp rfl)))
  | le => exact lv_icmp_le hx hb hd ht (fun h => kt (ri_sat_lt.mpr (by simp [Int32.not_lt.mpr h]))) (fun h => kf (fun q => h (Int32.not_lt.mp (fun z => absurd ((ri_sat_lt.mp q).mpr z) (by decide)))))
/-- a switch -/
theorem ri_chain_s {x : Jvm.Term} {T : Nat → List ri_Cd → Option ri_Rs} {dflt : Int} : ∀ (ps : List (Int × Int)) (cs : List ri_Cd) {rs : ri_Rs}, (∀ q ∈ cs, ri_sat ρ q) → ri_chain x pc T dflt ps cs = some rs →
    ∃ (off : Int) (t : Nat) (cs' : List ri_Cd) (r1 : ri_Rs), ri_tg pc off = some t ∧ T t cs' = some r1 ∧ (∀ q ∈ cs', ri_sat ρ q) ∧ ri_le r1 rs ∧ ((∃ (j : Nat) (v : Int), ps[j]? = some (v, off) ∧ ri_iv ρ x = Int32.ofInt v ∧ ∀ (i : Nat), i < j → ∀ (w o : Int), ps[i]? = some (w, o) → ¬ ri_iv ρ x = Int32.ofInt w) ∨ (off = dflt ∧ ∀ (i : Nat) (w o : Int), ps[i]? = some (w, o) → ¬ ri_iv ρ x = Int32.ofInt w))
  | [], cs, rs, hsat, h => by
    unfold ri_chain at h
    split at h
    · next t ht => exact ⟨dflt, t, cs, rs, ht, h, hsat, ⟨fun _ h => h, Nat.le_refl _, Nat.le_refl _, fun _ h => h⟩, Or.inr ⟨rfl, fun i w o hi => by simp at hi⟩⟩
    · cases h
  | (v, off) :: l, cs, rs, hsat, h => by
    unfold ri_chain at h
    have e1 : ri_iv ρ (ri_ci (Int32.ofInt v)) = Int32.ofInt v := by rw [ri_ci_eq]; rfl
    rcases ri_br_s hsat h with ⟨h1, cs', r1, h2, h3, h4⟩ | ⟨h1, cs', r1, h2, h3, h4⟩
    · split at h2
      · next t ht =>
        refine ⟨off, t, cs', r1, ht, h2, h3, h4, Or.inl ⟨0, v, rfl, ?_, fun i hi => absurd hi (Nat.not_lt_zero i)⟩⟩
        have h5 := (ri_sat_eq.mp h1).mp rfl
        rw [e1] at h5
        exact h5
      · cases h2
    · have hne : ¬ ri_iv ρ x = Int32.ofInt v := fun z => h1 (ri_sat_eq.mpr ⟨fun _ => by rw [e1]; exact z, fun _ => rfl⟩)
      obtain ⟨off2, t, cs2, r2, g1, g2, g3, g4, g5⟩ := ri_chain_s l cs' h3 h2
      refine ⟨off2, t, cs2, r2, g1, g2, g3, ri_le_tr g4 h4, ?_⟩
      rcases g5 with ⟨j, w, k1, k2, k3⟩ | ⟨k1, k2⟩
      · refine Or.inl ⟨j + 1, w, by rw [List.getElem?_cons_succ]; exact k1, k2, fun i hi w2 o2 hi2 => ?_⟩
        cases i with
        | zero => rw [List.getElem?_cons_zero] at hi2; cases hi2; exact hne
        | succ i => rw [List.getElem?_cons_succ] at hi2; exact k3 i (by omega) w2 o2 hi2
      · refine Or.inr ⟨k1, fun i w2 o2 hi2 => ?_⟩
        cases i with
        | zero => rw [List.getElem?_cons_zero] at hi2; cases hi2; exact hne
        | succ i => rw [List.getElem?_cons_succ] at hi2; exact k2 i w2 o2 hi2
/-- an end -/
theorem ri_end {ad : Nat → Nat} {H : Heap} {locs : List Loc} {tm : Option Jvm.Term} {t : State} (hag : ri_ag n0 ad0 ad) (hn : n0 ≤ mem.length) (hP : va_P D (ri_cls G) (ri_w ρ sa (ri_aty G) tyc ad mem) H) (hD : va_D A (ri_w ρ sa (ri_aty G) tyc ad mem)) (hS : va_S A s.heap H locs) (hok : ri_okM mem.length mem) (hst : ∀ z, tm = some z → ri_ok mem.length z) (hsat : ∀ q ∈ cs, ri_sat ρ q) (hm : (cs, mem, .inl tm) ∈ LT) (ht : t.heap = H) :
    ri_Qc G D tyc A ρ sa n0 ad0 LT args s (.returned (tm.map (ri_cv ρ sa ad))) t :=
  ⟨(cs, mem, .inl tm), hm, tm, ad, rfl, rfl, hst, hag, hsat, hn, hok, by rw [ht]; exact hP, hD, hS.F ht⟩
set_option maxHeartbeats 4000000 in
theorem ri_thr_W {ik : Nat} (hC : ri_Cx l ALL STR sa G M D tyc A p s m args meth c R LC d mcT msT) (hcode : ∀ pc i len, (ri_co M)[pc]? = some (some (i, len)) → decode (ri_by M) pc = .ok (i, len)) (h : ri_thr G M pc ik st cs mem = some rs) (hd : decode (ri_by M) pc = .ok (.new ik, 3)) : ri_So p l e R s m args below meth c G M D tyc A ρ sa n0 ad0 LT mcT msT pc lv st cs mem rs := by
  obtain ⟨⟨⟨hx, hb, hml, hown, hin⟩, hM, hcl, hlk, hts, hK, hA, hstr⟩, hSt, hwm, hr, hlocks, hex, hl, rfl, hLC, hco, hcs, hhi⟩ := hC
  intro ad ls H locs cells slots hag hn hl0 hP hD hS hok hlv hst hsat hLT hc1 hs1 hob
  unfold ri_thr at h
  by_cases hhi2 : ri_hi M = true
  case neg => rw [if_neg hhi2] at h; cases h
  rw [if_pos hhi2] at h
  have hhi5 := hhi hhi2
  unfold ri_thr0 at h
  split at h
  · next a5 b5 E is hcp h3 h4 =>
    split at h
    · next ic h6 h9 =>
      split at h
      · next a9 b9 t9 kq a13 b13 E2 hcs9 hci =>
        split at h
        · next hk =>
          cases h
          obtain ⟨hkq, rfl, hlen, hnil⟩ := hk
          have hex0 : ∀ x ∈ c.exceptionTable.toList, False := by rw [hex, List.isEmpty_iff.mp hnil]; intro x hx; cases hx
          obtain ⟨k1, k2, k3⟩ := ri_cp_s hlk hM hcp
          have k9 := ri_cp_s hlk hM hcs9
          have hci9 := ri_cp_s hlk hM hci
          have hsum := ri_sum4 (ρ := ρ) (sa := sa) (ad := ad) hlen
          rcases hkq with rfl | rfl
          · obtain ⟨names, n1, n2, n3⟩ := hci9
            refine vx_throwS (A := A) hx hb hl hown k3 n2 (hts _ k1) (hts _ k2) (hstr _ k9) (fun w hw => hts _ (n3 w hw).1) ?_ hSt.2.2.2.1 hSt.2.2.2.2.1 hS (hl0.1.trans hml.symm) hd (hcode _ _ _ h3) (hcode _ _ _ h4) (hcode _ _ _ h6) (hcode _ _ _ h9) (fun x hx => (hex0 x hx).elim) ?_ ?_ ?_ ?_ hlocks ?_ hS.2.2 hc1 hs1
            · intro w hw
              rcases List.mem_cons.mp hw with rfl | hw
              · rfl
              · rcases List.mem_cons.mp hw with rfl | hw
                · rfl
                · exact (n3 w hw).2
            · show names.length + 3 < d + 1 + 1
              omega
            · show _ ≤ 100 + (d + 1) * LC
              have : 13 * (names.length + 1) + 43 ≤ 82 := by omega
              omega
            · exact hc1
            · exact hs1
            · intro t hvm hsz hq
              refine ⟨(cs, mem, .inr E2), hLT _ List.mem_cons_self, ad, rfl, hag, hsat, hn, hok, va_P.kept hP (fun k q hk => hq q.1 (vx_lt hP hk)), hD, Nat.le_trans hS.1 hsz, fun q h1 h2 => (hq q (Nat.lt_of_lt_of_le h1 hS.1)).trans (hS.2.1 q h1 h2)⟩
          · refine ri_throwX (A := A) hx hb hl hown k3 (by decide +kernel) (names := ["java/lang/Exception"]) (Y0 := "java/lang/RuntimeException") (by intro n hn; rw [List.mem_singleton.mp hn]; decide +kernel) ri_rx0 ri_rx1 ri_rx2 ri_rx5 (hts _ k1) (hts _ k2) (hstr _ k9) (fun w hw => hts _ (hci9 w hw).1) ?_ hSt.2.2.2.1 hSt.2.2.2.2.1 hS (hl0.1.trans hml.symm) hd (hcode _ _ _ h3) (hcode _ _ _ h4) (hcode _ _ _ h6) (hcode _ _ _ h9) (fun x hx => (hex0 x hx).elim) ?_ ?_ ?_ ?_ hlocks ?_ hS.2.2 hc1 hs1
            · intro w hw
              rcases List.mem_cons.mp hw with rfl | hw
              · rfl
              · rcases List.mem_cons.mp hw with rfl | hw
                · rfl
                · exact (hci9 w hw).2
            · show 1 + 4 < d + 1 + 1
              omega
            · show _ ≤ 100 + (d + 1) * LC
              have hl1 : (List.length ["java/lang/Exception"]) = 1 := rfl
              omega
            · exact hc1
            · exact hs1
            · intro t hvm hsz hq
              refine ⟨(cs, mem, .inr E2), hLT _ List.mem_cons_self, ad, rfl, hag, hsat, hn, hok, va_P.kept hP (fun k q hk => hq q.1 (vx_lt hP hk)), hD, Nat.le_trans hS.1 hsz, fun q h1 h2 => (hq q (Nat.lt_of_lt_of_le h1 hS.1)).trans (hS.2.1 q h1 h2)⟩
        · cases h
      · cases h
    · cases h
  · next a5 b5 E is hcp h3 h4 =>
    split at h
    · next ic h6 h9 =>
      split at h
      · next a9 b9 t9 kq a13 b13 E2 hcs9 hci =>
        split at h
        · next hk =>
          cases h
          obtain ⟨hkq, rfl, hlen, hnil⟩ := hk
          have hex0 : ∀ x ∈ c.exceptionTable.toList, False := by rw [hex, List.isEmpty_iff.mp hnil]; intro x hx; cases hx
          obtain ⟨k1, k2, k3⟩ := ri_cp_s hlk hM hcp
          have k9 := ri_cp_s hlk hM hcs9
          have hci9 := ri_cp_s hlk hM hci
          have hsum := ri_sum4 (ρ := ρ) (sa := sa) (ad := ad) hlen
          rcases hkq with rfl | rfl
          · obtain ⟨names, n1, n2, n3⟩ := hci9
            refine vx_throwSW (A := A) hx hb hl hown k3 n2 (hts _ k1) (hts _ k2) (hstr _ k9) (fun w hw => hts _ (n3 w hw).1) ?_ hSt.2.2.2.1 hSt.2.2.2.2.1 hS (hl0.1.trans hml.symm) hd (hcode _ _ _ h3) (hcode _ _ _ h4) (hcode _ _ _ h6) (hcode _ _ _ h9) (fun x hx => (hex0 x hx).elim) ?_ ?_ ?_ ?_ hlocks ?_ hS.2.2 hc1 hs1
            · intro w hw
              rcases List.mem_cons.mp hw with rfl | hw
              · rfl
              · rcases List.mem_cons.mp hw with rfl | hw
                · rfl
                · exact (n3 w hw).2
            · show names.length + 3 < d + 1 + 1
              omega
            · show _ ≤ 100 + (d + 1) * LC
              have : 13 * (names.length + 1) + 43 ≤ 82 := by omega
              omega
            · exact hc1
            · exact hs1
            · intro t hvm hsz hq
              refine ⟨(cs, mem, .inr E2), hLT _ List.mem_cons_self, ad, rfl, hag, hsat, hn, hok, va_P.kept hP (fun k q hk => hq q.1 (vx_lt hP hk)), hD, Nat.le_trans hS.1 hsz, fun q h1 h2 => (hq q (Nat.lt_of_lt_of_le h1 hS.1)).trans (hS.2.1 q h1 h2)⟩
          · refine ri_throwXW (A := A) hx hb hl hown k3 (by decide +kernel) (names := ["java/lang/Exception"]) (Y0 := "java/lang/RuntimeException") (by intro n hn; rw [List.mem_singleton.mp hn]; decide +kernel) ri_rx0 ri_rx1 ri_rx2 ri_rx5 (hts _ k1) (hts _ k2) (hstr _ k9) (fun w hw => hts _ (hci9 w hw).1) ?_ hSt.2.2.2.1 hSt.2.2.2.2.1 hS (hl0.1.trans hml.symm) hd (hcode _ _ _ h3) (hcode _ _ _ h4) (hcode _ _ _ h6) (hcode _ _ _ h9) (fun x hx => (hex0 x hx).elim) ?_ ?_ ?_ ?_ hlocks ?_ hS.2.2 hc1 hs1
            · intro w hw
              rcases List.mem_cons.mp hw with rfl | hw
              · rfl
              · rcases List.mem_cons.mp hw with rfl | hw
                · rfl
                · exact (hci9 w hw).2
            · show 1 + 4 < d + 1 + 1
              omega
            · show _ ≤ 100 + (d + 1) * LC
              have hl1 : (List.length ["java/lang/Exception"]) = 1 := rfl
              omega
            · exact hc1
            · exact hs1
            · intro t hvm hsz hq
              refine ⟨(cs, mem, .inr E2), hLT _ List.mem_cons_self, ad, rfl, hag, hsat, hn, hok, va_P.kept hP (fun k q hk => hq q.1 (vx_lt hP hk)), hD, Nat.le_trans hS.1 hsz, fun q h1 h2 => (hq q (Nat.lt_of_lt_of_le h1 hS.1)).trans (hS.2.1 q h1 h2)⟩
        · cases h
      · cases h
    · cases h
  · cases h
end RIX2
end RIX
