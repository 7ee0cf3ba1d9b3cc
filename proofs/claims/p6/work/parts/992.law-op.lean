/-! the law: its calls (printed by wip/gen/law.py) -/
section RL
theorem sq_137 {n : Nat} {f : Nat → Int32} {d : Nat}  {σ : ra_V}  : ra_C (g_Gs n f) g_sh 0 (d + 7) 137 [.index (0)] σ (fun r s => (∃ x : UInt32, vf_n32 x ∧ r = .inl (some (ri_fF x))) ∧ Fr (172) (175) σ s) := by
  refine ra_enter (nn := 2) mt_137 rfl (Nat.le_of_ble_eq_true rfl) rfl (fun h => absurd h (by decide +kernel)) ?_
  refine ra_load rfl rfl rfl rfl ?_
  refine ra_cR (sp_175 ) rfl (ct_175 rfl lk_7_106 (Or.inl rfl) sh_0 (Nat.le_of_ble_eq_true rfl)) (fun s1 hs1 => ?_)
  have hF2 := Fr_tr (lo := 172) (hi := 175) Fr_rf hs1 (by omega)
  refine ra_store (L' := [_, _, _]) rfl rfl rfl (Nat.le_of_ble_eq_true rfl) rfl ?_
  refine ra_load rfl rfl rfl rfl ?_
  refine ra_cIp (sp_54 ) rfl (ct_54 rfl lk_7_110 (Or.inl rfl) sh_172 (Nat.le_of_ble_eq_true rfl)) (fun z4 hz4 => ?_)
  refine ra_store (L' := [_, _, _]) rfl rfl rfl (Nat.le_of_ble_eq_true rfl) rfl ?_
  refine ra_load rfl rfl rfl rfl ?_
  refine ra_iconst rfl ?_
  refine ra_icge rfl rfl hz4 (by first | omega | (unfold ra_in at *; omega)) (fun h5 => ?_) (fun h5 => ?_)
  · refine ra_fconst1 rfl ?_
    refine ra_load rfl rfl rfl rfl ?_
    refine ra_cIp (sp_56 ) rfl (ct_56 rfl lk_7_232 (Or.inl rfl) sh_172 (Nat.le_of_ble_eq_true rfl)) (fun z7 hz7 => ?_)
    refine ra_i2f rfl ?_
    refine ra_load rfl rfl rfl rfl ?_
    refine ra_i2f rfl ?_
    refine ra_fdiv rfl (ra_fn hz4 (by first | omega | (unfold ra_in at *; omega))) ?_
    refine ra_fsub rfl (ra_sn hz4 (by first | omega | (unfold ra_in at *; omega))) ?_
    exact ra_freturn rfl rfl ⟨⟨_, by first | (unfold vf_n32; decide) | exact ra_sn (by assumption) (by omega), rfl⟩, hF2⟩
  · refine ra_fconst0 rfl ?_
    refine ra_goto rfl rfl ?_
    exact ra_freturn rfl rfl ⟨⟨_, by first | (unfold vf_n32; decide) | exact ra_sn (by assumption) (by omega), rfl⟩, hF2⟩
theorem sq_289 {n : Nat} {f : Nat → Int32} {d : Nat}  {σ : ra_V} (hw : WF σ) : ra_C (g_Gs n f) g_sh 0 (d + 7) 289 [.index (179)] σ (fun r s => (∃ x : UInt32, vf_n32 x ∧ r = .inl (some (ri_fF x))) ∧ Fr (179) (187) σ s ∧ s (180) = σ (180) ∧ s (181) = σ (181) ∧ s (182) = σ (182) ∧ s (183) = σ (183) ∧ s (184) = σ (184) ∧ (∀ a, a ≠ 7 → a ≠ 10 → ra_g s 179 a = ra_g σ 179 a)) := by
  refine ra_enter (nn := 1) mt_289 rfl (Nat.le_of_ble_eq_true rfl) rfl (fun h => absurd h (by decide +kernel)) ?_
  have hw0 := WF_a hw
  unfold WFa at hw0
  refine ra_load rfl rfl rfl rfl ?_
  refine ra_iconst rfl ?_
  refine ra_putI rfl lk_8_51 (Nat.zero_le _) sh_179 rfl rfl ?_
  refine ra_newU (by first | omega | (unfold ra_in at *; omega)) (fun s1 hs1 hp2 hp2o => ?_)
  have hp2_99 := hp2o 99 (by decide)
  have hF3 := Fr_tr (lo := 179) (hi := 187) Fr_rf hs1 (by omega)
  have hk4 : s1 (180) = σ (180) := (hs1 (180) (by omega))
  have hk5 : s1 (181) = σ (181) := (hs1 (181) (by omega))
  have hk6 : s1 (182) = σ (182) := (hs1 (182) (by omega))
  have hk7 : s1 (183) = σ (183) := (hs1 (183) (by omega))
  have hk8 : s1 (184) = σ (184) := (hs1 (184) (by omega))
  have ho9 : ∀ a, a ≠ 7 → a ≠ 10 → ra_g s1 179 a = ra_g σ 179 a := fun a h7 h10 => ((fun a h7 h10 => hp2o a h7) a h7 h10).trans ((fun _ _ _ => rfl) a h7 h10)
  refine ra_load rfl rfl rfl rfl ?_
  refine ra_cI (sp_264 (WF_k hk4 hw)) rfl (ct_264 rfl lk_8_307 (Or.inl rfl) sh_179 (Nat.le_of_ble_eq_true rfl)) (fun z11 s10  hz11 hs10 => ?_)
  obtain ⟨hf12, hc13, hc14, hc15, hc16, hc17, he18⟩ := hs10
  have hF19 := Fr_tr (lo := 179) (hi := 187) hF3 hf12 (by omega)
  have hk20 : s10 (180) = σ (180) := hc13.trans hk4
  have hk21 : s10 (181) = σ (181) := hc14.trans hk5
  have hk22 : s10 (182) = σ (182) := hc15.trans hk6
  have hk23 : s10 (183) = σ (183) := hc16.trans hk7
  have hk24 : s10 (184) = σ (184) := hc17.trans hk8
  have ho25 : ∀ a, a ≠ 7 → a ≠ 10 → ra_g s10 179 a = ra_g σ 179 a := fun a h7 h10 => (he18 a h7 h10).trans (ho9 a h7 h10)
  refine ra_store (L' := [_, _]) rfl rfl rfl (Nat.le_of_ble_eq_true rfl) rfl ?_
  refine ra_load rfl rfl rfl rfl ?_
  refine ra_ifne rfl rfl hz11 (fun h26 => ?_) (fun h26 => ?_)
  · refine ra_fconst1 rfl ?_
    refine ra_load rfl rfl rfl rfl ?_
    refine ra_cI (sp_282 (WF_k hk20 hw)) rfl (ct_282 rfl lk_8_341 (Or.inl rfl) sh_179 (Nat.le_of_ble_eq_true rfl)) (fun z28 s27  hz28 hs27 => ?_)
    obtain ⟨hf29, hc30, hc31, hc32, hc33, hc34, he35⟩ := hs27
    have hF36 := Fr_tr (lo := 179) (hi := 187) hF19 hf29 (by omega)
    have hk37 : s27 (180) = σ (180) := hc30.trans hk20
    have hk38 : s27 (181) = σ (181) := hc31.trans hk21
    have hk39 : s27 (182) = σ (182) := hc32.trans hk22
    have hk40 : s27 (183) = σ (183) := hc33.trans hk23
    have hk41 : s27 (184) = σ (184) := hc34.trans hk24
    have ho42 : ∀ a, a ≠ 7 → a ≠ 10 → ra_g s27 179 a = ra_g σ 179 a := fun a h7 h10 => (he35 a h7 h10).trans (ho25 a h7 h10)
    refine ra_i2f rfl ?_
    refine ra_load rfl rfl rfl rfl ?_
    refine ra_i2f rfl ?_
    refine ra_fdiv rfl (ra_fn hz11 (by first | omega | (unfold ra_in at *; omega))) ?_
    refine ra_fsub rfl (ra_sn hz11 (by first | omega | (unfold ra_in at *; omega))) ?_
    exact ra_freturn rfl rfl ⟨⟨_, by first | (unfold vf_n32; decide) | exact ra_sn (by assumption) (by omega), rfl⟩, ⟨hF36, hk37, hk38, hk39, hk40, hk41, ho42⟩⟩
  · refine ra_fconst0 rfl ?_
    refine ra_goto rfl rfl ?_
    exact ra_freturn rfl rfl ⟨⟨_, by first | (unfold vf_n32; decide) | exact ra_sn (by assumption) (by omega), rfl⟩, ⟨hF19, hk20, hk21, hk22, hk23, hk24, ho25⟩⟩
abbrev lwL (v : Int) : List (Option Jvm.Term) := [some (.string "" 0), some (.index (0)), some (.index (179)), some (.index (191)), some (ra_I v), none, none, none, none]
section
variable {σ s t : ra_V} {B : Nat → Int} {bn : Nat}
theorem liv_l (h : LIV σ) : 0 ≤ ra_g σ 175 1 ∧ ra_g σ 175 1 ≤ 500 := by
  rw [h.2.2.1]
  exact h.2.1.2.2.2.1
theorem RF_f (h : Fr 175 177 σ s) (q : RF σ) : RF s := RF_k (h 179 (by omega)) (h 180 (by omega)) (h 183 (by omega)) (h 184 (by omega)) q
theorem RF_g {P : Prop} (h : Fr 0 179 σ s ∧ P) (q : RF σ) : RF s := RF_k (h.1 179 (by omega)) (h.1 180 (by omega)) (h.1 183 (by omega)) (h.1 184 (by omega)) q
theorem CI_k40 (h : s 40 = σ 40) (q : CI σ) : CI s := by unfold CI at *; rw [ra_gk h]; exact q
theorem liv_a {a b c d e : Int} (h : LIV σ) (hF : Fr 175 177 σ s) (hl : ra_g s 175 1 = if ra_g σ 175 1 + 20 ≤ 500 then ra_g σ 175 1 + 20 else ra_g σ 175 1) (h23 : ra_g s 175 2 = ra_g σ 175 2 ∧ ra_g s 175 3 = ra_g σ 175 3)
    (hb : ra_g σ 175 1 + 20 ≤ 500 → ∀ i : Nat, (i : Int) < ra_g σ 175 1 + 20 → ra_g s 176 i = x4ap5 (ra_g σ 176) (ra_g σ 175 1).toNat a b c d e i) (hk : 500 < ra_g σ 175 1 + 20 → s 176 = σ 176)
    (q : Fr 179 188 s t ∧ t 180 = s 180 ∧ t 183 = s 183 ∧ t 184 = s 184 ∧ (∀ a, a ≠ 7 → a ≠ 12 → ra_g t 179 a = ra_g s 179 a) ∧ (ra_g s 179 12 + 20 ≤ 500 → ra_g t 179 12 = ra_g s 179 12 + 20) ∧ (500 < ra_g s 179 12 + 20 → ra_g t 179 12 = ra_g s 179 12) ∧
      (ra_g s 179 12 + 20 ≤ 500 → ∀ i : Nat, (i : Int) < ra_g s 179 12 + 20 → ra_g t 187 i = x4ap5 (ra_g s 187) (ra_g s 179 12).toNat a b c d e i) ∧ (500 < ra_g s 179 12 + 20 → t 187 = s 187)) : LIV t := by
  obtain ⟨h1, h2, h3, g4, g5, g6⟩ := h
  obtain ⟨a1, b1, c1, d1, e1⟩ := RF_f hF h2
  obtain ⟨q0, q1, q2, q3, q4, q5, q6, q7, q8⟩ := q
  have e6 := q4 6 (by decide) (by decide)
  have e25 := q4 25 (by decide) (by decide)
  have e13 := q4 13 (by decide) (by decide)
  have e14 := q4 14 (by decide) (by decide)
  have k12 : ra_g s 179 12 = ra_g σ 179 12 := ra_gk (hF 179 (by omega))
  have k13 : ra_g s 179 13 = ra_g σ 179 13 := ra_gk (hF 179 (by omega))
  have k14 : ra_g s 179 14 = ra_g σ 179 14 := ra_gk (hF 179 (by omega))
  have k175 : t 175 = s 175 := q0 175 (by omega)
  have e175 : ra_g t 175 1 = ra_g s 175 1 := ra_gk k175
  have e1752 : ra_g t 175 2 = ra_g s 175 2 := ra_gk k175
  have e1753 : ra_g t 175 3 = ra_g s 175 3 := ra_gk k175
  have k176 : t 176 = s 176 := q0 176 (by omega)
  have k187 : s 187 = σ 187 := hF 187 (by omega)
  have hbd := h2.2.2.2.1
  refine ⟨CI_k40 ((q0 40 (by omega)).trans (hF 40 (by omega))) h1, ⟨WF_k q1 a1, PW_k b1 (q4 5 (by decide) (by decide)) q3, fun r => wf_row q2 (c1 (by rw [← e6]; exact r)), by omega, by omega⟩, ?_, fun i hi => ?_, by omega, by omega⟩
  · by_cases g : ra_g σ 175 1 + 20 ≤ 500
    · rw [if_pos g] at hl
      omega
    · rw [if_neg g] at hl
      omega
  · by_cases g : ra_g σ 175 1 + 20 ≤ 500
    · have hi2 : (i : Int) < ra_g σ 175 1 + 20 := by omega
      rw [ra_gk k176, hb g i hi2, q7 (by omega) i (by omega)]
      have hL : (ra_g s 179 12).toNat = (ra_g σ 175 1).toNat := by omega
      rw [hL, show ra_g s 187 = ra_g σ 187 from funext fun j => ra_gk k187]
      exact x4ap_5c (fun j hj => g4 j (by omega)) i
    · rw [ra_gk k176, ra_gk (hk (by omega)), ra_gk (q8 (by omega)), ra_gk k187]
      exact g4 i (by omega)
theorem liv_t {x : Int} (h : LIV σ) (hF : Fr 175 177 σ s) (hl : ra_g s 175 1 = if 0 ≤ x ∧ x ≤ ra_g σ 175 1 then x else ra_g σ 175 1) (h23 : ra_g s 175 2 = ra_g σ 175 2 ∧ ra_g s 175 3 = ra_g σ 175 3) (hk : s 176 = σ 176)
    (q : Fr 179 180 s t ∧ (∀ a, a ≠ 7 → a ≠ 12 → ra_g t 179 a = ra_g s 179 a) ∧ ((0 ≤ x ∧ x ≤ ra_g s 179 12) → ra_g t 179 12 = x) ∧ (¬ (0 ≤ x ∧ x ≤ ra_g s 179 12) → ra_g t 179 12 = ra_g s 179 12)) : LIV t := by
  obtain ⟨h1, h2, h3, g4, g5, g6⟩ := h
  obtain ⟨a, b, c, d, e⟩ := RF_f hF h2
  obtain ⟨q0, q4, q5, q6⟩ := q
  have e6 := q4 6 (by decide) (by decide)
  have e25 := q4 25 (by decide) (by decide)
  have e13 := q4 13 (by decide) (by decide)
  have e14 := q4 14 (by decide) (by decide)
  have k12 : ra_g s 179 12 = ra_g σ 179 12 := ra_gk (hF 179 (by omega))
  have k13 : ra_g s 179 13 = ra_g σ 179 13 := ra_gk (hF 179 (by omega))
  have k14 : ra_g s 179 14 = ra_g σ 179 14 := ra_gk (hF 179 (by omega))
  have k175 : t 175 = s 175 := q0 175 (by omega)
  have e175 : ra_g t 175 1 = ra_g s 175 1 := ra_gk k175
  have e1752 : ra_g t 175 2 = ra_g s 175 2 := ra_gk k175
  have e1753 : ra_g t 175 3 = ra_g s 175 3 := ra_gk k175
  have hlt : ra_g t 175 1 = ra_g t 179 12 ∧ ra_g t 179 12 ≤ ra_g σ 179 12 := by
    by_cases g : 0 ≤ x ∧ x ≤ ra_g σ 175 1
    · rw [if_pos g] at hl
      omega
    · rw [if_neg g] at hl
      omega
  refine ⟨CI_k40 ((q0 40 (by omega)).trans (hF 40 (by omega))) h1, ⟨WF_k (q0 180 (by omega)) a, PW_k b (q4 5 (by decide) (by decide)) (q0 184 (by omega)), fun r => wf_row (q0 183 (by omega)) (c (by rw [← e6]; exact r)), by omega, by omega⟩, hlt.1, fun i hi => ?_, by omega, by omega⟩
  rw [ra_gk (q0 176 (by omega)), ra_gk hk, ra_gk (q0 187 (by omega)), ra_gk (hF 187 (by omega))]
  exact g4 i (by omega)
theorem liv_d {v w : Int} (h : LIV σ) (p : Fr 0 179 σ s ∧ CI s ∧ ra_g s 175 1 = 0 ∧ ra_g s 175 2 = v ∧ ra_g s 175 3 = w)
    (q : Fr 179 189 s t ∧ t 183 = s 183 ∧ (∀ a, a ≠ 5 → a ≠ 6 → a ≠ 7 → a ≠ 12 → a ≠ 13 → a ≠ 14 → a ≠ 15 → a ≠ 16 → a ≠ 17 → a ≠ 18 → a ≠ 19 → a ≠ 20 → a ≠ 21 → ra_g t 179 a = ra_g s 179 a) ∧ ra_g t 179 12 = 0 ∧ (ra_g t 179 6 ≠ 0 → ra_g s 179 6 ≠ 0) ∧ WF t ∧ PW t ∧ ra_g t 179 13 = v ∧ ra_g t 179 14 = w) : LIV t := by
  obtain ⟨a, b, c, d, e⟩ := RF_g p h.2.1
  obtain ⟨q0, q1, q2, q3, q4, q5, q6, q7, q8⟩ := q
  have e25 := q2 25 (by decide) (by decide) (by decide) (by decide) (by decide) (by decide) (by decide) (by decide) (by decide) (by decide) (by decide) (by decide) (by decide)
  have k175 : t 175 = s 175 := q0 175 (by omega)
  have e1 : ra_g t 175 1 = ra_g s 175 1 := ra_gk k175
  have e2 : ra_g t 175 2 = ra_g s 175 2 := ra_gk k175
  have e3 : ra_g t 175 3 = ra_g s 175 3 := ra_gk k175
  obtain ⟨p0, p1, p2, p3, p4⟩ := p
  exact ⟨CI_k40 (q0 40 (by omega)) p1, ⟨q5, q6, fun r => wf_row q1 (c (q4 r)), by omega, by omega⟩, by omega, fun i hi => by omega, by omega, by omega⟩
/-- the bytes as a function -/
def byF (σ : ra_V) : Nat → Int := fun i => if (i : Int) < ra_g σ 179 12 then ra_g σ 176 i else -1
theorem by_c (h : LIV σ) : x4TB σ (byF σ) (ra_g σ 179 12).toNat := by
  obtain ⟨h1, h2, h3, g4, g5, g6⟩ := h
  have hb := h2.2.2.2.1
  refine ⟨by omega, by omega, fun i hi => ?_, fun i hi => ?_⟩
  · have e : byF σ i = ra_g σ 176 i := if_pos (by omega)
    rw [e]
    exact ⟨rfl, (g4 i (by omega)).2⟩
  · exact if_neg (by omega)
theorem by_r {P : Prop} (h : LIV σ) (p : Fr 0 179 σ s ∧ P) : x4TR s (byF σ) (ra_g σ 179 12).toNat := by
  obtain ⟨h1, h2, h3, g4, g5, g6⟩ := h
  have hb := h2.2.2.2.1
  have k12 : ra_g s 179 12 = ra_g σ 179 12 := ra_gk (p.1 179 (by omega))
  refine ⟨by omega, by omega, fun i hi => ?_, fun i hi => ?_⟩
  · have e : byF σ i = ra_g σ 176 i := if_pos (by omega)
    have q := g4 i (by omega)
    rw [e, ra_gk (p.1 187 (by omega))]
    exact q
  · exact if_neg (by omega)
end
theorem op_0 {n : Nat} {f : Nat → Int32} {d b0 : Nat} {σ : ra_V} {v4 : Int} {Q : ra_Q} (hn : n ≤ 3072) (hL : LIV σ) (h0 : 0 ≤ v4) (h1 : v4 + 6 ≤ n) (k : ∀ s, LIV s → ra_P (g_Gs n f) g_sh b0 (d + 12) g_law 2079 (lwL v4) [] s Q) : ra_P (g_Gs n f) g_sh (b0 + 1) (d + 12) g_law 300 (lwL v4) [] σ Q := by
  unfold lwL
  have hLc := hL.1
  have hLr := hL.2.1
  have hb := liv_l hL
  obtain ⟨x1, ex1⟩ : ∃ x, x = (ri_sf (g_Gs n f) (v4 + 1).toNat).toInt := ⟨_, rfl⟩
  have hx1 : ra_in x1 := by rw [ex1]; exact ⟨Int32.le_toInt _, by have := Int32.toInt_lt (ri_sf (g_Gs n f) (v4 + 1).toNat); omega⟩
  obtain ⟨x2, ex2⟩ : ∃ x, x = (ri_sf (g_Gs n f) (v4 + 2).toNat).toInt := ⟨_, rfl⟩
  have hx2 : ra_in x2 := by rw [ex2]; exact ⟨Int32.le_toInt _, by have := Int32.toInt_lt (ri_sf (g_Gs n f) (v4 + 2).toNat); omega⟩
  obtain ⟨x3, ex3⟩ : ∃ x, x = (ri_sf (g_Gs n f) (v4 + 3).toNat).toInt := ⟨_, rfl⟩
  have hx3 : ra_in x3 := by rw [ex3]; exact ⟨Int32.le_toInt _, by have := Int32.toInt_lt (ri_sf (g_Gs n f) (v4 + 3).toNat); omega⟩
  obtain ⟨x4, ex4⟩ : ∃ x, x = (ri_sf (g_Gs n f) (v4 + 4).toNat).toInt := ⟨_, rfl⟩
  have hx4 : ra_in x4 := by rw [ex4]; exact ⟨Int32.le_toInt _, by have := Int32.toInt_lt (ri_sf (g_Gs n f) (v4 + 4).toNat); omega⟩
  obtain ⟨x5, ex5⟩ : ∃ x, x = (ri_sf (g_Gs n f) (v4 + 5).toNat).toInt := ⟨_, rfl⟩
  have hx5 : ra_in x5 := by rw [ex5]; exact ⟨Int32.le_toInt _, by have := Int32.toInt_lt (ri_sf (g_Gs n f) (v4 + 5).toNat); omega⟩
  refine ra_load lc_300 rfl rfl rfl ?_
  refine ra_load lc_301 rfl rfl rfl ?_
  refine ra_load lc_302 rfl rfl rfl ?_
  refine ra_iconst lc_304 ?_
  refine ra_iadd lc_305 ?_
  refine ra_sld lc_306 rfl (show n ≤ 2147483647 by omega) (by omega) (show v4 + 1 < (n : Int) by omega) ?_
  rw [← ex1]
  refine ra_load lc_307 rfl rfl rfl ?_
  refine ra_load lc_308 rfl rfl rfl ?_
  refine ra_iconst lc_310 ?_
  refine ra_iadd lc_311 ?_
  refine ra_sld lc_312 rfl (show n ≤ 2147483647 by omega) (by omega) (show v4 + 2 < (n : Int) by omega) ?_
  rw [← ex2]
  refine ra_load lc_313 rfl rfl rfl ?_
  refine ra_load lc_314 rfl rfl rfl ?_
  refine ra_iconst lc_316 ?_
  refine ra_iadd lc_317 ?_
  refine ra_sld lc_318 rfl (show n ≤ 2147483647 by omega) (by omega) (show v4 + 3 < (n : Int) by omega) ?_
  rw [← ex3]
  refine ra_load lc_319 rfl rfl rfl ?_
  refine ra_load lc_320 rfl rfl rfl ?_
  refine ra_iconst lc_322 ?_
  refine ra_iadd lc_323 ?_
  refine ra_sld lc_324 rfl (show n ≤ 2147483647 by omega) (by omega) (show v4 + 4 < (n : Int) by omega) ?_
  rw [← ex4]
  refine ra_load lc_325 rfl rfl rfl ?_
  refine ra_load lc_326 rfl rfl rfl ?_
  refine ra_iconst lc_328 ?_
  refine ra_iadd lc_329 ?_
  refine ra_sld lc_330 rfl (show n ≤ 2147483647 by omega) (by omega) (show v4 + 5 < (n : Int) by omega) ?_
  rw [← ex5]
  refine ra_callA (s4_114 hx1 hx2 hx3 hx4 hx5 hb) lc_331 (ct_114 rfl lk_9_147 (Or.inl rfl) sh_0 (Nat.le_of_ble_eq_true rfl)) (fun E s h => by have e := h.1; cases e) (fun t s1 h => ?_)
  obtain ⟨e, hF, hl, h23, hbb, hkk⟩ := h
  cases e
  have hLr1 := RF_f hF hLr
  refine ra_pop lc_334 rfl ?_
  refine ra_load lc_335 rfl rfl rfl ?_
  refine ra_load lc_336 rfl rfl rfl ?_
  refine ra_load lc_337 rfl rfl rfl ?_
  refine ra_iconst lc_339 ?_
  refine ra_iadd lc_340 ?_
  refine ra_sld lc_341 rfl (show n ≤ 2147483647 by omega) (by omega) (show v4 + 1 < (n : Int) by omega) ?_
  rw [← ex1]
  refine ra_load lc_342 rfl rfl rfl ?_
  refine ra_load lc_343 rfl rfl rfl ?_
  refine ra_iconst lc_345 ?_
  refine ra_iadd lc_346 ?_
  refine ra_sld lc_347 rfl (show n ≤ 2147483647 by omega) (by omega) (show v4 + 2 < (n : Int) by omega) ?_
  rw [← ex2]
  refine ra_load lc_348 rfl rfl rfl ?_
  refine ra_load lc_349 rfl rfl rfl ?_
  refine ra_iconst lc_351 ?_
  refine ra_iadd lc_352 ?_
  refine ra_sld lc_353 rfl (show n ≤ 2147483647 by omega) (by omega) (show v4 + 3 < (n : Int) by omega) ?_
  rw [← ex3]
  refine ra_load lc_354 rfl rfl rfl ?_
  refine ra_load lc_355 rfl rfl rfl ?_
  refine ra_iconst lc_357 ?_
  refine ra_iadd lc_358 ?_
  refine ra_sld lc_359 rfl (show n ≤ 2147483647 by omega) (by omega) (show v4 + 4 < (n : Int) by omega) ?_
  rw [← ex4]
  refine ra_load lc_360 rfl rfl rfl ?_
  refine ra_load lc_361 rfl rfl rfl ?_
  refine ra_iconst lc_363 ?_
  refine ra_iadd lc_364 ?_
  refine ra_sld lc_365 rfl (show n ≤ 2147483647 by omega) (by omega) (show v4 + 5 < (n : Int) by omega) ?_
  rw [← ex5]
  refine ra_cI (s4_246 hx1 hx2 hx3 hx4 hx5 hLr1.2.2.2.1) lc_366 (ct_246 rfl lk_9_151 (Or.inl rfl) sh_179 (Nat.le_of_ble_eq_true rfl)) (fun z s2 hz h => ?_)
  refine ra_pop lc_369 rfl ?_
  refine ra_goto lc_370 rfl ?_
  exact ra_P_mono (k _ (liv_a hL hF hl h23 hbb hkk h)) (fun _ _ h => h) (by omega)
theorem op_1 {n : Nat} {f : Nat → Int32} {d b0 : Nat} {σ : ra_V} {v4 : Int} {Q : ra_Q} (hn : n ≤ 3072) (hL : LIV σ) (h0 : 0 ≤ v4) (h1 : v4 + 6 ≤ n) (k : ∀ s, LIV s → ra_P (g_Gs n f) g_sh b0 (d + 12) g_law 2079 (lwL v4) [] s Q) : ra_P (g_Gs n f) g_sh (b0 + 1) (d + 12) g_law 373 (lwL v4) [] σ Q := by
  unfold lwL
  have hLc := hL.1
  have hLr := hL.2.1
  have hb := liv_l hL
  obtain ⟨x1, ex1⟩ : ∃ x, x = (ri_sf (g_Gs n f) (v4 + 1).toNat).toInt := ⟨_, rfl⟩
  have hx1 : ra_in x1 := by rw [ex1]; exact ⟨Int32.le_toInt _, by have := Int32.toInt_lt (ri_sf (g_Gs n f) (v4 + 1).toNat); omega⟩
  refine ra_load lc_373 rfl rfl rfl ?_
  refine ra_load lc_374 rfl rfl rfl ?_
  refine ra_load lc_375 rfl rfl rfl ?_
  refine ra_iconst lc_377 ?_
  refine ra_iadd lc_378 ?_
  refine ra_sld lc_379 rfl (show n ≤ 2147483647 by omega) (by omega) (show v4 + 1 < (n : Int) by omega) ?_
  rw [← ex1]
  refine ra_callA (s4_115 hx1 hb) lc_380 (ct_115 rfl lk_9_152 (Or.inl rfl) sh_0 (Nat.le_of_ble_eq_true rfl)) (fun E s h => by have e := h.1; cases e) (fun t s1 h => ?_)
  obtain ⟨e, hF, hl, h23, hkk⟩ := h
  cases e
  have hLr1 := RF_f hF hLr
  refine ra_pop lc_383 rfl ?_
  refine ra_load lc_384 rfl rfl rfl ?_
  refine ra_load lc_385 rfl rfl rfl ?_
  refine ra_load lc_386 rfl rfl rfl ?_
  refine ra_iconst lc_388 ?_
  refine ra_iadd lc_389 ?_
  refine ra_sld lc_390 rfl (show n ≤ 2147483647 by omega) (by omega) (show v4 + 1 < (n : Int) by omega) ?_
  rw [← ex1]
  refine ra_cT (sp_247 hx1 hLr1.2.2.2.1) lc_391 (ct_247 rfl lk_9_155 (Or.inl rfl) sh_179 (Nat.le_of_ble_eq_true rfl)) (fun s2 h => ?_)
  refine ra_pop lc_394 rfl ?_
  refine ra_goto lc_395 rfl ?_
  exact ra_P_mono (k _ (liv_t hL hF hl h23 hkk h)) (fun _ _ h => h) (by omega)
theorem op_2 {n : Nat} {f : Nat → Int32} {d b0 : Nat} {σ : ra_V} {v4 : Int} {Q : ra_Q} (hn : n ≤ 3072) (hL : LIV σ) (h0 : 0 ≤ v4) (h1 : v4 + 6 ≤ n) (k : ∀ s, LIV s → ra_P (g_Gs n f) g_sh b0 (d + 12) g_law 2079 (lwL v4) [] s Q) : ra_P (g_Gs n f) g_sh (b0 + 1) (d + 12) g_law 398 (lwL v4) [] σ Q := by
  unfold lwL
  have hLc := hL.1
  have hLr := hL.2.1
  have hb := liv_l hL
  have hTB := by_c hL
  refine ra_load lc_398 rfl rfl rfl ?_
  refine ra_callA (s4_116 hLc hTB) lc_399 (ct_116 rfl lk_9_156 (Or.inl rfl) sh_0 (Nat.le_of_ble_eq_true rfl)) (fun E s h => by have e := h.1; cases e) (fun t s1 h => ?_)
  obtain ⟨e, hp⟩ := h
  cases e
  have hLr1 := RF_g hp hLr
  refine ra_pop lc_402 rfl ?_
  refine ra_load lc_403 rfl rfl rfl ?_
  refine ra_cT (s4_261 hLr1.1 hLr1.2.1 hLr1.2.2.2.1 (by_r hL hp)) lc_404 (ct_261 rfl lk_9_159 (Or.inl rfl) sh_179 (Nat.le_of_ble_eq_true rfl)) (fun s2 h => ?_)
  refine ra_pop lc_407 rfl ?_
  refine ra_goto lc_408 rfl ?_
  exact ra_P_mono (k _ (liv_d hL hp h)) (fun _ _ h => h) (by omega)
theorem op_4 {n : Nat} {f : Nat → Int32} {d b0 : Nat} {σ : ra_V} {v4 : Int} {Q : ra_Q} (hn : n ≤ 3072) (hL : LIV σ) (h0 : 0 ≤ v4) (h1 : v4 + 6 ≤ n) (k : ∀ s, LIV s → ra_P (g_Gs n f) g_sh b0 (d + 12) g_law 2079 (lwL v4) [] s Q) : ra_P (g_Gs n f) g_sh (b0 + 1) (d + 12) g_law 424 (lwL v4) [] σ Q := by
  unfold lwL
  have hLc := hL.1
  have hLr := hL.2.1
  have hb := liv_l hL
  refine ra_load lc_424 rfl rfl rfl ?_
  refine ra_callA s4_118 lc_425 (ct_118 rfl lk_9_164 (Or.inl rfl) sh_0 (Nat.le_of_ble_eq_true rfl)) (fun E s h => by have e := h.1; cases e) (fun t s1 h => ?_)
  obtain ⟨e, rfl⟩ := h
  cases e
  refine ra_load lc_428 rfl rfl rfl ?_
  refine ra_cT (s4_263 hLr.1) lc_429 (ct_263 rfl lk_9_167 (Or.inl rfl) sh_179 (Nat.le_of_ble_eq_true rfl)) (fun s2 h => ?_)
  have fin : ra_P (g_Gs n f) g_sh (b0 + 1) (d + 12) g_law 2079 (lwL v4) [] s2 Q := ra_P_mono (k _ (liv_e hL (ch_e rfl hLc) (rh_q hLr h))) (fun _ _ h => h) (by omega)
  rw [← hL.2.2.2.2.2]
  exact ra_iceq lc_432 rfl (ra_in_g _ _ _) (ra_in_g _ _ _) (fun _ => fin) (fun q => absurd rfl q)
theorem op_3 {n : Nat} {f : Nat → Int32} {d b0 : Nat} {σ : ra_V} {v4 : Int} {Q : ra_Q} (hn : n ≤ 3072) (hL : LIV σ) (h0 : 0 ≤ v4) (h1 : v4 + 6 ≤ n) (k : ∀ s, LIV s → ra_P (g_Gs n f) g_sh b0 (d + 12) g_law 2079 (lwL v4) [] s Q) : ra_P (g_Gs n f) g_sh (b0 + 1) (d + 12) g_law 411 (lwL v4) [] σ Q := by
  unfold lwL
  have hLc := hL.1
  have hLr := hL.2.1
  refine ra_load lc_411 rfl rfl rfl ?_
  refine ra_cIp (sp_117 ) lc_412 (ct_117 rfl lk_9_160 (Or.inl rfl) sh_0 (Nat.le_of_ble_eq_true rfl)) (fun z2 hz2 => ?_)
  refine ra_pop lc_415 rfl ?_
  refine ra_load lc_416 rfl rfl rfl ?_
  refine ra_cI (sp_262 hLr.1) lc_417 (ct_262 rfl lk_9_163 (Or.inl rfl) sh_179 (Nat.le_of_ble_eq_true rfl)) (fun z4 s3 hz4 hs3 => ?_)
  have hR := (rh_q hLr hs3)
  refine ra_pop lc_420 rfl ?_
  refine ra_goto lc_421 rfl ?_
  exact ra_P_mono (ra_weak (by repeat' constructor) (k _ (liv_e hL (ch_e rfl hLc) hR))) (fun _ _ h => h) (by omega)
theorem op_5 {n : Nat} {f : Nat → Int32} {d b0 : Nat} {σ : ra_V} {v4 : Int} {Q : ra_Q} (hn : n ≤ 3072) (hL : LIV σ) (h0 : 0 ≤ v4) (h1 : v4 + 6 ≤ n) (k : ∀ s, LIV s → ra_P (g_Gs n f) g_sh b0 (d + 12) g_law 2079 (lwL v4) [] s Q) : ra_P (g_Gs n f) g_sh (b0 + 1) (d + 12) g_law 437 (lwL v4) [] σ Q := by
  unfold lwL
  have hLc := hL.1
  have hLr := hL.2.1
  refine ra_load lc_437 rfl rfl rfl ?_
  refine ra_load lc_438 rfl rfl rfl ?_
  refine ra_load lc_439 rfl rfl rfl ?_
  refine ra_iconst lc_441 ?_
  refine ra_iadd lc_442 ?_
  refine ra_sld lc_443 rfl (show n ≤ 2147483647 by omega) (by first | omega | (unfold ra_in at *; omega)) (show (v4 + (1)) < (n : Int) by omega) ?_
  refine ra_gen (fun z1 hz1 => ?_)
  refine ra_load lc_444 rfl rfl rfl ?_
  refine ra_call (b1 := 1) (b2 := b0) lc_445 (ct_342 rfl lk_9_168 (Or.inl rfl) (Nat.le_of_ble_eq_true rfl)) (sp_342 hz1 hLc) (fun t s2 h => ?_) (by omega) (fun E s2 h => by obtain ⟨⟨z, -, e⟩, -⟩ := h; cases e)
  obtain ⟨⟨z3, hz3, e⟩, hC⟩ := h
  cases e
  have hLr1 := RF_c hC hLr
  refine ra_store (L' := [_, _, _, _, _, _, _, _, _]) lc_448 rfl rfl (Nat.le_of_ble_eq_true rfl) rfl ?_
  refine ra_load lc_450 rfl rfl rfl ?_
  refine ra_load lc_451 rfl rfl rfl ?_
  refine ra_load lc_452 rfl rfl rfl ?_
  refine ra_iconst lc_454 ?_
  refine ra_iadd lc_455 ?_
  refine ra_sld lc_456 rfl (show n ≤ 2147483647 by omega) (by first | omega | (unfold ra_in at *; omega)) (show (v4 + (1)) < (n : Int) by omega) ?_
  refine ra_gen (fun z4 hz4 => ?_)
  refine ra_cI (sp_266 hz4 hLr1.1) lc_457 (ct_266 rfl lk_9_173 (Or.inl rfl) sh_179 (Nat.le_of_ble_eq_true rfl)) (fun z6 s5 hz6 hs5 => ?_)
  have hR := (rh_q hLr1 hs5)
  refine ra_store (L' := [_, _, _, _, _, _, _, _, _]) lc_460 rfl rfl (Nat.le_of_ble_eq_true rfl) rfl ?_
  refine ra_goto lc_462 rfl ?_
  exact ra_P_mono (ra_weak (by repeat' constructor) (k _ (liv_e hL hC hR))) (fun _ _ h => h) (by omega)
theorem op_6 {n : Nat} {f : Nat → Int32} {d b0 : Nat} {σ : ra_V} {v4 : Int} {Q : ra_Q} (hn : n ≤ 3072) (hL : LIV σ) (h0 : 0 ≤ v4) (h1 : v4 + 6 ≤ n) (k : ∀ s, LIV s → ra_P (g_Gs n f) g_sh b0 (d + 12) g_law 2079 (lwL v4) [] s Q) : ra_P (g_Gs n f) g_sh (b0 + 1) (d + 12) g_law 465 (lwL v4) [] σ Q := by
  unfold lwL
  have hLc := hL.1
  have hLr := hL.2.1
  refine ra_load lc_465 rfl rfl rfl ?_
  refine ra_load lc_466 rfl rfl rfl ?_
  refine ra_load lc_467 rfl rfl rfl ?_
  refine ra_iconst lc_469 ?_
  refine ra_iadd lc_470 ?_
  refine ra_sld lc_471 rfl (show n ≤ 2147483647 by omega) (by first | omega | (unfold ra_in at *; omega)) (show (v4 + (1)) < (n : Int) by omega) ?_
  refine ra_gen (fun z1 hz1 => ?_)
  refine ra_load lc_472 rfl rfl rfl ?_
  refine ra_load lc_473 rfl rfl rfl ?_
  refine ra_iconst lc_475 ?_
  refine ra_iadd lc_476 ?_
  refine ra_sld lc_477 rfl (show n ≤ 2147483647 by omega) (by first | omega | (unfold ra_in at *; omega)) (show (v4 + (2)) < (n : Int) by omega) ?_
  refine ra_gen (fun z2 hz2 => ?_)
  refine ra_load lc_478 rfl rfl rfl ?_
  refine ra_call (b1 := 1) (b2 := b0) lc_479 (ct_343 rfl lk_9_174 (Or.inl rfl) (Nat.le_of_ble_eq_true rfl)) (sp_343 hz1 hz2 hLc) (fun t s3 h => ?_) (by omega) (fun E s3 h => by obtain ⟨⟨z, -, e⟩, -⟩ := h; cases e)
  obtain ⟨⟨z4, hz4, e⟩, hC⟩ := h
  cases e
  have hLr1 := RF_c hC hLr
  refine ra_store (L' := [_, _, _, _, _, _, _, _, _]) lc_482 rfl rfl (Nat.le_of_ble_eq_true rfl) rfl ?_
  refine ra_load lc_484 rfl rfl rfl ?_
  refine ra_load lc_485 rfl rfl rfl ?_
  refine ra_load lc_486 rfl rfl rfl ?_
  refine ra_iconst lc_488 ?_
  refine ra_iadd lc_489 ?_
  refine ra_sld lc_490 rfl (show n ≤ 2147483647 by omega) (by first | omega | (unfold ra_in at *; omega)) (show (v4 + (1)) < (n : Int) by omega) ?_
  refine ra_gen (fun z5 hz5 => ?_)
  refine ra_load lc_491 rfl rfl rfl ?_
  refine ra_load lc_492 rfl rfl rfl ?_
  refine ra_iconst lc_494 ?_
  refine ra_iadd lc_495 ?_
  refine ra_sld lc_496 rfl (show n ≤ 2147483647 by omega) (by first | omega | (unfold ra_in at *; omega)) (show (v4 + (2)) < (n : Int) by omega) ?_
  refine ra_gen (fun z6 hz6 => ?_)
  refine ra_cI (sp_268 hz5 hz6 hLr1.1) lc_497 (ct_268 rfl lk_9_177 (Or.inl rfl) sh_179 (Nat.le_of_ble_eq_true rfl)) (fun z8 s7 hz8 hs7 => ?_)
  have hR := (rh_q hLr1 hs7)
  refine ra_store (L' := [_, _, _, _, _, _, _, _, _]) lc_500 rfl rfl (Nat.le_of_ble_eq_true rfl) rfl ?_
  refine ra_goto lc_502 rfl ?_
  exact ra_P_mono (ra_weak (by repeat' constructor) (k _ (liv_e hL hC hR))) (fun _ _ h => h) (by omega)
theorem op_7 {n : Nat} {f : Nat → Int32} {d b0 : Nat} {σ : ra_V} {v4 : Int} {Q : ra_Q} (hn : n ≤ 3072) (hL : LIV σ) (h0 : 0 ≤ v4) (h1 : v4 + 6 ≤ n) (k : ∀ s, LIV s → ra_P (g_Gs n f) g_sh b0 (d + 12) g_law 2079 (lwL v4) [] s Q) : ra_P (g_Gs n f) g_sh (b0 + 1) (d + 12) g_law 505 (lwL v4) [] σ Q := by
  unfold lwL
  have hLc := hL.1
  have hLr := hL.2.1
  refine ra_load lc_505 rfl rfl rfl ?_
  refine ra_load lc_506 rfl rfl rfl ?_
  refine ra_load lc_507 rfl rfl rfl ?_
  refine ra_iconst lc_509 ?_
  refine ra_iadd lc_510 ?_
  refine ra_sld lc_511 rfl (show n ≤ 2147483647 by omega) (by first | omega | (unfold ra_in at *; omega)) (show (v4 + (1)) < (n : Int) by omega) ?_
  refine ra_gen (fun z1 hz1 => ?_)
  refine ra_load lc_512 rfl rfl rfl ?_
  refine ra_call (b1 := 1) (b2 := b0) lc_513 (ct_344 rfl lk_9_178 (Or.inl rfl) (Nat.le_of_ble_eq_true rfl)) (sp_344 hz1 hLc) (fun t s2 h => ?_) (by omega) (fun E s2 h => by obtain ⟨⟨z, -, e⟩, -⟩ := h; cases e)
  obtain ⟨⟨z3, hz3, e⟩, hC⟩ := h
  cases e
  have hLr1 := RF_c hC hLr
  refine ra_store (L' := [_, _, _, _, _, _, _, _, _]) lc_516 rfl rfl (Nat.le_of_ble_eq_true rfl) rfl ?_
  refine ra_load lc_518 rfl rfl rfl ?_
  refine ra_load lc_519 rfl rfl rfl ?_
  refine ra_load lc_520 rfl rfl rfl ?_
  refine ra_iconst lc_522 ?_
  refine ra_iadd lc_523 ?_
  refine ra_sld lc_524 rfl (show n ≤ 2147483647 by omega) (by first | omega | (unfold ra_in at *; omega)) (show (v4 + (1)) < (n : Int) by omega) ?_
  refine ra_gen (fun z4 hz4 => ?_)
  refine ra_cI (sp_270 hz4 hLr1.1) lc_525 (ct_270 rfl lk_9_180 (Or.inl rfl) sh_179 (Nat.le_of_ble_eq_true rfl)) (fun z6 s5 hz6 hs5 => ?_)
  have hR := (rh_q hLr1 hs5)
  refine ra_store (L' := [_, _, _, _, _, _, _, _, _]) lc_528 rfl rfl (Nat.le_of_ble_eq_true rfl) rfl ?_
  refine ra_goto lc_530 rfl ?_
  exact ra_P_mono (ra_weak (by repeat' constructor) (k _ (liv_e hL hC hR))) (fun _ _ h => h) (by omega)
theorem op_8 {n : Nat} {f : Nat → Int32} {d b0 : Nat} {σ : ra_V} {v4 : Int} {Q : ra_Q} (hn : n ≤ 3072) (hL : LIV σ) (h0 : 0 ≤ v4) (h1 : v4 + 6 ≤ n) (k : ∀ s, LIV s → ra_P (g_Gs n f) g_sh b0 (d + 12) g_law 2079 (lwL v4) [] s Q) : ra_P (g_Gs n f) g_sh (b0 + 1) (d + 12) g_law 533 (lwL v4) [] σ Q := by
  unfold lwL
  have hLc := hL.1
  have hLr := hL.2.1
  refine ra_load lc_533 rfl rfl rfl ?_
  refine ra_load lc_534 rfl rfl rfl ?_
  refine ra_load lc_535 rfl rfl rfl ?_
  refine ra_iconst lc_537 ?_
  refine ra_iadd lc_538 ?_
  refine ra_sld lc_539 rfl (show n ≤ 2147483647 by omega) (by first | omega | (unfold ra_in at *; omega)) (show (v4 + (1)) < (n : Int) by omega) ?_
  refine ra_gen (fun z1 hz1 => ?_)
  refine ra_load lc_540 rfl rfl rfl ?_
  refine ra_call (b1 := 1) (b2 := b0) lc_541 (ct_345 rfl lk_9_181 (Or.inl rfl) (Nat.le_of_ble_eq_true rfl)) (sp_345 hz1 hLc) (fun t s2 h => ?_) (by omega) (fun E s2 h => by obtain ⟨⟨z, -, e⟩, -⟩ := h; cases e)
  obtain ⟨⟨z3, hz3, e⟩, hC⟩ := h
  cases e
  have hLr1 := RF_c hC hLr
  refine ra_store (L' := [_, _, _, _, _, _, _, _, _]) lc_544 rfl rfl (Nat.le_of_ble_eq_true rfl) rfl ?_
  refine ra_load lc_546 rfl rfl rfl ?_
  refine ra_load lc_547 rfl rfl rfl ?_
  refine ra_load lc_548 rfl rfl rfl ?_
  refine ra_iconst lc_550 ?_
  refine ra_iadd lc_551 ?_
  refine ra_sld lc_552 rfl (show n ≤ 2147483647 by omega) (by first | omega | (unfold ra_in at *; omega)) (show (v4 + (1)) < (n : Int) by omega) ?_
  refine ra_gen (fun z4 hz4 => ?_)
  refine ra_cI (sp_272 hz4 hLr1.1) lc_553 (ct_272 rfl lk_9_183 (Or.inl rfl) sh_179 (Nat.le_of_ble_eq_true rfl)) (fun z6 s5 hz6 hs5 => ?_)
  have hR := (rh_q hLr1 hs5)
  refine ra_store (L' := [_, _, _, _, _, _, _, _, _]) lc_556 rfl rfl (Nat.le_of_ble_eq_true rfl) rfl ?_
  refine ra_goto lc_558 rfl ?_
  exact ra_P_mono (ra_weak (by repeat' constructor) (k _ (liv_e hL hC hR))) (fun _ _ h => h) (by omega)
theorem op_9 {n : Nat} {f : Nat → Int32} {d b0 : Nat} {σ : ra_V} {v4 : Int} {Q : ra_Q} (hn : n ≤ 3072) (hL : LIV σ) (h0 : 0 ≤ v4) (h1 : v4 + 6 ≤ n) (k : ∀ s, LIV s → ra_P (g_Gs n f) g_sh b0 (d + 12) g_law 2079 (lwL v4) [] s Q) : ra_P (g_Gs n f) g_sh (b0 + 1) (d + 12) g_law 561 (lwL v4) [] σ Q := by
  unfold lwL
  have hLc := hL.1
  have hLr := hL.2.1
  refine ra_load lc_561 rfl rfl rfl ?_
  refine ra_load lc_562 rfl rfl rfl ?_
  refine ra_load lc_563 rfl rfl rfl ?_
  refine ra_iconst lc_565 ?_
  refine ra_iadd lc_566 ?_
  refine ra_sld lc_567 rfl (show n ≤ 2147483647 by omega) (by first | omega | (unfold ra_in at *; omega)) (show (v4 + (1)) < (n : Int) by omega) ?_
  refine ra_gen (fun z1 hz1 => ?_)
  refine ra_load lc_568 rfl rfl rfl ?_
  refine ra_load lc_569 rfl rfl rfl ?_
  refine ra_iconst lc_571 ?_
  refine ra_iadd lc_572 ?_
  refine ra_sld lc_573 rfl (show n ≤ 2147483647 by omega) (by first | omega | (unfold ra_in at *; omega)) (show (v4 + (2)) < (n : Int) by omega) ?_
  refine ra_gen (fun z2 hz2 => ?_)
  refine ra_load lc_574 rfl rfl rfl ?_
  refine ra_call (b1 := 1) (b2 := b0) lc_575 (ct_346 rfl lk_9_184 (Or.inl rfl) (Nat.le_of_ble_eq_true rfl)) (sp_346 hz1 hz2 hLc) (fun t s3 h => ?_) (by omega) (fun E s3 h => by obtain ⟨⟨z, -, e⟩, -⟩ := h; cases e)
  obtain ⟨⟨z4, hz4, e⟩, hC⟩ := h
  cases e
  have hLr1 := RF_c hC hLr
  refine ra_store (L' := [_, _, _, _, _, _, _, _, _]) lc_578 rfl rfl (Nat.le_of_ble_eq_true rfl) rfl ?_
  refine ra_load lc_580 rfl rfl rfl ?_
  refine ra_load lc_581 rfl rfl rfl ?_
  refine ra_load lc_582 rfl rfl rfl ?_
  refine ra_iconst lc_584 ?_
  refine ra_iadd lc_585 ?_
  refine ra_sld lc_586 rfl (show n ≤ 2147483647 by omega) (by first | omega | (unfold ra_in at *; omega)) (show (v4 + (1)) < (n : Int) by omega) ?_
  refine ra_gen (fun z5 hz5 => ?_)
  refine ra_load lc_587 rfl rfl rfl ?_
  refine ra_load lc_588 rfl rfl rfl ?_
  refine ra_iconst lc_590 ?_
  refine ra_iadd lc_591 ?_
  refine ra_sld lc_592 rfl (show n ≤ 2147483647 by omega) (by first | omega | (unfold ra_in at *; omega)) (show (v4 + (2)) < (n : Int) by omega) ?_
  refine ra_gen (fun z6 hz6 => ?_)
  refine ra_cI (sp_273 hz5 hz6 hLr1.1) lc_593 (ct_273 rfl lk_9_186 (Or.inl rfl) sh_179 (Nat.le_of_ble_eq_true rfl)) (fun z8 s7 hz8 hs7 => ?_)
  have hR := (rh_q hLr1 hs7)
  refine ra_store (L' := [_, _, _, _, _, _, _, _, _]) lc_596 rfl rfl (Nat.le_of_ble_eq_true rfl) rfl ?_
  refine ra_goto lc_598 rfl ?_
  exact ra_P_mono (ra_weak (by repeat' constructor) (k _ (liv_e hL hC hR))) (fun _ _ h => h) (by omega)
theorem op_10 {n : Nat} {f : Nat → Int32} {d b0 : Nat} {σ : ra_V} {v4 : Int} {Q : ra_Q} (hn : n ≤ 3072) (hL : LIV σ) (h0 : 0 ≤ v4) (h1 : v4 + 6 ≤ n) (k : ∀ s, LIV s → ra_P (g_Gs n f) g_sh b0 (d + 12) g_law 2079 (lwL v4) [] s Q) : ra_P (g_Gs n f) g_sh (b0 + 1) (d + 12) g_law 601 (lwL v4) [] σ Q := by
  unfold lwL
  have hLc := hL.1
  have hLr := hL.2.1
  refine ra_load lc_601 rfl rfl rfl ?_
  refine ra_load lc_602 rfl rfl rfl ?_
  refine ra_load lc_603 rfl rfl rfl ?_
  refine ra_iconst lc_605 ?_
  refine ra_iadd lc_606 ?_
  refine ra_sld lc_607 rfl (show n ≤ 2147483647 by omega) (by first | omega | (unfold ra_in at *; omega)) (show (v4 + (1)) < (n : Int) by omega) ?_
  refine ra_gen (fun z1 hz1 => ?_)
  refine ra_load lc_608 rfl rfl rfl ?_
  refine ra_call (b1 := 1) (b2 := b0) lc_609 (ct_347 rfl lk_9_187 (Or.inl rfl) (Nat.le_of_ble_eq_true rfl)) (sp_347 hz1 hLc) (fun t s2 h => ?_) (by omega) (fun E s2 h => by obtain ⟨⟨z, -, e⟩, -⟩ := h; cases e)
  obtain ⟨⟨z3, hz3, e⟩, hC⟩ := h
  cases e
  have hLr1 := RF_c hC hLr
  refine ra_store (L' := [_, _, _, _, _, _, _, _, _]) lc_612 rfl rfl (Nat.le_of_ble_eq_true rfl) rfl ?_
  refine ra_load lc_614 rfl rfl rfl ?_
  refine ra_load lc_615 rfl rfl rfl ?_
  refine ra_load lc_616 rfl rfl rfl ?_
  refine ra_iconst lc_618 ?_
  refine ra_iadd lc_619 ?_
  refine ra_sld lc_620 rfl (show n ≤ 2147483647 by omega) (by first | omega | (unfold ra_in at *; omega)) (show (v4 + (1)) < (n : Int) by omega) ?_
  refine ra_gen (fun z4 hz4 => ?_)
  refine ra_cB (sp_275 hz4 hLr1.1) lc_621 (ct_275 rfl lk_9_189 (Or.inl rfl) sh_179 (Nat.le_of_ble_eq_true rfl)) (fun z6 s5 hz6 hs5 => ?_)
  have hR := (rh_q hLr1 hs5)
  refine ra_store (L' := [_, _, _, _, _, _, _, _, _]) lc_624 rfl rfl (Nat.le_of_ble_eq_true rfl) rfl ?_
  refine ra_goto lc_626 rfl ?_
  exact ra_P_mono (ra_weak (by repeat' constructor) (k _ (liv_e hL hC hR))) (fun _ _ h => h) (by omega)
theorem op_11 {n : Nat} {f : Nat → Int32} {d b0 : Nat} {σ : ra_V} {v4 : Int} {Q : ra_Q} (hn : n ≤ 3072) (hL : LIV σ) (h0 : 0 ≤ v4) (h1 : v4 + 6 ≤ n) (k : ∀ s, LIV s → ra_P (g_Gs n f) g_sh b0 (d + 12) g_law 2079 (lwL v4) [] s Q) : ra_P (g_Gs n f) g_sh (b0 + 1) (d + 12) g_law 629 (lwL v4) [] σ Q := by
  unfold lwL
  have hLc := hL.1
  have hLr := hL.2.1
  refine ra_load lc_629 rfl rfl rfl ?_
  refine ra_load lc_630 rfl rfl rfl ?_
  refine ra_load lc_631 rfl rfl rfl ?_
  refine ra_iconst lc_633 ?_
  refine ra_iadd lc_634 ?_
  refine ra_sld lc_635 rfl (show n ≤ 2147483647 by omega) (by first | omega | (unfold ra_in at *; omega)) (show (v4 + (1)) < (n : Int) by omega) ?_
  refine ra_gen (fun z1 hz1 => ?_)
  refine ra_load lc_636 rfl rfl rfl ?_
  refine ra_call (b1 := 1) (b2 := b0) lc_637 (ct_348 rfl lk_9_190 (Or.inl rfl) (Nat.le_of_ble_eq_true rfl)) (sp_348 hz1 hLc) (fun t s2 h => ?_) (by omega) (fun E s2 h => by obtain ⟨⟨z, -, e⟩, -⟩ := h; cases e)
  obtain ⟨⟨z3, hz3, e⟩, hC⟩ := h
  cases e
  have hLr1 := RF_c hC hLr
  refine ra_store (L' := [_, _, _, _, _, _, _, _, _]) lc_640 rfl rfl (Nat.le_of_ble_eq_true rfl) rfl ?_
  refine ra_load lc_642 rfl rfl rfl ?_
  refine ra_load lc_643 rfl rfl rfl ?_
  refine ra_load lc_644 rfl rfl rfl ?_
  refine ra_iconst lc_646 ?_
  refine ra_iadd lc_647 ?_
  refine ra_sld lc_648 rfl (show n ≤ 2147483647 by omega) (by first | omega | (unfold ra_in at *; omega)) (show (v4 + (1)) < (n : Int) by omega) ?_
  refine ra_gen (fun z4 hz4 => ?_)
  refine ra_cI (sp_279 hz4 hLr1.1) lc_649 (ct_279 rfl lk_9_192 (Or.inl rfl) sh_179 (Nat.le_of_ble_eq_true rfl)) (fun z6 s5 hz6 hs5 => ?_)
  have hR := (rh_q hLr1 hs5)
  refine ra_store (L' := [_, _, _, _, _, _, _, _, _]) lc_652 rfl rfl (Nat.le_of_ble_eq_true rfl) rfl ?_
  refine ra_goto lc_654 rfl ?_
  exact ra_P_mono (ra_weak (by repeat' constructor) (k _ (liv_e hL hC hR))) (fun _ _ h => h) (by omega)
theorem op_12 {n : Nat} {f : Nat → Int32} {d b0 : Nat} {σ : ra_V} {v4 : Int} {Q : ra_Q} (hn : n ≤ 3072) (hL : LIV σ) (h0 : 0 ≤ v4) (h1 : v4 + 6 ≤ n) (k : ∀ s, LIV s → ra_P (g_Gs n f) g_sh b0 (d + 12) g_law 2079 (lwL v4) [] s Q) : ra_P (g_Gs n f) g_sh (b0 + 1) (d + 12) g_law 657 (lwL v4) [] σ Q := by
  unfold lwL
  have hLc := hL.1
  have hLr := hL.2.1
  refine ra_load lc_657 rfl rfl rfl ?_
  refine ra_load lc_658 rfl rfl rfl ?_
  refine ra_load lc_659 rfl rfl rfl ?_
  refine ra_iconst lc_661 ?_
  refine ra_iadd lc_662 ?_
  refine ra_sld lc_663 rfl (show n ≤ 2147483647 by omega) (by first | omega | (unfold ra_in at *; omega)) (show (v4 + (1)) < (n : Int) by omega) ?_
  refine ra_gen (fun z1 hz1 => ?_)
  refine ra_load lc_664 rfl rfl rfl ?_
  refine ra_load lc_665 rfl rfl rfl ?_
  refine ra_iconst lc_667 ?_
  refine ra_iadd lc_668 ?_
  refine ra_sld lc_669 rfl (show n ≤ 2147483647 by omega) (by first | omega | (unfold ra_in at *; omega)) (show (v4 + (2)) < (n : Int) by omega) ?_
  refine ra_gen (fun z2 hz2 => ?_)
  refine ra_load lc_670 rfl rfl rfl ?_
  refine ra_call (b1 := 1) (b2 := b0) lc_671 (ct_349 rfl lk_9_193 (Or.inl rfl) (Nat.le_of_ble_eq_true rfl)) (sp_349 hz1 hz2 hLc) (fun t s3 h => ?_) (by omega) (fun E s3 h => by obtain ⟨⟨z, -, e⟩, -⟩ := h; cases e)
  obtain ⟨⟨z4, hz4, e⟩, hC⟩ := h
  cases e
  have hLr1 := RF_c hC hLr
  refine ra_store (L' := [_, _, _, _, _, _, _, _, _]) lc_674 rfl rfl (Nat.le_of_ble_eq_true rfl) rfl ?_
  refine ra_load lc_676 rfl rfl rfl ?_
  refine ra_load lc_677 rfl rfl rfl ?_
  refine ra_load lc_678 rfl rfl rfl ?_
  refine ra_iconst lc_680 ?_
  refine ra_iadd lc_681 ?_
  refine ra_sld lc_682 rfl (show n ≤ 2147483647 by omega) (by first | omega | (unfold ra_in at *; omega)) (show (v4 + (1)) < (n : Int) by omega) ?_
  refine ra_gen (fun z5 hz5 => ?_)
  refine ra_load lc_683 rfl rfl rfl ?_
  refine ra_load lc_684 rfl rfl rfl ?_
  refine ra_iconst lc_686 ?_
  refine ra_iadd lc_687 ?_
  refine ra_sld lc_688 rfl (show n ≤ 2147483647 by omega) (by first | omega | (unfold ra_in at *; omega)) (show (v4 + (2)) < (n : Int) by omega) ?_
  refine ra_gen (fun z6 hz6 => ?_)
  refine ra_cI (sp_281 hz5 hz6 hLr1.1) lc_689 (ct_281 rfl lk_9_195 (Or.inl rfl) sh_179 (Nat.le_of_ble_eq_true rfl)) (fun z8 s7 hz8 hs7 => ?_)
  have hR := (rh_q hLr1 hs7)
  refine ra_store (L' := [_, _, _, _, _, _, _, _, _]) lc_692 rfl rfl (Nat.le_of_ble_eq_true rfl) rfl ?_
  refine ra_goto lc_694 rfl ?_
  exact ra_P_mono (ra_weak (by repeat' constructor) (k _ (liv_e hL hC hR))) (fun _ _ h => h) (by omega)
theorem op_13 {n : Nat} {f : Nat → Int32} {d b0 : Nat} {σ : ra_V} {v4 : Int} {Q : ra_Q} (hn : n ≤ 3072) (hL : LIV σ) (h0 : 0 ≤ v4) (h1 : v4 + 6 ≤ n) (k : ∀ s, LIV s → ra_P (g_Gs n f) g_sh b0 (d + 12) g_law 2079 (lwL v4) [] s Q) : ra_P (g_Gs n f) g_sh (b0 + 1) (d + 12) g_law 697 (lwL v4) [] σ Q := by
  unfold lwL
  have hLc := hL.1
  have hLr := hL.2.1
  refine ra_load lc_697 rfl rfl rfl ?_
  refine ra_cI (sp_134 ) lc_698 (ct_134 rfl lk_9_196 (Or.inl rfl) sh_0 (Nat.le_of_ble_eq_true rfl)) (fun z2 s1 hz2 hs1 => ?_)
  have hC := (ch_ga hs1 hLc)
  have hLr1 := RF_c hC hLr
  refine ra_pop lc_701 rfl ?_
  refine ra_load lc_702 rfl rfl rfl ?_
  refine ra_cI (sp_283 hLr1.1) lc_703 (ct_283 rfl lk_9_199 (Or.inl rfl) sh_179 (Nat.le_of_ble_eq_true rfl)) (fun z4 s3 hz4 hs3 => ?_)
  have hR := (rh_q hLr1 hs3)
  refine ra_pop lc_706 rfl ?_
  refine ra_goto lc_707 rfl ?_
  exact ra_P_mono (ra_weak (by repeat' constructor) (k _ (liv_e hL hC hR))) (fun _ _ h => h) (by omega)
theorem op_14 {n : Nat} {f : Nat → Int32} {d b0 : Nat} {σ : ra_V} {v4 : Int} {Q : ra_Q} (hn : n ≤ 3072) (hL : LIV σ) (h0 : 0 ≤ v4) (h1 : v4 + 6 ≤ n) (k : ∀ s, LIV s → ra_P (g_Gs n f) g_sh b0 (d + 12) g_law 2079 (lwL v4) [] s Q) : ra_P (g_Gs n f) g_sh (b0 + 1) (d + 12) g_law 710 (lwL v4) [] σ Q := by
  unfold lwL
  have hLc := hL.1
  have hLr := hL.2.1
  refine ra_load lc_710 rfl rfl rfl ?_
  refine ra_load lc_711 rfl rfl rfl ?_
  refine ra_load lc_712 rfl rfl rfl ?_
  refine ra_iconst lc_714 ?_
  refine ra_iadd lc_715 ?_
  refine ra_sld lc_716 rfl (show n ≤ 2147483647 by omega) (by first | omega | (unfold ra_in at *; omega)) (show (v4 + (1)) < (n : Int) by omega) ?_
  refine ra_gen (fun z1 hz1 => ?_)
  refine ra_load lc_717 rfl rfl rfl ?_
  refine ra_load lc_718 rfl rfl rfl ?_
  refine ra_iconst lc_720 ?_
  refine ra_iadd lc_721 ?_
  refine ra_sld lc_722 rfl (show n ≤ 2147483647 by omega) (by first | omega | (unfold ra_in at *; omega)) (show (v4 + (2)) < (n : Int) by omega) ?_
  refine ra_gen (fun z2 hz2 => ?_)
  refine ra_load lc_723 rfl rfl rfl ?_
  refine ra_call (b1 := 1) (b2 := b0) lc_724 (ct_350 rfl lk_9_200 (Or.inl rfl) (Nat.le_of_ble_eq_true rfl)) (sp_350 hz1 hz2 hLc) (fun t s3 h => ?_) (by omega) (fun E s3 h => by obtain ⟨⟨z, -, e⟩, -⟩ := h; cases e)
  obtain ⟨⟨z4, hz4, e⟩, hC⟩ := h
  cases e
  have hLr1 := RF_c hC hLr
  refine ra_store (L' := [_, _, _, _, _, _, _, _, _]) lc_727 rfl rfl (Nat.le_of_ble_eq_true rfl) rfl ?_
  refine ra_load lc_729 rfl rfl rfl ?_
  refine ra_load lc_730 rfl rfl rfl ?_
  refine ra_load lc_731 rfl rfl rfl ?_
  refine ra_iconst lc_733 ?_
  refine ra_iadd lc_734 ?_
  refine ra_sld lc_735 rfl (show n ≤ 2147483647 by omega) (by first | omega | (unfold ra_in at *; omega)) (show (v4 + (1)) < (n : Int) by omega) ?_
  refine ra_gen (fun z5 hz5 => ?_)
  refine ra_load lc_736 rfl rfl rfl ?_
  refine ra_load lc_737 rfl rfl rfl ?_
  refine ra_iconst lc_739 ?_
  refine ra_iadd lc_740 ?_
  refine ra_sld lc_741 rfl (show n ≤ 2147483647 by omega) (by first | omega | (unfold ra_in at *; omega)) (show (v4 + (2)) < (n : Int) by omega) ?_
  refine ra_gen (fun z6 hz6 => ?_)
  refine ra_cI (sp_285 hz5 hz6 hLr1.1) lc_742 (ct_285 rfl lk_9_202 (Or.inl rfl) sh_179 (Nat.le_of_ble_eq_true rfl)) (fun z8 s7 hz8 hs7 => ?_)
  have hR := (rh_q hLr1 hs7)
  refine ra_store (L' := [_, _, _, _, _, _, _, _, _]) lc_745 rfl rfl (Nat.le_of_ble_eq_true rfl) rfl ?_
  refine ra_goto lc_747 rfl ?_
  exact ra_P_mono (ra_weak (by repeat' constructor) (k _ (liv_e hL hC hR))) (fun _ _ h => h) (by omega)
theorem op_15 {n : Nat} {f : Nat → Int32} {d b0 : Nat} {σ : ra_V} {v4 : Int} {Q : ra_Q} (hn : n ≤ 3072) (hL : LIV σ) (h0 : 0 ≤ v4) (h1 : v4 + 6 ≤ n) (k : ∀ s, LIV s → ra_P (g_Gs n f) g_sh b0 (d + 12) g_law 2079 (lwL v4) [] s Q) : ra_P (g_Gs n f) g_sh (b0 + 1) (d + 12) g_law 750 (lwL v4) [] σ Q := by
  unfold lwL
  have hLc := hL.1
  have hLr := hL.2.1
  refine ra_load lc_750 rfl rfl rfl ?_
  refine ra_load lc_751 rfl rfl rfl ?_
  refine ra_load lc_752 rfl rfl rfl ?_
  refine ra_iconst lc_754 ?_
  refine ra_iadd lc_755 ?_
  refine ra_sld lc_756 rfl (show n ≤ 2147483647 by omega) (by first | omega | (unfold ra_in at *; omega)) (show (v4 + (1)) < (n : Int) by omega) ?_
  refine ra_gen (fun z1 hz1 => ?_)
  refine ra_load lc_757 rfl rfl rfl ?_
  refine ra_load lc_758 rfl rfl rfl ?_
  refine ra_iconst lc_760 ?_
  refine ra_iadd lc_761 ?_
  refine ra_sld lc_762 rfl (show n ≤ 2147483647 by omega) (by first | omega | (unfold ra_in at *; omega)) (show (v4 + (2)) < (n : Int) by omega) ?_
  refine ra_gen (fun z2 hz2 => ?_)
  refine ra_cIp (sp_139 hz1 hz2) lc_763 (ct_139 rfl lk_9_203 (Or.inl rfl) sh_0 (Nat.le_of_ble_eq_true rfl)) (fun z4 hz4 => ?_)
  refine ra_pop lc_766 rfl ?_
  refine ra_load lc_767 rfl rfl rfl ?_
  refine ra_load lc_768 rfl rfl rfl ?_
  refine ra_load lc_769 rfl rfl rfl ?_
  refine ra_iconst lc_771 ?_
  refine ra_iadd lc_772 ?_
  refine ra_sld lc_773 rfl (show n ≤ 2147483647 by omega) (by first | omega | (unfold ra_in at *; omega)) (show (v4 + (1)) < (n : Int) by omega) ?_
  refine ra_gen (fun z5 hz5 => ?_)
  refine ra_load lc_774 rfl rfl rfl ?_
  refine ra_load lc_775 rfl rfl rfl ?_
  refine ra_iconst lc_777 ?_
  refine ra_iadd lc_778 ?_
  refine ra_sld lc_779 rfl (show n ≤ 2147483647 by omega) (by first | omega | (unfold ra_in at *; omega)) (show (v4 + (2)) < (n : Int) by omega) ?_
  refine ra_gen (fun z6 hz6 => ?_)
  refine ra_cI (sp_286 hz5 hz6 hLr.1) lc_780 (ct_286 rfl lk_9_206 (Or.inl rfl) sh_179 (Nat.le_of_ble_eq_true rfl)) (fun z8 s7 hz8 hs7 => ?_)
  have hR := (rh_q hLr hs7)
  refine ra_pop lc_783 rfl ?_
  refine ra_goto lc_784 rfl ?_
  exact ra_P_mono (ra_weak (by repeat' constructor) (k _ (liv_e hL (ch_e rfl hLc) hR))) (fun _ _ h => h) (by omega)
theorem op_16 {n : Nat} {f : Nat → Int32} {d b0 : Nat} {σ : ra_V} {v4 : Int} {Q : ra_Q} (hn : n ≤ 3072) (hL : LIV σ) (h0 : 0 ≤ v4) (h1 : v4 + 6 ≤ n) (k : ∀ s, LIV s → ra_P (g_Gs n f) g_sh b0 (d + 12) g_law 2079 (lwL v4) [] s Q) : ra_P (g_Gs n f) g_sh (b0 + 1) (d + 12) g_law 787 (lwL v4) [] σ Q := by
  unfold lwL
  have hLc := hL.1
  have hLr := hL.2.1
  refine ra_load lc_787 rfl rfl rfl ?_
  refine ra_load lc_788 rfl rfl rfl ?_
  refine ra_load lc_789 rfl rfl rfl ?_
  refine ra_iconst lc_791 ?_
  refine ra_iadd lc_792 ?_
  refine ra_sld lc_793 rfl (show n ≤ 2147483647 by omega) (by first | omega | (unfold ra_in at *; omega)) (show (v4 + (1)) < (n : Int) by omega) ?_
  refine ra_gen (fun z1 hz1 => ?_)
  refine ra_load lc_794 rfl rfl rfl ?_
  refine ra_load lc_795 rfl rfl rfl ?_
  refine ra_iconst lc_797 ?_
  refine ra_iadd lc_798 ?_
  refine ra_sld lc_799 rfl (show n ≤ 2147483647 by omega) (by first | omega | (unfold ra_in at *; omega)) (show (v4 + (2)) < (n : Int) by omega) ?_
  refine ra_gen (fun z2 hz2 => ?_)
  refine ra_cIp (sp_127 hz1 hz2) lc_800 (ct_127 rfl lk_9_207 (Or.inl rfl) sh_0 (Nat.le_of_ble_eq_true rfl)) (fun z4 hz4 => ?_)
  refine ra_pop lc_803 rfl ?_
  refine ra_load lc_804 rfl rfl rfl ?_
  refine ra_load lc_805 rfl rfl rfl ?_
  refine ra_load lc_806 rfl rfl rfl ?_
  refine ra_iconst lc_808 ?_
  refine ra_iadd lc_809 ?_
  refine ra_sld lc_810 rfl (show n ≤ 2147483647 by omega) (by first | omega | (unfold ra_in at *; omega)) (show (v4 + (1)) < (n : Int) by omega) ?_
  refine ra_gen (fun z5 hz5 => ?_)
  refine ra_load lc_811 rfl rfl rfl ?_
  refine ra_load lc_812 rfl rfl rfl ?_
  refine ra_iconst lc_814 ?_
  refine ra_iadd lc_815 ?_
  refine ra_sld lc_816 rfl (show n ≤ 2147483647 by omega) (by first | omega | (unfold ra_in at *; omega)) (show (v4 + (2)) < (n : Int) by omega) ?_
  refine ra_gen (fun z6 hz6 => ?_)
  refine ra_cI (sp_287 hz5 hz6 hLr.1) lc_817 (ct_287 rfl lk_9_210 (Or.inl rfl) sh_179 (Nat.le_of_ble_eq_true rfl)) (fun z8 s7 hz8 hs7 => ?_)
  have hR := (rh_q hLr hs7)
  refine ra_pop lc_820 rfl ?_
  refine ra_goto lc_821 rfl ?_
  exact ra_P_mono (ra_weak (by repeat' constructor) (k _ (liv_e hL (ch_e rfl hLc) hR))) (fun _ _ h => h) (by omega)
theorem op_17 {n : Nat} {f : Nat → Int32} {d b0 : Nat} {σ : ra_V} {v4 : Int} {Q : ra_Q} (hn : n ≤ 3072) (hL : LIV σ) (h0 : 0 ≤ v4) (h1 : v4 + 6 ≤ n) (k : ∀ s, LIV s → ra_P (g_Gs n f) g_sh b0 (d + 12) g_law 2079 (lwL v4) [] s Q) : ra_P (g_Gs n f) g_sh (b0 + 1) (d + 12) g_law 824 (lwL v4) [] σ Q := by
  unfold lwL
  have hLc := hL.1
  have hLr := hL.2.1
  refine ra_load lc_824 rfl rfl rfl ?_
  refine ra_load lc_825 rfl rfl rfl ?_
  refine ra_load lc_826 rfl rfl rfl ?_
  refine ra_iconst lc_828 ?_
  refine ra_iadd lc_829 ?_
  refine ra_sld lc_830 rfl (show n ≤ 2147483647 by omega) (by first | omega | (unfold ra_in at *; omega)) (show (v4 + (1)) < (n : Int) by omega) ?_
  refine ra_gen (fun z1 hz1 => ?_)
  refine ra_load lc_831 rfl rfl rfl ?_
  refine ra_load lc_832 rfl rfl rfl ?_
  refine ra_iconst lc_834 ?_
  refine ra_iadd lc_835 ?_
  refine ra_sld lc_836 rfl (show n ≤ 2147483647 by omega) (by first | omega | (unfold ra_in at *; omega)) (show (v4 + (2)) < (n : Int) by omega) ?_
  refine ra_gen (fun z2 hz2 => ?_)
  refine ra_load lc_837 rfl rfl rfl ?_
  refine ra_load lc_838 rfl rfl rfl ?_
  refine ra_iconst lc_840 ?_
  refine ra_iadd lc_841 ?_
  refine ra_sld lc_842 rfl (show n ≤ 2147483647 by omega) (by first | omega | (unfold ra_in at *; omega)) (show (v4 + (3)) < (n : Int) by omega) ?_
  refine ra_gen (fun z3 hz3 => ?_)
  refine ra_load lc_843 rfl rfl rfl ?_
  refine ra_load lc_844 rfl rfl rfl ?_
  refine ra_iconst lc_846 ?_
  refine ra_iadd lc_847 ?_
  refine ra_sld lc_848 rfl (show n ≤ 2147483647 by omega) (by first | omega | (unfold ra_in at *; omega)) (show (v4 + (4)) < (n : Int) by omega) ?_
  refine ra_gen (fun z4 hz4 => ?_)
  refine ra_load lc_849 rfl rfl rfl ?_
  refine ra_call (b1 := 1) (b2 := b0) lc_850 (ct_351 rfl lk_9_211 (Or.inl rfl) (Nat.le_of_ble_eq_true rfl)) (sp_351 hz1 hz2 hz3 hz4 hLc) (fun t s5 h => ?_) (by omega) (fun E s5 h => by obtain ⟨⟨z, -, e⟩, -⟩ := h; cases e)
  obtain ⟨⟨z6, hz6, e⟩, hC⟩ := h
  cases e
  have hLr1 := RF_c hC hLr
  refine ra_store (L' := [_, _, _, _, _, _, _, _, _]) lc_853 rfl rfl (Nat.le_of_ble_eq_true rfl) rfl ?_
  refine ra_load lc_855 rfl rfl rfl ?_
  refine ra_load lc_856 rfl rfl rfl ?_
  refine ra_load lc_857 rfl rfl rfl ?_
  refine ra_iconst lc_859 ?_
  refine ra_iadd lc_860 ?_
  refine ra_sld lc_861 rfl (show n ≤ 2147483647 by omega) (by first | omega | (unfold ra_in at *; omega)) (show (v4 + (1)) < (n : Int) by omega) ?_
  refine ra_gen (fun z7 hz7 => ?_)
  refine ra_load lc_862 rfl rfl rfl ?_
  refine ra_load lc_863 rfl rfl rfl ?_
  refine ra_iconst lc_865 ?_
  refine ra_iadd lc_866 ?_
  refine ra_sld lc_867 rfl (show n ≤ 2147483647 by omega) (by first | omega | (unfold ra_in at *; omega)) (show (v4 + (2)) < (n : Int) by omega) ?_
  refine ra_gen (fun z8 hz8 => ?_)
  refine ra_load lc_868 rfl rfl rfl ?_
  refine ra_load lc_869 rfl rfl rfl ?_
  refine ra_iconst lc_871 ?_
  refine ra_iadd lc_872 ?_
  refine ra_sld lc_873 rfl (show n ≤ 2147483647 by omega) (by first | omega | (unfold ra_in at *; omega)) (show (v4 + (3)) < (n : Int) by omega) ?_
  refine ra_gen (fun z9 hz9 => ?_)
  refine ra_load lc_874 rfl rfl rfl ?_
  refine ra_load lc_875 rfl rfl rfl ?_
  refine ra_iconst lc_877 ?_
  refine ra_iadd lc_878 ?_
  refine ra_sld lc_879 rfl (show n ≤ 2147483647 by omega) (by first | omega | (unfold ra_in at *; omega)) (show (v4 + (4)) < (n : Int) by omega) ?_
  refine ra_gen (fun z10 hz10 => ?_)
  refine ra_cI (sp_296 hz7 hz8 hz9 hz10 hLr1.1 hLr1.2.1) lc_880 (ct_296 rfl lk_9_214 (Or.inl rfl) sh_179 (Nat.le_of_ble_eq_true rfl)) (fun z12 s11 hz12 hs11 => ?_)
  have hR := (rh_m hLr1 hs11)
  refine ra_store (L' := [_, _, _, _, _, _, _, _, _]) lc_883 rfl rfl (Nat.le_of_ble_eq_true rfl) rfl ?_
  refine ra_goto lc_885 rfl ?_
  exact ra_P_mono (ra_weak (by repeat' constructor) (k _ (liv_e hL hC hR))) (fun _ _ h => h) (by omega)
theorem op_18 {n : Nat} {f : Nat → Int32} {d b0 : Nat} {σ : ra_V} {v4 : Int} {Q : ra_Q} (hn : n ≤ 3072) (hL : LIV σ) (h0 : 0 ≤ v4) (h1 : v4 + 6 ≤ n) (k : ∀ s, LIV s → ra_P (g_Gs n f) g_sh b0 (d + 12) g_law 2079 (lwL v4) [] s Q) : ra_P (g_Gs n f) g_sh (b0 + 1) (d + 12) g_law 888 (lwL v4) [] σ Q := by
  unfold lwL
  have hLc := hL.1
  have hLr := hL.2.1
  refine ra_load lc_888 rfl rfl rfl ?_
  refine ra_load lc_889 rfl rfl rfl ?_
  refine ra_load lc_890 rfl rfl rfl ?_
  refine ra_iconst lc_892 ?_
  refine ra_iadd lc_893 ?_
  refine ra_sld lc_894 rfl (show n ≤ 2147483647 by omega) (by first | omega | (unfold ra_in at *; omega)) (show (v4 + (1)) < (n : Int) by omega) ?_
  refine ra_gen (fun z1 hz1 => ?_)
  refine ra_load lc_895 rfl rfl rfl ?_
  refine ra_load lc_896 rfl rfl rfl ?_
  refine ra_iconst lc_898 ?_
  refine ra_iadd lc_899 ?_
  refine ra_sld lc_900 rfl (show n ≤ 2147483647 by omega) (by first | omega | (unfold ra_in at *; omega)) (show (v4 + (2)) < (n : Int) by omega) ?_
  refine ra_gen (fun z2 hz2 => ?_)
  refine ra_load lc_901 rfl rfl rfl ?_
  refine ra_load lc_902 rfl rfl rfl ?_
  refine ra_iconst lc_904 ?_
  refine ra_iadd lc_905 ?_
  refine ra_sld lc_906 rfl (show n ≤ 2147483647 by omega) (by first | omega | (unfold ra_in at *; omega)) (show (v4 + (3)) < (n : Int) by omega) ?_
  refine ra_gen (fun z3 hz3 => ?_)
  refine ra_load lc_907 rfl rfl rfl ?_
  refine ra_load lc_908 rfl rfl rfl ?_
  refine ra_iconst lc_910 ?_
  refine ra_iadd lc_911 ?_
  refine ra_sld lc_912 rfl (show n ≤ 2147483647 by omega) (by first | omega | (unfold ra_in at *; omega)) (show (v4 + (4)) < (n : Int) by omega) ?_
  refine ra_gen (fun z4 hz4 => ?_)
  refine ra_load lc_913 rfl rfl rfl ?_
  refine ra_call (b1 := 1) (b2 := b0) lc_914 (ct_352 rfl lk_9_215 (Or.inl rfl) (Nat.le_of_ble_eq_true rfl)) (sp_352 hz1 hz2 hz3 hz4 hLc) (fun t s5 h => ?_) (by omega) (fun E s5 h => by obtain ⟨⟨z, -, e⟩, -⟩ := h; cases e)
  obtain ⟨⟨z6, hz6, e⟩, hC⟩ := h
  cases e
  have hLr1 := RF_c hC hLr
  refine ra_store (L' := [_, _, _, _, _, _, _, _, _]) lc_917 rfl rfl (Nat.le_of_ble_eq_true rfl) rfl ?_
  refine ra_load lc_919 rfl rfl rfl ?_
  refine ra_load lc_920 rfl rfl rfl ?_
  refine ra_load lc_921 rfl rfl rfl ?_
  refine ra_iconst lc_923 ?_
  refine ra_iadd lc_924 ?_
  refine ra_sld lc_925 rfl (show n ≤ 2147483647 by omega) (by first | omega | (unfold ra_in at *; omega)) (show (v4 + (1)) < (n : Int) by omega) ?_
  refine ra_gen (fun z7 hz7 => ?_)
  refine ra_load lc_926 rfl rfl rfl ?_
  refine ra_load lc_927 rfl rfl rfl ?_
  refine ra_iconst lc_929 ?_
  refine ra_iadd lc_930 ?_
  refine ra_sld lc_931 rfl (show n ≤ 2147483647 by omega) (by first | omega | (unfold ra_in at *; omega)) (show (v4 + (2)) < (n : Int) by omega) ?_
  refine ra_gen (fun z8 hz8 => ?_)
  refine ra_load lc_932 rfl rfl rfl ?_
  refine ra_load lc_933 rfl rfl rfl ?_
  refine ra_iconst lc_935 ?_
  refine ra_iadd lc_936 ?_
  refine ra_sld lc_937 rfl (show n ≤ 2147483647 by omega) (by first | omega | (unfold ra_in at *; omega)) (show (v4 + (3)) < (n : Int) by omega) ?_
  refine ra_gen (fun z9 hz9 => ?_)
  refine ra_load lc_938 rfl rfl rfl ?_
  refine ra_load lc_939 rfl rfl rfl ?_
  refine ra_iconst lc_941 ?_
  refine ra_iadd lc_942 ?_
  refine ra_sld lc_943 rfl (show n ≤ 2147483647 by omega) (by first | omega | (unfold ra_in at *; omega)) (show (v4 + (4)) < (n : Int) by omega) ?_
  refine ra_gen (fun z10 hz10 => ?_)
  refine ra_cI (sp_297 hz7 hz8 hz9 hz10 hLr1.1 hLr1.2.1) lc_944 (ct_297 rfl lk_9_217 (Or.inl rfl) sh_179 (Nat.le_of_ble_eq_true rfl)) (fun z12 s11 hz12 hs11 => ?_)
  have hR := (rh_m hLr1 hs11)
  refine ra_store (L' := [_, _, _, _, _, _, _, _, _]) lc_947 rfl rfl (Nat.le_of_ble_eq_true rfl) rfl ?_
  refine ra_goto lc_949 rfl ?_
  exact ra_P_mono (ra_weak (by repeat' constructor) (k _ (liv_e hL hC hR))) (fun _ _ h => h) (by omega)
theorem op_19 {n : Nat} {f : Nat → Int32} {d b0 : Nat} {σ : ra_V} {v4 : Int} {Q : ra_Q} (hn : n ≤ 3072) (hL : LIV σ) (h0 : 0 ≤ v4) (h1 : v4 + 6 ≤ n) (k : ∀ s, LIV s → ra_P (g_Gs n f) g_sh b0 (d + 12) g_law 2079 (lwL v4) [] s Q) : ra_P (g_Gs n f) g_sh (b0 + 1) (d + 12) g_law 952 (lwL v4) [] σ Q := by
  unfold lwL
  have hLc := hL.1
  have hLr := hL.2.1
  refine ra_load lc_952 rfl rfl rfl ?_
  refine ra_load lc_953 rfl rfl rfl ?_
  refine ra_load lc_954 rfl rfl rfl ?_
  refine ra_iconst lc_956 ?_
  refine ra_iadd lc_957 ?_
  refine ra_sld lc_958 rfl (show n ≤ 2147483647 by omega) (by first | omega | (unfold ra_in at *; omega)) (show (v4 + (1)) < (n : Int) by omega) ?_
  refine ra_gen (fun z1 hz1 => ?_)
  refine ra_load lc_959 rfl rfl rfl ?_
  refine ra_call (b1 := 1) (b2 := b0) lc_960 (ct_353 rfl lk_9_218 (Or.inl rfl) (Nat.le_of_ble_eq_true rfl)) (sp_353 hz1 hLc) (fun t s2 h => ?_) (by omega) (fun E s2 h => by obtain ⟨⟨z, -, e⟩, -⟩ := h; cases e)
  obtain ⟨⟨z3, hz3, e⟩, hC⟩ := h
  cases e
  have hLr1 := RF_c hC hLr
  refine ra_store (L' := [_, _, _, _, _, _, _, _, _]) lc_963 rfl rfl (Nat.le_of_ble_eq_true rfl) rfl ?_
  refine ra_load lc_965 rfl rfl rfl ?_
  refine ra_load lc_966 rfl rfl rfl ?_
  refine ra_load lc_967 rfl rfl rfl ?_
  refine ra_iconst lc_969 ?_
  refine ra_iadd lc_970 ?_
  refine ra_sld lc_971 rfl (show n ≤ 2147483647 by omega) (by first | omega | (unfold ra_in at *; omega)) (show (v4 + (1)) < (n : Int) by omega) ?_
  refine ra_gen (fun z4 hz4 => ?_)
  refine ra_cI (sp_298 hz4 hLr1.1 hLr1.2.1) lc_972 (ct_298 rfl lk_9_220 (Or.inl rfl) sh_179 (Nat.le_of_ble_eq_true rfl)) (fun z6 s5 hz6 hs5 => ?_)
  have hR := (rh_m hLr1 hs5)
  refine ra_store (L' := [_, _, _, _, _, _, _, _, _]) lc_975 rfl rfl (Nat.le_of_ble_eq_true rfl) rfl ?_
  refine ra_goto lc_977 rfl ?_
  exact ra_P_mono (ra_weak (by repeat' constructor) (k _ (liv_e hL hC hR))) (fun _ _ h => h) (by omega)
theorem op_20 {n : Nat} {f : Nat → Int32} {d b0 : Nat} {σ : ra_V} {v4 : Int} {Q : ra_Q} (hn : n ≤ 3072) (hL : LIV σ) (h0 : 0 ≤ v4) (h1 : v4 + 6 ≤ n) (k : ∀ s, LIV s → ra_P (g_Gs n f) g_sh b0 (d + 12) g_law 2079 (lwL v4) [] s Q) : ra_P (g_Gs n f) g_sh (b0 + 1) (d + 12) g_law 980 (lwL v4) [] σ Q := by
  unfold lwL
  have hLc := hL.1
  have hLr := hL.2.1
  refine ra_load lc_980 rfl rfl rfl ?_
  refine ra_load lc_981 rfl rfl rfl ?_
  refine ra_load lc_982 rfl rfl rfl ?_
  refine ra_iconst lc_984 ?_
  refine ra_iadd lc_985 ?_
  refine ra_sld lc_986 rfl (show n ≤ 2147483647 by omega) (by first | omega | (unfold ra_in at *; omega)) (show (v4 + (1)) < (n : Int) by omega) ?_
  refine ra_gen (fun z1 hz1 => ?_)
  refine ra_load lc_987 rfl rfl rfl ?_
  refine ra_load lc_988 rfl rfl rfl ?_
  refine ra_iconst lc_990 ?_
  refine ra_iadd lc_991 ?_
  refine ra_sld lc_992 rfl (show n ≤ 2147483647 by omega) (by first | omega | (unfold ra_in at *; omega)) (show (v4 + (2)) < (n : Int) by omega) ?_
  refine ra_gen (fun z2 hz2 => ?_)
  refine ra_ifeq lc_993 rfl hz2 (fun h3 => ?_) (fun h3 => ?_)
  · refine ra_iconst lc_1000 ?_
    refine ra_load lc_1001 rfl rfl rfl ?_
    refine ra_call (b1 := 1) (b2 := b0) lc_1002 (ct_354 rfl lk_9_221 (Or.inl rfl) (Nat.le_of_ble_eq_true rfl)) (sp_354 hz1 (Or.inl rfl) hLc) (fun t s4 h => ?_) (by omega) (fun E s4 h => by obtain ⟨⟨z, -, e⟩, -⟩ := h; cases e)
    obtain ⟨⟨z5, hz5, e⟩, hC⟩ := h
    cases e
    have hLr1 := RF_c hC hLr
    refine ra_store (L' := [_, _, _, _, _, _, _, _, _]) lc_1005 rfl rfl (Nat.le_of_ble_eq_true rfl) rfl ?_
    refine ra_load lc_1007 rfl rfl rfl ?_
    refine ra_load lc_1008 rfl rfl rfl ?_
    refine ra_load lc_1009 rfl rfl rfl ?_
    refine ra_iconst lc_1011 ?_
    refine ra_iadd lc_1012 ?_
    refine ra_sld lc_1013 rfl (show n ≤ 2147483647 by omega) (by first | omega | (unfold ra_in at *; omega)) (show (v4 + (1)) < (n : Int) by omega) ?_
    refine ra_gen (fun z6 hz6 => ?_)
    refine ra_load lc_1014 rfl rfl rfl ?_
    refine ra_load lc_1015 rfl rfl rfl ?_
    refine ra_iconst lc_1017 ?_
    refine ra_iadd lc_1018 ?_
    refine ra_sld lc_1019 rfl (show n ≤ 2147483647 by omega) (by first | omega | (unfold ra_in at *; omega)) (show (v4 + (2)) < (n : Int) by omega) ?_
    refine ra_gen (fun z7 hz7 => ?_)
    refine ra_ifeq lc_1020 rfl hz7 (fun h8 => ?_) (fun h8 => ?_)
    · refine ra_iconst lc_1027 ?_
      refine ra_cB (sp_299 hz6 (Or.inl rfl) hLr1.1 hLr1.2.1) lc_1028 (ct_299 rfl lk_9_224 (Or.inl rfl) sh_179 (Nat.le_of_ble_eq_true rfl)) (fun z10 s9 hz10 hs9 => ?_)
      have hR := (rh_m hLr1 hs9)
      refine ra_store (L' := [_, _, _, _, _, _, _, _, _]) lc_1031 rfl rfl (Nat.le_of_ble_eq_true rfl) rfl ?_
      refine ra_goto lc_1033 rfl ?_
      exact ra_P_mono (ra_weak (by repeat' constructor) (k _ (liv_e hL hC hR))) (fun _ _ h => h) (by omega)
    · refine ra_iconst lc_1023 ?_
      refine ra_goto lc_1024 rfl ?_
      refine ra_cB (sp_299 hz6 (Or.inr rfl) hLr1.1 hLr1.2.1) lc_1028 (ct_299 rfl lk_9_224 (Or.inl rfl) sh_179 (Nat.le_of_ble_eq_true rfl)) (fun z12 s11 hz12 hs11 => ?_)
      have hR := (rh_m hLr1 hs11)
      refine ra_store (L' := [_, _, _, _, _, _, _, _, _]) lc_1031 rfl rfl (Nat.le_of_ble_eq_true rfl) rfl ?_
      refine ra_goto lc_1033 rfl ?_
      exact ra_P_mono (ra_weak (by repeat' constructor) (k _ (liv_e hL hC hR))) (fun _ _ h => h) (by omega)
  · refine ra_iconst lc_996 ?_
    refine ra_goto lc_997 rfl ?_
    refine ra_load lc_1001 rfl rfl rfl ?_
    refine ra_call (b1 := 1) (b2 := b0) lc_1002 (ct_354 rfl lk_9_221 (Or.inl rfl) (Nat.le_of_ble_eq_true rfl)) (sp_354 hz1 (Or.inr rfl) hLc) (fun t s13 h => ?_) (by omega) (fun E s13 h => by obtain ⟨⟨z, -, e⟩, -⟩ := h; cases e)
    obtain ⟨⟨z14, hz14, e⟩, hC⟩ := h
    cases e
    have hLr1 := RF_c hC hLr
    refine ra_store (L' := [_, _, _, _, _, _, _, _, _]) lc_1005 rfl rfl (Nat.le_of_ble_eq_true rfl) rfl ?_
    refine ra_load lc_1007 rfl rfl rfl ?_
    refine ra_load lc_1008 rfl rfl rfl ?_
    refine ra_load lc_1009 rfl rfl rfl ?_
    refine ra_iconst lc_1011 ?_
    refine ra_iadd lc_1012 ?_
    refine ra_sld lc_1013 rfl (show n ≤ 2147483647 by omega) (by first | omega | (unfold ra_in at *; omega)) (show (v4 + (1)) < (n : Int) by omega) ?_
    refine ra_gen (fun z15 hz15 => ?_)
    refine ra_load lc_1014 rfl rfl rfl ?_
    refine ra_load lc_1015 rfl rfl rfl ?_
    refine ra_iconst lc_1017 ?_
    refine ra_iadd lc_1018 ?_
    refine ra_sld lc_1019 rfl (show n ≤ 2147483647 by omega) (by first | omega | (unfold ra_in at *; omega)) (show (v4 + (2)) < (n : Int) by omega) ?_
    refine ra_gen (fun z16 hz16 => ?_)
    refine ra_ifeq lc_1020 rfl hz16 (fun h17 => ?_) (fun h17 => ?_)
    · refine ra_iconst lc_1027 ?_
      refine ra_cB (sp_299 hz15 (Or.inl rfl) hLr1.1 hLr1.2.1) lc_1028 (ct_299 rfl lk_9_224 (Or.inl rfl) sh_179 (Nat.le_of_ble_eq_true rfl)) (fun z19 s18 hz19 hs18 => ?_)
      have hR := (rh_m hLr1 hs18)
      refine ra_store (L' := [_, _, _, _, _, _, _, _, _]) lc_1031 rfl rfl (Nat.le_of_ble_eq_true rfl) rfl ?_
      refine ra_goto lc_1033 rfl ?_
      exact ra_P_mono (ra_weak (by repeat' constructor) (k _ (liv_e hL hC hR))) (fun _ _ h => h) (by omega)
    · refine ra_iconst lc_1023 ?_
      refine ra_goto lc_1024 rfl ?_
      refine ra_cB (sp_299 hz15 (Or.inr rfl) hLr1.1 hLr1.2.1) lc_1028 (ct_299 rfl lk_9_224 (Or.inl rfl) sh_179 (Nat.le_of_ble_eq_true rfl)) (fun z21 s20 hz21 hs20 => ?_)
      have hR := (rh_m hLr1 hs20)
      refine ra_store (L' := [_, _, _, _, _, _, _, _, _]) lc_1031 rfl rfl (Nat.le_of_ble_eq_true rfl) rfl ?_
      refine ra_goto lc_1033 rfl ?_
      exact ra_P_mono (ra_weak (by repeat' constructor) (k _ (liv_e hL hC hR))) (fun _ _ h => h) (by omega)
theorem op_21 {n : Nat} {f : Nat → Int32} {d b0 : Nat} {σ : ra_V} {v4 : Int} {Q : ra_Q} (hn : n ≤ 3072) (hL : LIV σ) (h0 : 0 ≤ v4) (h1 : v4 + 6 ≤ n) (k : ∀ s, LIV s → ra_P (g_Gs n f) g_sh b0 (d + 12) g_law 2079 (lwL v4) [] s Q) : ra_P (g_Gs n f) g_sh (b0 + 1) (d + 12) g_law 1036 (lwL v4) [] σ Q := by
  unfold lwL
  have hLc := hL.1
  have hLr := hL.2.1
  refine ra_load lc_1036 rfl rfl rfl ?_
  refine ra_load lc_1037 rfl rfl rfl ?_
  refine ra_load lc_1038 rfl rfl rfl ?_
  refine ra_iconst lc_1040 ?_
  refine ra_iadd lc_1041 ?_
  refine ra_sld lc_1042 rfl (show n ≤ 2147483647 by omega) (by first | omega | (unfold ra_in at *; omega)) (show (v4 + (1)) < (n : Int) by omega) ?_
  refine ra_gen (fun z1 hz1 => ?_)
  refine ra_load lc_1043 rfl rfl rfl ?_
  refine ra_load lc_1044 rfl rfl rfl ?_
  refine ra_iconst lc_1046 ?_
  refine ra_iadd lc_1047 ?_
  refine ra_sld lc_1048 rfl (show n ≤ 2147483647 by omega) (by first | omega | (unfold ra_in at *; omega)) (show (v4 + (2)) < (n : Int) by omega) ?_
  refine ra_gen (fun z2 hz2 => ?_)
  refine ra_load lc_1049 rfl rfl rfl ?_
  refine ra_call (b1 := 1) (b2 := b0) lc_1050 (ct_355 rfl lk_9_225 (Or.inl rfl) (Nat.le_of_ble_eq_true rfl)) (sp_355 hz1 hz2 hLc) (fun t s3 h => ?_) (by omega) (fun E s3 h => by obtain ⟨⟨z, -, e⟩, -⟩ := h; cases e)
  obtain ⟨⟨z4, hz4, e⟩, hC⟩ := h
  cases e
  have hLr1 := RF_c hC hLr
  refine ra_store (L' := [_, _, _, _, _, _, _, _, _]) lc_1053 rfl rfl (Nat.le_of_ble_eq_true rfl) rfl ?_
  refine ra_load lc_1055 rfl rfl rfl ?_
  refine ra_load lc_1056 rfl rfl rfl ?_
  refine ra_load lc_1057 rfl rfl rfl ?_
  refine ra_iconst lc_1059 ?_
  refine ra_iadd lc_1060 ?_
  refine ra_sld lc_1061 rfl (show n ≤ 2147483647 by omega) (by first | omega | (unfold ra_in at *; omega)) (show (v4 + (1)) < (n : Int) by omega) ?_
  refine ra_gen (fun z5 hz5 => ?_)
  refine ra_load lc_1062 rfl rfl rfl ?_
  refine ra_load lc_1063 rfl rfl rfl ?_
  refine ra_iconst lc_1065 ?_
  refine ra_iadd lc_1066 ?_
  refine ra_sld lc_1067 rfl (show n ≤ 2147483647 by omega) (by first | omega | (unfold ra_in at *; omega)) (show (v4 + (2)) < (n : Int) by omega) ?_
  refine ra_gen (fun z6 hz6 => ?_)
  refine ra_cI (sp_302 hz5 hz6 hLr1.1) lc_1068 (ct_302 rfl lk_9_227 (Or.inl rfl) sh_179 (Nat.le_of_ble_eq_true rfl)) (fun z8 s7 hz8 hs7 => ?_)
  have hR := (rh_q hLr1 hs7)
  refine ra_store (L' := [_, _, _, _, _, _, _, _, _]) lc_1071 rfl rfl (Nat.le_of_ble_eq_true rfl) rfl ?_
  refine ra_goto lc_1073 rfl ?_
  exact ra_P_mono (ra_weak (by repeat' constructor) (k _ (liv_e hL hC hR))) (fun _ _ h => h) (by omega)
theorem op_22 {n : Nat} {f : Nat → Int32} {d b0 : Nat} {σ : ra_V} {v4 : Int} {Q : ra_Q} (hn : n ≤ 3072) (hL : LIV σ) (h0 : 0 ≤ v4) (h1 : v4 + 6 ≤ n) (k : ∀ s, LIV s → ra_P (g_Gs n f) g_sh b0 (d + 12) g_law 2079 (lwL v4) [] s Q) : ra_P (g_Gs n f) g_sh (b0 + 1) (d + 12) g_law 1076 (lwL v4) [] σ Q := by
  unfold lwL
  have hLc := hL.1
  have hLr := hL.2.1
  refine ra_load lc_1076 rfl rfl rfl ?_
  refine ra_load lc_1077 rfl rfl rfl ?_
  refine ra_load lc_1078 rfl rfl rfl ?_
  refine ra_iconst lc_1080 ?_
  refine ra_iadd lc_1081 ?_
  refine ra_sld lc_1082 rfl (show n ≤ 2147483647 by omega) (by first | omega | (unfold ra_in at *; omega)) (show (v4 + (1)) < (n : Int) by omega) ?_
  refine ra_gen (fun z1 hz1 => ?_)
  refine ra_load lc_1083 rfl rfl rfl ?_
  refine ra_load lc_1084 rfl rfl rfl ?_
  refine ra_iconst lc_1086 ?_
  refine ra_iadd lc_1087 ?_
  refine ra_sld lc_1088 rfl (show n ≤ 2147483647 by omega) (by first | omega | (unfold ra_in at *; omega)) (show (v4 + (2)) < (n : Int) by omega) ?_
  refine ra_gen (fun z2 hz2 => ?_)
  refine ra_load lc_1089 rfl rfl rfl ?_
  refine ra_call (b1 := 1) (b2 := b0) lc_1090 (ct_356 rfl lk_9_228 (Or.inl rfl) (Nat.le_of_ble_eq_true rfl)) (sp_356 hz1 hz2 hLc) (fun t s3 h => ?_) (by omega) (fun E s3 h => by obtain ⟨⟨z, -, e⟩, -⟩ := h; cases e)
  obtain ⟨⟨z4, hz4, e⟩, hC⟩ := h
  cases e
  have hLr1 := RF_c hC hLr
  refine ra_store (L' := [_, _, _, _, _, _, _, _, _]) lc_1093 rfl rfl (Nat.le_of_ble_eq_true rfl) rfl ?_
  refine ra_load lc_1095 rfl rfl rfl ?_
  refine ra_load lc_1096 rfl rfl rfl ?_
  refine ra_load lc_1097 rfl rfl rfl ?_
  refine ra_iconst lc_1099 ?_
  refine ra_iadd lc_1100 ?_
  refine ra_sld lc_1101 rfl (show n ≤ 2147483647 by omega) (by first | omega | (unfold ra_in at *; omega)) (show (v4 + (1)) < (n : Int) by omega) ?_
  refine ra_gen (fun z5 hz5 => ?_)
  refine ra_load lc_1102 rfl rfl rfl ?_
  refine ra_load lc_1103 rfl rfl rfl ?_
  refine ra_iconst lc_1105 ?_
  refine ra_iadd lc_1106 ?_
  refine ra_sld lc_1107 rfl (show n ≤ 2147483647 by omega) (by first | omega | (unfold ra_in at *; omega)) (show (v4 + (2)) < (n : Int) by omega) ?_
  refine ra_gen (fun z6 hz6 => ?_)
  refine ra_cI (sp_304 hz5 hz6 hLr1.1 hLr1.2.1) lc_1108 (ct_304 rfl lk_9_230 (Or.inl rfl) sh_179 (Nat.le_of_ble_eq_true rfl)) (fun z8 s7 hz8 hs7 => ?_)
  have hR := (rh_m hLr1 hs7)
  refine ra_store (L' := [_, _, _, _, _, _, _, _, _]) lc_1111 rfl rfl (Nat.le_of_ble_eq_true rfl) rfl ?_
  refine ra_goto lc_1113 rfl ?_
  exact ra_P_mono (ra_weak (by repeat' constructor) (k _ (liv_e hL hC hR))) (fun _ _ h => h) (by omega)
theorem op_23 {n : Nat} {f : Nat → Int32} {d b0 : Nat} {σ : ra_V} {v4 : Int} {Q : ra_Q} (hn : n ≤ 3072) (hL : LIV σ) (h0 : 0 ≤ v4) (h1 : v4 + 6 ≤ n) (k : ∀ s, LIV s → ra_P (g_Gs n f) g_sh b0 (d + 12) g_law 2079 (lwL v4) [] s Q) : ra_P (g_Gs n f) g_sh (b0 + 1) (d + 12) g_law 1116 (lwL v4) [] σ Q := by
  unfold lwL
  have hLc := hL.1
  have hLr := hL.2.1
  refine ra_load lc_1116 rfl rfl rfl ?_
  refine ra_load lc_1117 rfl rfl rfl ?_
  refine ra_load lc_1118 rfl rfl rfl ?_
  refine ra_iconst lc_1120 ?_
  refine ra_iadd lc_1121 ?_
  refine ra_sld lc_1122 rfl (show n ≤ 2147483647 by omega) (by first | omega | (unfold ra_in at *; omega)) (show (v4 + (1)) < (n : Int) by omega) ?_
  refine ra_gen (fun z1 hz1 => ?_)
  refine ra_load lc_1123 rfl rfl rfl ?_
  refine ra_load lc_1124 rfl rfl rfl ?_
  refine ra_iconst lc_1126 ?_
  refine ra_iadd lc_1127 ?_
  refine ra_sld lc_1128 rfl (show n ≤ 2147483647 by omega) (by first | omega | (unfold ra_in at *; omega)) (show (v4 + (2)) < (n : Int) by omega) ?_
  refine ra_gen (fun z2 hz2 => ?_)
  refine ra_load lc_1129 rfl rfl rfl ?_
  refine ra_call (b1 := 1) (b2 := b0) lc_1130 (ct_357 rfl lk_9_231 (Or.inl rfl) (Nat.le_of_ble_eq_true rfl)) (sp_357 hz1 hz2 hLc) (fun t s3 h => ?_) (by omega) (fun E s3 h => by obtain ⟨⟨z, -, e⟩, -⟩ := h; cases e)
  obtain ⟨⟨z4, hz4, e⟩, hC⟩ := h
  cases e
  have hLr1 := RF_c hC hLr
  refine ra_store (L' := [_, _, _, _, _, _, _, _, _]) lc_1133 rfl rfl (Nat.le_of_ble_eq_true rfl) rfl ?_
  refine ra_load lc_1135 rfl rfl rfl ?_
  refine ra_load lc_1136 rfl rfl rfl ?_
  refine ra_load lc_1137 rfl rfl rfl ?_
  refine ra_iconst lc_1139 ?_
  refine ra_iadd lc_1140 ?_
  refine ra_sld lc_1141 rfl (show n ≤ 2147483647 by omega) (by first | omega | (unfold ra_in at *; omega)) (show (v4 + (1)) < (n : Int) by omega) ?_
  refine ra_gen (fun z5 hz5 => ?_)
  refine ra_load lc_1142 rfl rfl rfl ?_
  refine ra_load lc_1143 rfl rfl rfl ?_
  refine ra_iconst lc_1145 ?_
  refine ra_iadd lc_1146 ?_
  refine ra_sld lc_1147 rfl (show n ≤ 2147483647 by omega) (by first | omega | (unfold ra_in at *; omega)) (show (v4 + (2)) < (n : Int) by omega) ?_
  refine ra_gen (fun z6 hz6 => ?_)
  refine ra_cI (sp_306 hz5 hz6 hLr1.1 hLr1.2.1) lc_1148 (ct_306 rfl lk_9_233 (Or.inl rfl) sh_179 (Nat.le_of_ble_eq_true rfl)) (fun z8 s7 hz8 hs7 => ?_)
  have hR := (rh_m hLr1 hs7)
  refine ra_store (L' := [_, _, _, _, _, _, _, _, _]) lc_1151 rfl rfl (Nat.le_of_ble_eq_true rfl) rfl ?_
  refine ra_goto lc_1153 rfl ?_
  exact ra_P_mono (ra_weak (by repeat' constructor) (k _ (liv_e hL hC hR))) (fun _ _ h => h) (by omega)
theorem op_24 {n : Nat} {f : Nat → Int32} {d b0 : Nat} {σ : ra_V} {v4 : Int} {Q : ra_Q} (hn : n ≤ 3072) (hL : LIV σ) (h0 : 0 ≤ v4) (h1 : v4 + 6 ≤ n) (k : ∀ s, LIV s → ra_P (g_Gs n f) g_sh b0 (d + 12) g_law 2079 (lwL v4) [] s Q) : ra_P (g_Gs n f) g_sh (b0 + 1) (d + 12) g_law 1156 (lwL v4) [] σ Q := by
  unfold lwL
  have hLc := hL.1
  have hLr := hL.2.1
  refine ra_load lc_1156 rfl rfl rfl ?_
  refine ra_load lc_1157 rfl rfl rfl ?_
  refine ra_load lc_1158 rfl rfl rfl ?_
  refine ra_iconst lc_1160 ?_
  refine ra_iadd lc_1161 ?_
  refine ra_sld lc_1162 rfl (show n ≤ 2147483647 by omega) (by first | omega | (unfold ra_in at *; omega)) (show (v4 + (1)) < (n : Int) by omega) ?_
  refine ra_gen (fun z1 hz1 => ?_)
  refine ra_load lc_1163 rfl rfl rfl ?_
  refine ra_call (b1 := 1) (b2 := b0) lc_1164 (ct_358 rfl lk_9_234 (Or.inl rfl) (Nat.le_of_ble_eq_true rfl)) (sp_358 hz1 hLc) (fun t s2 h => ?_) (by omega) (fun E s2 h => by obtain ⟨⟨z, -, e⟩, -⟩ := h; cases e)
  obtain ⟨⟨z3, hz3, e⟩, hC⟩ := h
  cases e
  have hLr1 := RF_c hC hLr
  refine ra_store (L' := [_, _, _, _, _, _, _, _, _]) lc_1167 rfl rfl (Nat.le_of_ble_eq_true rfl) rfl ?_
  refine ra_load lc_1169 rfl rfl rfl ?_
  refine ra_load lc_1170 rfl rfl rfl ?_
  refine ra_load lc_1171 rfl rfl rfl ?_
  refine ra_iconst lc_1173 ?_
  refine ra_iadd lc_1174 ?_
  refine ra_sld lc_1175 rfl (show n ≤ 2147483647 by omega) (by first | omega | (unfold ra_in at *; omega)) (show (v4 + (1)) < (n : Int) by omega) ?_
  refine ra_gen (fun z4 hz4 => ?_)
  refine ra_cI (sp_307 hz4 hLr1.1) lc_1176 (ct_307 rfl lk_9_236 (Or.inl rfl) sh_179 (Nat.le_of_ble_eq_true rfl)) (fun z6 s5 hz6 hs5 => ?_)
  have hR := (rh_q hLr1 hs5)
  refine ra_store (L' := [_, _, _, _, _, _, _, _, _]) lc_1179 rfl rfl (Nat.le_of_ble_eq_true rfl) rfl ?_
  refine ra_goto lc_1181 rfl ?_
  exact ra_P_mono (ra_weak (by repeat' constructor) (k _ (liv_e hL hC hR))) (fun _ _ h => h) (by omega)
theorem op_25 {n : Nat} {f : Nat → Int32} {d b0 : Nat} {σ : ra_V} {v4 : Int} {Q : ra_Q} (hn : n ≤ 3072) (hL : LIV σ) (h0 : 0 ≤ v4) (h1 : v4 + 6 ≤ n) (k : ∀ s, LIV s → ra_P (g_Gs n f) g_sh b0 (d + 12) g_law 2079 (lwL v4) [] s Q) : ra_P (g_Gs n f) g_sh (b0 + 1) (d + 12) g_law 1184 (lwL v4) [] σ Q := by
  unfold lwL
  have hLc := hL.1
  have hLr := hL.2.1
  refine ra_load lc_1184 rfl rfl rfl ?_
  refine ra_load lc_1185 rfl rfl rfl ?_
  refine ra_load lc_1186 rfl rfl rfl ?_
  refine ra_iconst lc_1188 ?_
  refine ra_iadd lc_1189 ?_
  refine ra_sld lc_1190 rfl (show n ≤ 2147483647 by omega) (by first | omega | (unfold ra_in at *; omega)) (show (v4 + (1)) < (n : Int) by omega) ?_
  refine ra_gen (fun z1 hz1 => ?_)
  refine ra_load lc_1191 rfl rfl rfl ?_
  refine ra_load lc_1192 rfl rfl rfl ?_
  refine ra_iconst lc_1194 ?_
  refine ra_iadd lc_1195 ?_
  refine ra_sld lc_1196 rfl (show n ≤ 2147483647 by omega) (by first | omega | (unfold ra_in at *; omega)) (show (v4 + (2)) < (n : Int) by omega) ?_
  refine ra_gen (fun z2 hz2 => ?_)
  refine ra_load lc_1197 rfl rfl rfl ?_
  refine ra_call (b1 := 1) (b2 := b0) lc_1198 (ct_359 rfl lk_9_237 (Or.inl rfl) (Nat.le_of_ble_eq_true rfl)) (sp_359 hz1 hz2 hLc) (fun t s3 h => ?_) (by omega) (fun E s3 h => by obtain ⟨⟨z, -, e⟩, -⟩ := h; cases e)
  obtain ⟨⟨z4, hz4, e⟩, hC⟩ := h
  cases e
  have hLr1 := RF_c hC hLr
  refine ra_store (L' := [_, _, _, _, _, _, _, _, _]) lc_1201 rfl rfl (Nat.le_of_ble_eq_true rfl) rfl ?_
  refine ra_load lc_1203 rfl rfl rfl ?_
  refine ra_load lc_1204 rfl rfl rfl ?_
  refine ra_load lc_1205 rfl rfl rfl ?_
  refine ra_iconst lc_1207 ?_
  refine ra_iadd lc_1208 ?_
  refine ra_sld lc_1209 rfl (show n ≤ 2147483647 by omega) (by first | omega | (unfold ra_in at *; omega)) (show (v4 + (1)) < (n : Int) by omega) ?_
  refine ra_gen (fun z5 hz5 => ?_)
  refine ra_load lc_1210 rfl rfl rfl ?_
  refine ra_load lc_1211 rfl rfl rfl ?_
  refine ra_iconst lc_1213 ?_
  refine ra_iadd lc_1214 ?_
  refine ra_sld lc_1215 rfl (show n ≤ 2147483647 by omega) (by first | omega | (unfold ra_in at *; omega)) (show (v4 + (2)) < (n : Int) by omega) ?_
  refine ra_gen (fun z6 hz6 => ?_)
  refine ra_cI (sp_314 hz5 hz6 hLr1.1 hLr1.2.1) lc_1216 (ct_314 rfl lk_9_239 (Or.inl rfl) sh_179 (Nat.le_of_ble_eq_true rfl)) (fun z8 s7 hz8 hs7 => ?_)
  have hR := (rh_m hLr1 hs7)
  refine ra_store (L' := [_, _, _, _, _, _, _, _, _]) lc_1219 rfl rfl (Nat.le_of_ble_eq_true rfl) rfl ?_
  refine ra_goto lc_1221 rfl ?_
  exact ra_P_mono (ra_weak (by repeat' constructor) (k _ (liv_e hL hC hR))) (fun _ _ h => h) (by omega)
theorem op_26 {n : Nat} {f : Nat → Int32} {d b0 : Nat} {σ : ra_V} {v4 : Int} {Q : ra_Q} (hn : n ≤ 3072) (hL : LIV σ) (h0 : 0 ≤ v4) (h1 : v4 + 6 ≤ n) (k : ∀ s, LIV s → ra_P (g_Gs n f) g_sh b0 (d + 12) g_law 2079 (lwL v4) [] s Q) : ra_P (g_Gs n f) g_sh (b0 + 1) (d + 12) g_law 1224 (lwL v4) [] σ Q := by
  unfold lwL
  have hLc := hL.1
  have hLr := hL.2.1
  refine ra_load lc_1224 rfl rfl rfl ?_
  refine ra_load lc_1225 rfl rfl rfl ?_
  refine ra_load lc_1226 rfl rfl rfl ?_
  refine ra_iconst lc_1228 ?_
  refine ra_iadd lc_1229 ?_
  refine ra_sld lc_1230 rfl (show n ≤ 2147483647 by omega) (by first | omega | (unfold ra_in at *; omega)) (show (v4 + (1)) < (n : Int) by omega) ?_
  refine ra_gen (fun z1 hz1 => ?_)
  refine ra_load lc_1231 rfl rfl rfl ?_
  refine ra_load lc_1232 rfl rfl rfl ?_
  refine ra_iconst lc_1234 ?_
  refine ra_iadd lc_1235 ?_
  refine ra_sld lc_1236 rfl (show n ≤ 2147483647 by omega) (by first | omega | (unfold ra_in at *; omega)) (show (v4 + (2)) < (n : Int) by omega) ?_
  refine ra_gen (fun z2 hz2 => ?_)
  refine ra_load lc_1237 rfl rfl rfl ?_
  refine ra_call (b1 := 1) (b2 := b0) lc_1238 (ct_360 rfl lk_9_240 (Or.inl rfl) (Nat.le_of_ble_eq_true rfl)) (sp_360 hz1 hz2 hLc) (fun t s3 h => ?_) (by omega) (fun E s3 h => by obtain ⟨⟨z, -, e⟩, -⟩ := h; cases e)
  obtain ⟨⟨z4, hz4, e⟩, hC⟩ := h
  cases e
  have hLr1 := RF_c hC hLr
  refine ra_store (L' := [_, _, _, _, _, _, _, _, _]) lc_1241 rfl rfl (Nat.le_of_ble_eq_true rfl) rfl ?_
  refine ra_load lc_1243 rfl rfl rfl ?_
  refine ra_load lc_1244 rfl rfl rfl ?_
  refine ra_load lc_1245 rfl rfl rfl ?_
  refine ra_iconst lc_1247 ?_
  refine ra_iadd lc_1248 ?_
  refine ra_sld lc_1249 rfl (show n ≤ 2147483647 by omega) (by first | omega | (unfold ra_in at *; omega)) (show (v4 + (1)) < (n : Int) by omega) ?_
  refine ra_gen (fun z5 hz5 => ?_)
  refine ra_load lc_1250 rfl rfl rfl ?_
  refine ra_load lc_1251 rfl rfl rfl ?_
  refine ra_iconst lc_1253 ?_
  refine ra_iadd lc_1254 ?_
  refine ra_sld lc_1255 rfl (show n ≤ 2147483647 by omega) (by first | omega | (unfold ra_in at *; omega)) (show (v4 + (2)) < (n : Int) by omega) ?_
  refine ra_gen (fun z6 hz6 => ?_)
  refine ra_cI (sp_315 hz5 hz6 hLr1.1) lc_1256 (ct_315 rfl lk_9_242 (Or.inl rfl) sh_179 (Nat.le_of_ble_eq_true rfl)) (fun z8 s7 hz8 hs7 => ?_)
  have hR := (rh_q hLr1 hs7)
  refine ra_store (L' := [_, _, _, _, _, _, _, _, _]) lc_1259 rfl rfl (Nat.le_of_ble_eq_true rfl) rfl ?_
  refine ra_goto lc_1261 rfl ?_
  exact ra_P_mono (ra_weak (by repeat' constructor) (k _ (liv_e hL hC hR))) (fun _ _ h => h) (by omega)
theorem op_27 {n : Nat} {f : Nat → Int32} {d b0 : Nat} {σ : ra_V} {v4 : Int} {Q : ra_Q} (hn : n ≤ 3072) (hL : LIV σ) (h0 : 0 ≤ v4) (h1 : v4 + 6 ≤ n) (k : ∀ s, LIV s → ra_P (g_Gs n f) g_sh b0 (d + 12) g_law 2079 (lwL v4) [] s Q) : ra_P (g_Gs n f) g_sh (b0 + 1) (d + 12) g_law 1264 (lwL v4) [] σ Q := by
  unfold lwL
  have hLc := hL.1
  have hLr := hL.2.1
  refine ra_load lc_1264 rfl rfl rfl ?_
  refine ra_load lc_1265 rfl rfl rfl ?_
  refine ra_load lc_1266 rfl rfl rfl ?_
  refine ra_iconst lc_1268 ?_
  refine ra_iadd lc_1269 ?_
  refine ra_sld lc_1270 rfl (show n ≤ 2147483647 by omega) (by first | omega | (unfold ra_in at *; omega)) (show (v4 + (1)) < (n : Int) by omega) ?_
  refine ra_gen (fun z1 hz1 => ?_)
  refine ra_load lc_1271 rfl rfl rfl ?_
  refine ra_load lc_1272 rfl rfl rfl ?_
  refine ra_iconst lc_1274 ?_
  refine ra_iadd lc_1275 ?_
  refine ra_sld lc_1276 rfl (show n ≤ 2147483647 by omega) (by first | omega | (unfold ra_in at *; omega)) (show (v4 + (2)) < (n : Int) by omega) ?_
  refine ra_gen (fun z2 hz2 => ?_)
  refine ra_load lc_1277 rfl rfl rfl ?_
  refine ra_call (b1 := 1) (b2 := b0) lc_1278 (ct_361 rfl lk_9_243 (Or.inl rfl) (Nat.le_of_ble_eq_true rfl)) (sp_361 hz1 hz2 hLc) (fun t s3 h => ?_) (by omega) (fun E s3 h => by obtain ⟨⟨z, -, e⟩, -⟩ := h; cases e)
  obtain ⟨⟨z4, hz4, e⟩, hC⟩ := h
  cases e
  have hLr1 := RF_c hC hLr
  refine ra_store (L' := [_, _, _, _, _, _, _, _, _]) lc_1281 rfl rfl (Nat.le_of_ble_eq_true rfl) rfl ?_
  refine ra_load lc_1283 rfl rfl rfl ?_
  refine ra_load lc_1284 rfl rfl rfl ?_
  refine ra_load lc_1285 rfl rfl rfl ?_
  refine ra_iconst lc_1287 ?_
  refine ra_iadd lc_1288 ?_
  refine ra_sld lc_1289 rfl (show n ≤ 2147483647 by omega) (by first | omega | (unfold ra_in at *; omega)) (show (v4 + (1)) < (n : Int) by omega) ?_
  refine ra_gen (fun z5 hz5 => ?_)
  refine ra_load lc_1290 rfl rfl rfl ?_
  refine ra_load lc_1291 rfl rfl rfl ?_
  refine ra_iconst lc_1293 ?_
  refine ra_iadd lc_1294 ?_
  refine ra_sld lc_1295 rfl (show n ≤ 2147483647 by omega) (by first | omega | (unfold ra_in at *; omega)) (show (v4 + (2)) < (n : Int) by omega) ?_
  refine ra_gen (fun z6 hz6 => ?_)
  refine ra_cI (sp_316 hz5 hz6 hLr1.1) lc_1296 (ct_316 rfl lk_9_245 (Or.inl rfl) sh_179 (Nat.le_of_ble_eq_true rfl)) (fun z8 s7 hz8 hs7 => ?_)
  have hR := (rh_q hLr1 hs7)
  refine ra_store (L' := [_, _, _, _, _, _, _, _, _]) lc_1299 rfl rfl (Nat.le_of_ble_eq_true rfl) rfl ?_
  refine ra_goto lc_1301 rfl ?_
  exact ra_P_mono (ra_weak (by repeat' constructor) (k _ (liv_e hL hC hR))) (fun _ _ h => h) (by omega)
theorem op_28 {n : Nat} {f : Nat → Int32} {d b0 : Nat} {σ : ra_V} {v4 : Int} {Q : ra_Q} (hn : n ≤ 3072) (hL : LIV σ) (h0 : 0 ≤ v4) (h1 : v4 + 6 ≤ n) (k : ∀ s, LIV s → ra_P (g_Gs n f) g_sh b0 (d + 12) g_law 2079 (lwL v4) [] s Q) : ra_P (g_Gs n f) g_sh (b0 + 1) (d + 12) g_law 1304 (lwL v4) [] σ Q := by
  unfold lwL
  have hLc := hL.1
  have hLr := hL.2.1
  refine ra_load lc_1304 rfl rfl rfl ?_
  refine ra_load lc_1305 rfl rfl rfl ?_
  refine ra_load lc_1306 rfl rfl rfl ?_
  refine ra_iconst lc_1308 ?_
  refine ra_iadd lc_1309 ?_
  refine ra_sld lc_1310 rfl (show n ≤ 2147483647 by omega) (by first | omega | (unfold ra_in at *; omega)) (show (v4 + (1)) < (n : Int) by omega) ?_
  refine ra_gen (fun z1 hz1 => ?_)
  refine ra_load lc_1311 rfl rfl rfl ?_
  refine ra_load lc_1312 rfl rfl rfl ?_
  refine ra_iconst lc_1314 ?_
  refine ra_iadd lc_1315 ?_
  refine ra_sld lc_1316 rfl (show n ≤ 2147483647 by omega) (by first | omega | (unfold ra_in at *; omega)) (show (v4 + (2)) < (n : Int) by omega) ?_
  refine ra_gen (fun z2 hz2 => ?_)
  refine ra_load lc_1317 rfl rfl rfl ?_
  refine ra_call (b1 := 1) (b2 := b0) lc_1318 (ct_362 rfl lk_9_246 (Or.inl rfl) (Nat.le_of_ble_eq_true rfl)) (sp_362 hz1 hz2 hLc) (fun t s3 h => ?_) (by omega) (fun E s3 h => by obtain ⟨⟨z, -, e⟩, -⟩ := h; cases e)
  obtain ⟨⟨z4, hz4, e⟩, hC⟩ := h
  cases e
  have hLr1 := RF_c hC hLr
  refine ra_store (L' := [_, _, _, _, _, _, _, _, _]) lc_1321 rfl rfl (Nat.le_of_ble_eq_true rfl) rfl ?_
  refine ra_load lc_1323 rfl rfl rfl ?_
  refine ra_load lc_1324 rfl rfl rfl ?_
  refine ra_load lc_1325 rfl rfl rfl ?_
  refine ra_iconst lc_1327 ?_
  refine ra_iadd lc_1328 ?_
  refine ra_sld lc_1329 rfl (show n ≤ 2147483647 by omega) (by first | omega | (unfold ra_in at *; omega)) (show (v4 + (1)) < (n : Int) by omega) ?_
  refine ra_gen (fun z5 hz5 => ?_)
  refine ra_load lc_1330 rfl rfl rfl ?_
  refine ra_load lc_1331 rfl rfl rfl ?_
  refine ra_iconst lc_1333 ?_
  refine ra_iadd lc_1334 ?_
  refine ra_sld lc_1335 rfl (show n ≤ 2147483647 by omega) (by first | omega | (unfold ra_in at *; omega)) (show (v4 + (2)) < (n : Int) by omega) ?_
  refine ra_gen (fun z6 hz6 => ?_)
  refine ra_cI (sp_317 hz5 hz6 hLr1.1 hLr1.2.1) lc_1336 (ct_317 rfl lk_9_248 (Or.inl rfl) sh_179 (Nat.le_of_ble_eq_true rfl)) (fun z8 s7 hz8 hs7 => ?_)
  have hR := (rh_m hLr1 hs7)
  refine ra_store (L' := [_, _, _, _, _, _, _, _, _]) lc_1339 rfl rfl (Nat.le_of_ble_eq_true rfl) rfl ?_
  refine ra_goto lc_1341 rfl ?_
  exact ra_P_mono (ra_weak (by repeat' constructor) (k _ (liv_e hL hC hR))) (fun _ _ h => h) (by omega)
theorem op_29 {n : Nat} {f : Nat → Int32} {d b0 : Nat} {σ : ra_V} {v4 : Int} {Q : ra_Q} (hn : n ≤ 3072) (hL : LIV σ) (h0 : 0 ≤ v4) (h1 : v4 + 6 ≤ n) (k : ∀ s, LIV s → ra_P (g_Gs n f) g_sh b0 (d + 12) g_law 2079 (lwL v4) [] s Q) : ra_P (g_Gs n f) g_sh (b0 + 1) (d + 12) g_law 1344 (lwL v4) [] σ Q := by
  unfold lwL
  have hLc := hL.1
  have hLr := hL.2.1
  refine ra_load lc_1344 rfl rfl rfl ?_
  refine ra_load lc_1345 rfl rfl rfl ?_
  refine ra_load lc_1346 rfl rfl rfl ?_
  refine ra_iconst lc_1348 ?_
  refine ra_iadd lc_1349 ?_
  refine ra_sld lc_1350 rfl (show n ≤ 2147483647 by omega) (by first | omega | (unfold ra_in at *; omega)) (show (v4 + (1)) < (n : Int) by omega) ?_
  refine ra_gen (fun z1 hz1 => ?_)
  refine ra_load lc_1351 rfl rfl rfl ?_
  refine ra_call (b1 := 1) (b2 := b0) lc_1352 (ct_363 rfl lk_9_249 (Or.inl rfl) (Nat.le_of_ble_eq_true rfl)) (sp_363 hz1 hLc) (fun t s2 h => ?_) (by omega) (fun E s2 h => by obtain ⟨⟨z, -, e⟩, -⟩ := h; cases e)
  obtain ⟨⟨z3, hz3, e⟩, hC⟩ := h
  cases e
  have hLr1 := RF_c hC hLr
  refine ra_store (L' := [_, _, _, _, _, _, _, _, _]) lc_1355 rfl rfl (Nat.le_of_ble_eq_true rfl) rfl ?_
  refine ra_load lc_1357 rfl rfl rfl ?_
  refine ra_load lc_1358 rfl rfl rfl ?_
  refine ra_load lc_1359 rfl rfl rfl ?_
  refine ra_iconst lc_1361 ?_
  refine ra_iadd lc_1362 ?_
  refine ra_sld lc_1363 rfl (show n ≤ 2147483647 by omega) (by first | omega | (unfold ra_in at *; omega)) (show (v4 + (1)) < (n : Int) by omega) ?_
  refine ra_gen (fun z4 hz4 => ?_)
  refine ra_cI (sp_318 hz4 hLr1.1 hLr1.2.1) lc_1364 (ct_318 rfl lk_9_251 (Or.inl rfl) sh_179 (Nat.le_of_ble_eq_true rfl)) (fun z6 s5 hz6 hs5 => ?_)
  have hR := (rh_m hLr1 hs5)
  refine ra_store (L' := [_, _, _, _, _, _, _, _, _]) lc_1367 rfl rfl (Nat.le_of_ble_eq_true rfl) rfl ?_
  refine ra_goto lc_1369 rfl ?_
  exact ra_P_mono (ra_weak (by repeat' constructor) (k _ (liv_e hL hC hR))) (fun _ _ h => h) (by omega)
theorem op_30 {n : Nat} {f : Nat → Int32} {d b0 : Nat} {σ : ra_V} {v4 : Int} {Q : ra_Q} (hn : n ≤ 3072) (hL : LIV σ) (h0 : 0 ≤ v4) (h1 : v4 + 6 ≤ n) (k : ∀ s, LIV s → ra_P (g_Gs n f) g_sh b0 (d + 12) g_law 2079 (lwL v4) [] s Q) : ra_P (g_Gs n f) g_sh (b0 + 1) (d + 12) g_law 1372 (lwL v4) [] σ Q := by
  unfold lwL
  have hLc := hL.1
  have hLr := hL.2.1
  refine ra_load lc_1372 rfl rfl rfl ?_
  refine ra_load lc_1373 rfl rfl rfl ?_
  refine ra_call (b1 := 1) (b2 := b0) lc_1374 (ct_364 rfl lk_9_252 (Or.inl rfl) (Nat.le_of_ble_eq_true rfl)) (sp_364  hLc) (fun t s1 h => ?_) (by omega) (fun E s1 h => by obtain ⟨⟨z, -, e⟩, -⟩ := h; cases e)
  obtain ⟨⟨z2, hz2, e⟩, hC⟩ := h
  cases e
  have hLr1 := RF_c hC hLr
  refine ra_store (L' := [_, _, _, _, _, _, _, _, _]) lc_1377 rfl rfl (Nat.le_of_ble_eq_true rfl) rfl ?_
  refine ra_load lc_1379 rfl rfl rfl ?_
  refine ra_cI (sp_319 hLr1.1 hLr1.2.1) lc_1380 (ct_319 rfl lk_9_255 (Or.inl rfl) sh_179 (Nat.le_of_ble_eq_true rfl)) (fun z4 s3 hz4 hs3 => ?_)
  have hR := (rh_m hLr1 hs3)
  refine ra_store (L' := [_, _, _, _, _, _, _, _, _]) lc_1383 rfl rfl (Nat.le_of_ble_eq_true rfl) rfl ?_
  refine ra_goto lc_1385 rfl ?_
  exact ra_P_mono (ra_weak (by repeat' constructor) (k _ (liv_e hL hC hR))) (fun _ _ h => h) (by omega)
theorem op_31 {n : Nat} {f : Nat → Int32} {d b0 : Nat} {σ : ra_V} {v4 : Int} {Q : ra_Q} (hn : n ≤ 3072) (hL : LIV σ) (h0 : 0 ≤ v4) (h1 : v4 + 6 ≤ n) (k : ∀ s, LIV s → ra_P (g_Gs n f) g_sh b0 (d + 12) g_law 2079 (lwL v4) [] s Q) : ra_P (g_Gs n f) g_sh (b0 + 1) (d + 12) g_law 1388 (lwL v4) [] σ Q := by
  unfold lwL
  have hLc := hL.1
  have hLr := hL.2.1
  refine ra_load lc_1388 rfl rfl rfl ?_
  refine ra_load lc_1389 rfl rfl rfl ?_
  refine ra_call (b1 := 1) (b2 := b0) lc_1390 (ct_365 rfl lk_9_256 (Or.inl rfl) (Nat.le_of_ble_eq_true rfl)) (sp_365  hLc) (fun t s1 h => ?_) (by omega) (fun E s1 h => by obtain ⟨⟨z, -, e⟩, -⟩ := h; cases e)
  obtain ⟨⟨z2, hz2, e⟩, hC⟩ := h
  cases e
  have hLr1 := RF_c hC hLr
  refine ra_store (L' := [_, _, _, _, _, _, _, _, _]) lc_1393 rfl rfl (Nat.le_of_ble_eq_true rfl) rfl ?_
  refine ra_load lc_1395 rfl rfl rfl ?_
  refine ra_cI (sp_320 hLr1.1 hLr1.2.1) lc_1396 (ct_320 rfl lk_9_258 (Or.inl rfl) sh_179 (Nat.le_of_ble_eq_true rfl)) (fun z4 s3 hz4 hs3 => ?_)
  have hR := (rh_m hLr1 hs3)
  refine ra_store (L' := [_, _, _, _, _, _, _, _, _]) lc_1399 rfl rfl (Nat.le_of_ble_eq_true rfl) rfl ?_
  refine ra_goto lc_1401 rfl ?_
  exact ra_P_mono (ra_weak (by repeat' constructor) (k _ (liv_e hL hC hR))) (fun _ _ h => h) (by omega)
theorem op_32 {n : Nat} {f : Nat → Int32} {d b0 : Nat} {σ : ra_V} {v4 : Int} {Q : ra_Q} (hn : n ≤ 3072) (hL : LIV σ) (h0 : 0 ≤ v4) (h1 : v4 + 6 ≤ n) (k : ∀ s, LIV s → ra_P (g_Gs n f) g_sh b0 (d + 12) g_law 2079 (lwL v4) [] s Q) : ra_P (g_Gs n f) g_sh (b0 + 1) (d + 12) g_law 1404 (lwL v4) [] σ Q := by
  unfold lwL
  have hLc := hL.1
  have hLr := hL.2.1
  refine ra_load lc_1404 rfl rfl rfl ?_
  refine ra_load lc_1405 rfl rfl rfl ?_
  refine ra_load lc_1406 rfl rfl rfl ?_
  refine ra_iconst lc_1408 ?_
  refine ra_iadd lc_1409 ?_
  refine ra_sld lc_1410 rfl (show n ≤ 2147483647 by omega) (by first | omega | (unfold ra_in at *; omega)) (show (v4 + (1)) < (n : Int) by omega) ?_
  refine ra_gen (fun z1 hz1 => ?_)
  refine ra_load lc_1411 rfl rfl rfl ?_
  refine ra_call (b1 := 1) (b2 := b0) lc_1412 (ct_366 rfl lk_9_259 (Or.inl rfl) (Nat.le_of_ble_eq_true rfl)) (sp_366 hz1 hLc) (fun t s2 h => ?_) (by omega) (fun E s2 h => by obtain ⟨⟨z, -, e⟩, -⟩ := h; cases e)
  obtain ⟨⟨z3, hz3, e⟩, hC⟩ := h
  cases e
  have hLr1 := RF_c hC hLr
  refine ra_store (L' := [_, _, _, _, _, _, _, _, _]) lc_1415 rfl rfl (Nat.le_of_ble_eq_true rfl) rfl ?_
  refine ra_load lc_1417 rfl rfl rfl ?_
  refine ra_load lc_1418 rfl rfl rfl ?_
  refine ra_load lc_1419 rfl rfl rfl ?_
  refine ra_iconst lc_1421 ?_
  refine ra_iadd lc_1422 ?_
  refine ra_sld lc_1423 rfl (show n ≤ 2147483647 by omega) (by first | omega | (unfold ra_in at *; omega)) (show (v4 + (1)) < (n : Int) by omega) ?_
  refine ra_gen (fun z4 hz4 => ?_)
  refine ra_cI (sp_321 hz4 hLr1.1) lc_1424 (ct_321 rfl lk_9_261 (Or.inl rfl) sh_179 (Nat.le_of_ble_eq_true rfl)) (fun z6 s5 hz6 hs5 => ?_)
  have hR := (rh_q hLr1 hs5)
  refine ra_store (L' := [_, _, _, _, _, _, _, _, _]) lc_1427 rfl rfl (Nat.le_of_ble_eq_true rfl) rfl ?_
  refine ra_goto lc_1429 rfl ?_
  exact ra_P_mono (ra_weak (by repeat' constructor) (k _ (liv_e hL hC hR))) (fun _ _ h => h) (by omega)
theorem op_33 {n : Nat} {f : Nat → Int32} {d b0 : Nat} {σ : ra_V} {v4 : Int} {Q : ra_Q} (hn : n ≤ 3072) (hL : LIV σ) (h0 : 0 ≤ v4) (h1 : v4 + 6 ≤ n) (k : ∀ s, LIV s → ra_P (g_Gs n f) g_sh b0 (d + 12) g_law 2079 (lwL v4) [] s Q) : ra_P (g_Gs n f) g_sh (b0 + 1) (d + 12) g_law 1432 (lwL v4) [] σ Q := by
  unfold lwL
  have hLc := hL.1
  have hLr := hL.2.1
  refine ra_load lc_1432 rfl rfl rfl ?_
  refine ra_load lc_1433 rfl rfl rfl ?_
  refine ra_load lc_1434 rfl rfl rfl ?_
  refine ra_iconst lc_1436 ?_
  refine ra_iadd lc_1437 ?_
  refine ra_sld lc_1438 rfl (show n ≤ 2147483647 by omega) (by first | omega | (unfold ra_in at *; omega)) (show (v4 + (1)) < (n : Int) by omega) ?_
  refine ra_gen (fun z1 hz1 => ?_)
  refine ra_load lc_1439 rfl rfl rfl ?_
  refine ra_call (b1 := 1) (b2 := b0) lc_1440 (ct_367 rfl lk_9_262 (Or.inl rfl) (Nat.le_of_ble_eq_true rfl)) (sp_367 hz1 hLc) (fun t s2 h => ?_) (by omega) (fun E s2 h => by obtain ⟨⟨z, -, e⟩, -⟩ := h; cases e)
  obtain ⟨⟨z3, hz3, e⟩, hC⟩ := h
  cases e
  have hLr1 := RF_c hC hLr
  refine ra_store (L' := [_, _, _, _, _, _, _, _, _]) lc_1443 rfl rfl (Nat.le_of_ble_eq_true rfl) rfl ?_
  refine ra_load lc_1445 rfl rfl rfl ?_
  refine ra_load lc_1446 rfl rfl rfl ?_
  refine ra_load lc_1447 rfl rfl rfl ?_
  refine ra_iconst lc_1449 ?_
  refine ra_iadd lc_1450 ?_
  refine ra_sld lc_1451 rfl (show n ≤ 2147483647 by omega) (by first | omega | (unfold ra_in at *; omega)) (show (v4 + (1)) < (n : Int) by omega) ?_
  refine ra_gen (fun z4 hz4 => ?_)
  refine ra_cI (sp_326 hz4 hLr1.1) lc_1452 (ct_326 rfl lk_9_264 (Or.inl rfl) sh_179 (Nat.le_of_ble_eq_true rfl)) (fun z6 s5 hz6 hs5 => ?_)
  have hR := (rh_q hLr1 hs5)
  refine ra_store (L' := [_, _, _, _, _, _, _, _, _]) lc_1455 rfl rfl (Nat.le_of_ble_eq_true rfl) rfl ?_
  refine ra_goto lc_1457 rfl ?_
  exact ra_P_mono (ra_weak (by repeat' constructor) (k _ (liv_e hL hC hR))) (fun _ _ h => h) (by omega)
theorem op_34 {n : Nat} {f : Nat → Int32} {d b0 : Nat} {σ : ra_V} {v4 : Int} {Q : ra_Q} (hn : n ≤ 3072) (hL : LIV σ) (h0 : 0 ≤ v4) (h1 : v4 + 6 ≤ n) (k : ∀ s, LIV s → ra_P (g_Gs n f) g_sh b0 (d + 12) g_law 2079 (lwL v4) [] s Q) : ra_P (g_Gs n f) g_sh (b0 + 1) (d + 12) g_law 1460 (lwL v4) [] σ Q := by
  unfold lwL
  have hLc := hL.1
  have hLr := hL.2.1
  refine ra_load lc_1460 rfl rfl rfl ?_
  refine ra_load lc_1461 rfl rfl rfl ?_
  refine ra_call (b1 := 1) (b2 := b0) lc_1462 (ct_368 rfl lk_9_265 (Or.inl rfl) (Nat.le_of_ble_eq_true rfl)) (sp_368  hLc) (fun t s1 h => ?_) (by omega) (fun E s1 h => by obtain ⟨⟨z, -, e⟩, -⟩ := h; cases e)
  obtain ⟨⟨z2, hz2, e⟩, hC⟩ := h
  cases e
  have hLr1 := RF_c hC hLr
  refine ra_store (L' := [_, _, _, _, _, _, _, _, _]) lc_1465 rfl rfl (Nat.le_of_ble_eq_true rfl) rfl ?_
  refine ra_load lc_1467 rfl rfl rfl ?_
  refine ra_cI (sp_329 hLr1.1 hLr1.2.1) lc_1468 (ct_329 rfl lk_9_267 (Or.inl rfl) sh_179 (Nat.le_of_ble_eq_true rfl)) (fun z4 s3 hz4 hs3 => ?_)
  have hR := (rh_m hLr1 hs3)
  refine ra_store (L' := [_, _, _, _, _, _, _, _, _]) lc_1471 rfl rfl (Nat.le_of_ble_eq_true rfl) rfl ?_
  refine ra_goto lc_1473 rfl ?_
  exact ra_P_mono (ra_weak (by repeat' constructor) (k _ (liv_e hL hC hR))) (fun _ _ h => h) (by omega)
theorem op_35 {n : Nat} {f : Nat → Int32} {d b0 : Nat} {σ : ra_V} {v4 : Int} {Q : ra_Q} (hn : n ≤ 3072) (hL : LIV σ) (h0 : 0 ≤ v4) (h1 : v4 + 6 ≤ n) (k : ∀ s, LIV s → ra_P (g_Gs n f) g_sh b0 (d + 12) g_law 2079 (lwL v4) [] s Q) : ra_P (g_Gs n f) g_sh (b0 + 1) (d + 12) g_law 1476 (lwL v4) [] σ Q := by
  unfold lwL
  have hLc := hL.1
  have hLr := hL.2.1
  refine ra_load lc_1476 rfl rfl rfl ?_
  refine ra_cI (sp_168 hLc) lc_1477 (ct_168 rfl lk_9_268 (Or.inl rfl) sh_0 (Nat.le_of_ble_eq_true rfl)) (fun z2 s1 hz2 hs1 => ?_)
  have hC := (ch_op hs1)
  have hLr1 := RF_c hC hLr
  refine ra_pop lc_1480 rfl ?_
  refine ra_load lc_1481 rfl rfl rfl ?_
  refine ra_cI (sp_330 hLr1.1 hLr1.2.1) lc_1482 (ct_330 rfl lk_9_271 (Or.inl rfl) sh_179 (Nat.le_of_ble_eq_true rfl)) (fun z4 s3 hz4 hs3 => ?_)
  have hR := (rh_m hLr1 hs3)
  refine ra_pop lc_1485 rfl ?_
  refine ra_goto lc_1486 rfl ?_
  exact ra_P_mono (ra_weak (by repeat' constructor) (k _ (liv_e hL hC hR))) (fun _ _ h => h) (by omega)
theorem op_36 {n : Nat} {f : Nat → Int32} {d b0 : Nat} {σ : ra_V} {v4 : Int} {Q : ra_Q} (hn : n ≤ 3072) (hL : LIV σ) (h0 : 0 ≤ v4) (h1 : v4 + 6 ≤ n) (k : ∀ s, LIV s → ra_P (g_Gs n f) g_sh b0 (d + 12) g_law 2079 (lwL v4) [] s Q) : ra_P (g_Gs n f) g_sh (b0 + 1) (d + 12) g_law 1489 (lwL v4) [] σ Q := by
  unfold lwL
  have hLc := hL.1
  have hLr := hL.2.1
  refine ra_load lc_1489 rfl rfl rfl ?_
  refine ra_load lc_1490 rfl rfl rfl ?_
  refine ra_load lc_1491 rfl rfl rfl ?_
  refine ra_iconst lc_1493 ?_
  refine ra_iadd lc_1494 ?_
  refine ra_sld lc_1495 rfl (show n ≤ 2147483647 by omega) (by first | omega | (unfold ra_in at *; omega)) (show (v4 + (1)) < (n : Int) by omega) ?_
  refine ra_gen (fun z1 hz1 => ?_)
  refine ra_load lc_1496 rfl rfl rfl ?_
  refine ra_call (b1 := 1) (b2 := b0) lc_1497 (ct_369 rfl lk_9_272 (Or.inl rfl) (Nat.le_of_ble_eq_true rfl)) (sp_369 hz1 hLc) (fun t s2 h => ?_) (by omega) (fun E s2 h => by obtain ⟨⟨z, -, e⟩, -⟩ := h; cases e)
  obtain ⟨⟨z3, hz3, e⟩, hC⟩ := h
  cases e
  have hLr1 := RF_c hC hLr
  refine ra_store (L' := [_, _, _, _, _, _, _, _, _]) lc_1500 rfl rfl (Nat.le_of_ble_eq_true rfl) rfl ?_
  refine ra_load lc_1502 rfl rfl rfl ?_
  refine ra_load lc_1503 rfl rfl rfl ?_
  refine ra_load lc_1504 rfl rfl rfl ?_
  refine ra_iconst lc_1506 ?_
  refine ra_iadd lc_1507 ?_
  refine ra_sld lc_1508 rfl (show n ≤ 2147483647 by omega) (by first | omega | (unfold ra_in at *; omega)) (show (v4 + (1)) < (n : Int) by omega) ?_
  refine ra_gen (fun z4 hz4 => ?_)
  refine ra_cI (sp_331 hz4 hLr1.1) lc_1509 (ct_331 rfl lk_9_274 (Or.inl rfl) sh_179 (Nat.le_of_ble_eq_true rfl)) (fun z6 s5 hz6 hs5 => ?_)
  have hR := (rh_q hLr1 hs5)
  refine ra_store (L' := [_, _, _, _, _, _, _, _, _]) lc_1512 rfl rfl (Nat.le_of_ble_eq_true rfl) rfl ?_
  refine ra_goto lc_1514 rfl ?_
  exact ra_P_mono (ra_weak (by repeat' constructor) (k _ (liv_e hL hC hR))) (fun _ _ h => h) (by omega)
theorem op_37 {n : Nat} {f : Nat → Int32} {d b0 : Nat} {σ : ra_V} {v4 : Int} {Q : ra_Q} (hn : n ≤ 3072) (hL : LIV σ) (h0 : 0 ≤ v4) (h1 : v4 + 6 ≤ n) (k : ∀ s, LIV s → ra_P (g_Gs n f) g_sh b0 (d + 12) g_law 2079 (lwL v4) [] s Q) : ra_P (g_Gs n f) g_sh (b0 + 1) (d + 12) g_law 1517 (lwL v4) [] σ Q := by
  unfold lwL
  have hLc := hL.1
  have hLr := hL.2.1
  refine ra_load lc_1517 rfl rfl rfl ?_
  refine ra_cI (sp_136 ) lc_1518 (ct_136 rfl lk_9_275 (Or.inl rfl) sh_0 (Nat.le_of_ble_eq_true rfl)) (fun z2 s1 hz2 hs1 => ?_)
  have hC := (ch_ga hs1 hLc)
  have hLr1 := RF_c hC hLr
  refine ra_pop lc_1521 rfl ?_
  refine ra_load lc_1522 rfl rfl rfl ?_
  refine ra_cI (sp_288 hLr1.1) lc_1523 (ct_288 rfl lk_9_278 (Or.inl rfl) sh_179 (Nat.le_of_ble_eq_true rfl)) (fun z4 s3 hz4 hs3 => ?_)
  have hR := (rh_q hLr1 hs3)
  refine ra_pop lc_1526 rfl ?_
  refine ra_goto lc_1527 rfl ?_
  exact ra_P_mono (ra_weak (by repeat' constructor) (k _ (liv_e hL hC hR))) (fun _ _ h => h) (by omega)
theorem op_38 {n : Nat} {f : Nat → Int32} {d b0 : Nat} {σ : ra_V} {v4 : Int} {Q : ra_Q} (hn : n ≤ 3072) (hL : LIV σ) (h0 : 0 ≤ v4) (h1 : v4 + 6 ≤ n) (k : ∀ s, LIV s → ra_P (g_Gs n f) g_sh b0 (d + 12) g_law 2079 (lwL v4) [] s Q) : ra_P (g_Gs n f) g_sh (b0 + 1) (d + 12) g_law 1530 (lwL v4) [] σ Q := by
  unfold lwL
  have hLc := hL.1
  have hLr := hL.2.1
  refine ra_load lc_1530 rfl rfl rfl ?_
  refine ra_callA (sq_137 ) lc_1531 (ct_137 rfl lk_9_279 (Or.inl rfl) sh_0 (Nat.le_of_ble_eq_true rfl)) (fun E s h => by obtain ⟨⟨z, -, e⟩, -⟩ := h; cases e) (fun t s1 h => ?_)
  obtain ⟨⟨z2, hz2, e⟩, hs1⟩ := h
  cases e
  have hC := (ch_ga hs1 hLc)
  have hLr1 := RF_c hC hLr
  refine ra_f2d lc_1534 hz2 ?_
  refine ra_store2 (L' := [_, _, _, _, _, _, _, _, _]) lc_1535 rfl rfl (Nat.le_of_ble_eq_true rfl) rfl ?_
  refine ra_load lc_1537 rfl rfl rfl ?_
  refine ra_callA (sq_289 hLr1.1) lc_1538 (ct_289 rfl lk_9_283 (Or.inl rfl) sh_179 (Nat.le_of_ble_eq_true rfl)) (fun E s h => by obtain ⟨⟨z, -, e⟩, -⟩ := h; cases e) (fun t s3 h => ?_)
  obtain ⟨⟨z4, hz4, e⟩, hs3⟩ := h
  cases e
  have hR := (rh_q hLr1 hs3)
  refine ra_f2d lc_1541 hz4 ?_
  refine ra_store2 (L' := [_, _, _, _, _, _, _, _, _]) lc_1542 rfl rfl (Nat.le_of_ble_eq_true rfl) rfl ?_
  refine ra_goto lc_1544 rfl ?_
  exact ra_P_mono (ra_weak (by repeat' constructor) (k _ (liv_e hL hC hR))) (fun _ _ h => h) (by omega)
theorem op_39 {n : Nat} {f : Nat → Int32} {d b0 : Nat} {σ : ra_V} {v4 : Int} {Q : ra_Q} (hn : n ≤ 3072) (hL : LIV σ) (h0 : 0 ≤ v4) (h1 : v4 + 6 ≤ n) (k : ∀ s, LIV s → ra_P (g_Gs n f) g_sh b0 (d + 12) g_law 2079 (lwL v4) [] s Q) : ra_P (g_Gs n f) g_sh (b0 + 1) (d + 12) g_law 1547 (lwL v4) [] σ Q := by
  unfold lwL
  have hLc := hL.1
  have hLr := hL.2.1
  refine ra_load lc_1547 rfl rfl rfl ?_
  refine ra_callA (sp_128 ) lc_1548 (ct_128 rfl lk_9_284 (Or.inl rfl) sh_0 (Nat.le_of_ble_eq_true rfl)) (fun E s h => by obtain ⟨⟨z, -, e⟩, -⟩ := h; cases e) (fun t s1 h => ?_)
  obtain ⟨⟨z2, hz2, e⟩, hs1⟩ := h
  cases e
  rw [hs1]
  refine ra_store2 (L' := [_, _, _, _, _, _, _, _, _]) lc_1551 rfl (beq_iff_eq.mpr hz2) (Nat.le_of_ble_eq_true rfl) rfl ?_
  refine ra_load lc_1553 rfl rfl rfl ?_
  refine ra_cF (sp_291 hLr.1) lc_1554 (ct_291 rfl lk_9_288 (Or.inl rfl) sh_179 (Nat.le_of_ble_eq_true rfl)) (fun z4 s3 hz4 hs3 => ?_)
  have hR := (rh_q hLr hs3)
  refine ra_store2 (L' := [_, _, _, _, _, _, _, _, _]) lc_1557 rfl (beq_iff_eq.mpr hz4) (Nat.le_of_ble_eq_true rfl) rfl ?_
  refine ra_goto lc_1559 rfl ?_
  exact ra_P_mono (ra_weak (by repeat' constructor) (k _ (liv_e hL (ch_e rfl hLc) hR))) (fun _ _ h => h) (by omega)
theorem op_40 {n : Nat} {f : Nat → Int32} {d b0 : Nat} {σ : ra_V} {v4 : Int} {Q : ra_Q} (hn : n ≤ 3072) (hL : LIV σ) (h0 : 0 ≤ v4) (h1 : v4 + 6 ≤ n) (k : ∀ s, LIV s → ra_P (g_Gs n f) g_sh b0 (d + 12) g_law 2079 (lwL v4) [] s Q) : ra_P (g_Gs n f) g_sh (b0 + 1) (d + 12) g_law 1562 (lwL v4) [] σ Q := by
  unfold lwL
  have hLc := hL.1
  have hLr := hL.2.1
  refine ra_load lc_1562 rfl rfl rfl ?_
  refine ra_cIp (sp_129 ) lc_1563 (ct_129 rfl lk_9_289 (Or.inl rfl) sh_0 (Nat.le_of_ble_eq_true rfl)) (fun z2 hz2 => ?_)
  refine ra_pop lc_1566 rfl ?_
  refine ra_load lc_1567 rfl rfl rfl ?_
  refine ra_cI (sp_293 hLr.1) lc_1568 (ct_293 rfl lk_9_292 (Or.inl rfl) sh_179 (Nat.le_of_ble_eq_true rfl)) (fun z4 s3 hz4 hs3 => ?_)
  have hR := (rh_q hLr hs3)
  refine ra_pop lc_1571 rfl ?_
  refine ra_goto lc_1572 rfl ?_
  exact ra_P_mono (ra_weak (by repeat' constructor) (k _ (liv_e hL (ch_e rfl hLc) hR))) (fun _ _ h => h) (by omega)
theorem op_41 {n : Nat} {f : Nat → Int32} {d b0 : Nat} {σ : ra_V} {v4 : Int} {Q : ra_Q} (hn : n ≤ 3072) (hL : LIV σ) (h0 : 0 ≤ v4) (h1 : v4 + 6 ≤ n) (k : ∀ s, LIV s → ra_P (g_Gs n f) g_sh b0 (d + 12) g_law 2079 (lwL v4) [] s Q) : ra_P (g_Gs n f) g_sh (b0 + 1) (d + 12) g_law 1575 (lwL v4) [] σ Q := by
  unfold lwL
  have hLc := hL.1
  have hLr := hL.2.1
  refine ra_load lc_1575 rfl rfl rfl ?_
  refine ra_load lc_1576 rfl rfl rfl ?_
  refine ra_load lc_1577 rfl rfl rfl ?_
  refine ra_iconst lc_1579 ?_
  refine ra_iadd lc_1580 ?_
  refine ra_sld lc_1581 rfl (show n ≤ 2147483647 by omega) (by first | omega | (unfold ra_in at *; omega)) (show (v4 + (1)) < (n : Int) by omega) ?_
  refine ra_gen (fun z1 hz1 => ?_)
  refine ra_load lc_1582 rfl rfl rfl ?_
  refine ra_call (b1 := 1) (b2 := b0) lc_1583 (ct_370 rfl lk_9_293 (Or.inl rfl) (Nat.le_of_ble_eq_true rfl)) (sp_370 hz1 hLc) (fun t s2 h => ?_) (by omega) (fun E s2 h => by obtain ⟨⟨z, -, e⟩, -⟩ := h; cases e)
  obtain ⟨⟨z3, hz3, e⟩, hC⟩ := h
  cases e
  have hLr1 := RF_c hC hLr
  refine ra_store (L' := [_, _, _, _, _, _, _, _, _]) lc_1586 rfl rfl (Nat.le_of_ble_eq_true rfl) rfl ?_
  refine ra_load lc_1588 rfl rfl rfl ?_
  refine ra_load lc_1589 rfl rfl rfl ?_
  refine ra_load lc_1590 rfl rfl rfl ?_
  refine ra_iconst lc_1592 ?_
  refine ra_iadd lc_1593 ?_
  refine ra_sld lc_1594 rfl (show n ≤ 2147483647 by omega) (by first | omega | (unfold ra_in at *; omega)) (show (v4 + (1)) < (n : Int) by omega) ?_
  refine ra_gen (fun z4 hz4 => ?_)
  refine ra_cI (sp_294 hz4 hLr1.1) lc_1595 (ct_294 rfl lk_9_295 (Or.inl rfl) sh_179 (Nat.le_of_ble_eq_true rfl)) (fun z6 s5 hz6 hs5 => ?_)
  have hR := (rh_q hLr1 hs5)
  refine ra_store (L' := [_, _, _, _, _, _, _, _, _]) lc_1598 rfl rfl (Nat.le_of_ble_eq_true rfl) rfl ?_
  refine ra_goto lc_1600 rfl ?_
  exact ra_P_mono (ra_weak (by repeat' constructor) (k _ (liv_e hL hC hR))) (fun _ _ h => h) (by omega)
theorem op_42 {n : Nat} {f : Nat → Int32} {d b0 : Nat} {σ : ra_V} {v4 : Int} {Q : ra_Q} (hn : n ≤ 3072) (hL : LIV σ) (h0 : 0 ≤ v4) (h1 : v4 + 6 ≤ n) (k : ∀ s, LIV s → ra_P (g_Gs n f) g_sh b0 (d + 12) g_law 2079 (lwL v4) [] s Q) : ra_P (g_Gs n f) g_sh (b0 + 1) (d + 12) g_law 1603 (lwL v4) [] σ Q := by
  unfold lwL
  have hLc := hL.1
  have hLr := hL.2.1
  refine ra_load lc_1603 rfl rfl rfl ?_
  refine ra_load lc_1604 rfl rfl rfl ?_
  refine ra_load lc_1605 rfl rfl rfl ?_
  refine ra_iconst lc_1607 ?_
  refine ra_iadd lc_1608 ?_
  refine ra_sld lc_1609 rfl (show n ≤ 2147483647 by omega) (by first | omega | (unfold ra_in at *; omega)) (show (v4 + (1)) < (n : Int) by omega) ?_
  refine ra_gen (fun z1 hz1 => ?_)
  refine ra_load lc_1610 rfl rfl rfl ?_
  refine ra_call (b1 := 1) (b2 := b0) lc_1611 (ct_371 rfl lk_9_296 (Or.inl rfl) (Nat.le_of_ble_eq_true rfl)) (sp_371 hz1 hLc) (fun t s2 h => ?_) (by omega) (fun E s2 h => by obtain ⟨⟨z, -, e⟩, -⟩ := h; cases e)
  obtain ⟨⟨z3, hz3, e⟩, hC⟩ := h
  cases e
  have hLr1 := RF_c hC hLr
  refine ra_store (L' := [_, _, _, _, _, _, _, _, _]) lc_1614 rfl rfl (Nat.le_of_ble_eq_true rfl) rfl ?_
  refine ra_load lc_1616 rfl rfl rfl ?_
  refine ra_load lc_1617 rfl rfl rfl ?_
  refine ra_load lc_1618 rfl rfl rfl ?_
  refine ra_iconst lc_1620 ?_
  refine ra_iadd lc_1621 ?_
  refine ra_sld lc_1622 rfl (show n ≤ 2147483647 by omega) (by first | omega | (unfold ra_in at *; omega)) (show (v4 + (1)) < (n : Int) by omega) ?_
  refine ra_gen (fun z4 hz4 => ?_)
  refine ra_cI (sp_322 hz4 hLr1.1) lc_1623 (ct_322 rfl lk_9_298 (Or.inl rfl) sh_179 (Nat.le_of_ble_eq_true rfl)) (fun z6 s5 hz6 hs5 => ?_)
  have hR := (rh_q hLr1 hs5)
  refine ra_store (L' := [_, _, _, _, _, _, _, _, _]) lc_1626 rfl rfl (Nat.le_of_ble_eq_true rfl) rfl ?_
  refine ra_goto lc_1628 rfl ?_
  exact ra_P_mono (ra_weak (by repeat' constructor) (k _ (liv_e hL hC hR))) (fun _ _ h => h) (by omega)
theorem op_43 {n : Nat} {f : Nat → Int32} {d b0 : Nat} {σ : ra_V} {v4 : Int} {Q : ra_Q} (hn : n ≤ 3072) (hL : LIV σ) (h0 : 0 ≤ v4) (h1 : v4 + 6 ≤ n) (k : ∀ s, LIV s → ra_P (g_Gs n f) g_sh b0 (d + 12) g_law 2079 (lwL v4) [] s Q) : ra_P (g_Gs n f) g_sh (b0 + 1) (d + 12) g_law 1631 (lwL v4) [] σ Q := by
  unfold lwL
  have hLc := hL.1
  have hLr := hL.2.1
  refine ra_load lc_1631 rfl rfl rfl ?_
  refine ra_load lc_1632 rfl rfl rfl ?_
  refine ra_load lc_1633 rfl rfl rfl ?_
  refine ra_iconst lc_1635 ?_
  refine ra_iadd lc_1636 ?_
  refine ra_sld lc_1637 rfl (show n ≤ 2147483647 by omega) (by first | omega | (unfold ra_in at *; omega)) (show (v4 + (1)) < (n : Int) by omega) ?_
  refine ra_gen (fun z1 hz1 => ?_)
  refine ra_load lc_1638 rfl rfl rfl ?_
  refine ra_call (b1 := 1) (b2 := b0) lc_1639 (ct_372 rfl lk_9_299 (Or.inl rfl) (Nat.le_of_ble_eq_true rfl)) (sp_372 hz1 hLc) (fun t s2 h => ?_) (by omega) (fun E s2 h => by obtain ⟨⟨z, -, e⟩, -⟩ := h; cases e)
  obtain ⟨⟨z3, hz3, e⟩, hC⟩ := h
  cases e
  have hLr1 := RF_c hC hLr
  refine ra_store (L' := [_, _, _, _, _, _, _, _, _]) lc_1642 rfl rfl (Nat.le_of_ble_eq_true rfl) rfl ?_
  refine ra_load lc_1644 rfl rfl rfl ?_
  refine ra_load lc_1645 rfl rfl rfl ?_
  refine ra_load lc_1646 rfl rfl rfl ?_
  refine ra_iconst lc_1648 ?_
  refine ra_iadd lc_1649 ?_
  refine ra_sld lc_1650 rfl (show n ≤ 2147483647 by omega) (by first | omega | (unfold ra_in at *; omega)) (show (v4 + (1)) < (n : Int) by omega) ?_
  refine ra_gen (fun z4 hz4 => ?_)
  refine ra_cI (sp_325 hz4 hLr1.1) lc_1651 (ct_325 rfl lk_9_301 (Or.inl rfl) sh_179 (Nat.le_of_ble_eq_true rfl)) (fun z6 s5 hz6 hs5 => ?_)
  have hR := (rh_q hLr1 hs5)
  refine ra_store (L' := [_, _, _, _, _, _, _, _, _]) lc_1654 rfl rfl (Nat.le_of_ble_eq_true rfl) rfl ?_
  refine ra_goto lc_1656 rfl ?_
  exact ra_P_mono (ra_weak (by repeat' constructor) (k _ (liv_e hL hC hR))) (fun _ _ h => h) (by omega)
theorem op_44 {n : Nat} {f : Nat → Int32} {d b0 : Nat} {σ : ra_V} {v4 : Int} {Q : ra_Q} (hn : n ≤ 3072) (hL : LIV σ) (h0 : 0 ≤ v4) (h1 : v4 + 6 ≤ n) (k : ∀ s, LIV s → ra_P (g_Gs n f) g_sh b0 (d + 12) g_law 2079 (lwL v4) [] s Q) : ra_P (g_Gs n f) g_sh (b0 + 1) (d + 12) g_law 1659 (lwL v4) [] σ Q := by
  unfold lwL
  have hLc := hL.1
  have hLr := hL.2.1
  refine ra_load lc_1659 rfl rfl rfl ?_
  refine ra_load lc_1660 rfl rfl rfl ?_
  refine ra_load lc_1661 rfl rfl rfl ?_
  refine ra_iconst lc_1663 ?_
  refine ra_iadd lc_1664 ?_
  refine ra_sld lc_1665 rfl (show n ≤ 2147483647 by omega) (by first | omega | (unfold ra_in at *; omega)) (show (v4 + (1)) < (n : Int) by omega) ?_
  refine ra_gen (fun z1 hz1 => ?_)
  refine ra_load lc_1666 rfl rfl rfl ?_
  refine ra_load lc_1667 rfl rfl rfl ?_
  refine ra_iconst lc_1669 ?_
  refine ra_iadd lc_1670 ?_
  refine ra_sld lc_1671 rfl (show n ≤ 2147483647 by omega) (by first | omega | (unfold ra_in at *; omega)) (show (v4 + (2)) < (n : Int) by omega) ?_
  refine ra_gen (fun z2 hz2 => ?_)
  refine ra_load lc_1672 rfl rfl rfl ?_
  refine ra_call (b1 := 1) (b2 := b0) lc_1673 (ct_373 rfl lk_9_302 (Or.inl rfl) (Nat.le_of_ble_eq_true rfl)) (sp_373 hz1 hz2 hLc) (fun t s3 h => ?_) (by omega) (fun E s3 h => by obtain ⟨⟨z, -, e⟩, -⟩ := h; cases e)
  obtain ⟨⟨z4, hz4, e⟩, hC⟩ := h
  cases e
  have hLr1 := RF_c hC hLr
  refine ra_store (L' := [_, _, _, _, _, _, _, _, _]) lc_1676 rfl rfl (Nat.le_of_ble_eq_true rfl) rfl ?_
  refine ra_load lc_1678 rfl rfl rfl ?_
  refine ra_load lc_1679 rfl rfl rfl ?_
  refine ra_load lc_1680 rfl rfl rfl ?_
  refine ra_iconst lc_1682 ?_
  refine ra_iadd lc_1683 ?_
  refine ra_sld lc_1684 rfl (show n ≤ 2147483647 by omega) (by first | omega | (unfold ra_in at *; omega)) (show (v4 + (1)) < (n : Int) by omega) ?_
  refine ra_gen (fun z5 hz5 => ?_)
  refine ra_load lc_1685 rfl rfl rfl ?_
  refine ra_load lc_1686 rfl rfl rfl ?_
  refine ra_iconst lc_1688 ?_
  refine ra_iadd lc_1689 ?_
  refine ra_sld lc_1690 rfl (show n ≤ 2147483647 by omega) (by first | omega | (unfold ra_in at *; omega)) (show (v4 + (2)) < (n : Int) by omega) ?_
  refine ra_gen (fun z6 hz6 => ?_)
  refine ra_cI (sp_308 hz5 hz6 hLr1.1 hLr1.2.1) lc_1691 (ct_308 rfl lk_9_304 (Or.inl rfl) sh_179 (Nat.le_of_ble_eq_true rfl)) (fun z8 s7 hz8 hs7 => ?_)
  have hR := (rh_m hLr1 hs7)
  refine ra_store (L' := [_, _, _, _, _, _, _, _, _]) lc_1694 rfl rfl (Nat.le_of_ble_eq_true rfl) rfl ?_
  refine ra_goto lc_1696 rfl ?_
  exact ra_P_mono (ra_weak (by repeat' constructor) (k _ (liv_e hL hC hR))) (fun _ _ h => h) (by omega)
theorem op_45 {n : Nat} {f : Nat → Int32} {d b0 : Nat} {σ : ra_V} {v4 : Int} {Q : ra_Q} (hn : n ≤ 3072) (hL : LIV σ) (h0 : 0 ≤ v4) (h1 : v4 + 6 ≤ n) (k : ∀ s, LIV s → ra_P (g_Gs n f) g_sh b0 (d + 12) g_law 2079 (lwL v4) [] s Q) : ra_P (g_Gs n f) g_sh (b0 + 1) (d + 12) g_law 1699 (lwL v4) [] σ Q := by
  unfold lwL
  have hLc := hL.1
  have hLr := hL.2.1
  refine ra_load lc_1699 rfl rfl rfl ?_
  refine ra_load lc_1700 rfl rfl rfl ?_
  refine ra_load lc_1701 rfl rfl rfl ?_
  refine ra_iconst lc_1703 ?_
  refine ra_iadd lc_1704 ?_
  refine ra_sld lc_1705 rfl (show n ≤ 2147483647 by omega) (by first | omega | (unfold ra_in at *; omega)) (show (v4 + (1)) < (n : Int) by omega) ?_
  refine ra_gen (fun z1 hz1 => ?_)
  refine ra_load lc_1706 rfl rfl rfl ?_
  refine ra_call (b1 := 1) (b2 := b0) lc_1707 (ct_374 rfl lk_9_305 (Or.inl rfl) (Nat.le_of_ble_eq_true rfl)) (sp_374 hz1 hLc) (fun t s2 h => ?_) (by omega) (fun E s2 h => by obtain ⟨⟨z, -, e⟩, -⟩ := h; cases e)
  obtain ⟨⟨z3, hz3, e⟩, hC⟩ := h
  cases e
  have hLr1 := RF_c hC hLr
  refine ra_store (L' := [_, _, _, _, _, _, _, _, _]) lc_1710 rfl rfl (Nat.le_of_ble_eq_true rfl) rfl ?_
  refine ra_load lc_1712 rfl rfl rfl ?_
  refine ra_load lc_1713 rfl rfl rfl ?_
  refine ra_load lc_1714 rfl rfl rfl ?_
  refine ra_iconst lc_1716 ?_
  refine ra_iadd lc_1717 ?_
  refine ra_sld lc_1718 rfl (show n ≤ 2147483647 by omega) (by first | omega | (unfold ra_in at *; omega)) (show (v4 + (1)) < (n : Int) by omega) ?_
  refine ra_gen (fun z4 hz4 => ?_)
  refine ra_cI (sp_311 hz4 hLr1.1 hLr1.2.1) lc_1719 (ct_311 rfl lk_9_307 (Or.inl rfl) sh_179 (Nat.le_of_ble_eq_true rfl)) (fun z6 s5 hz6 hs5 => ?_)
  have hR := (rh_m hLr1 hs5)
  refine ra_store (L' := [_, _, _, _, _, _, _, _, _]) lc_1722 rfl rfl (Nat.le_of_ble_eq_true rfl) rfl ?_
  refine ra_goto lc_1724 rfl ?_
  exact ra_P_mono (ra_weak (by repeat' constructor) (k _ (liv_e hL hC hR))) (fun _ _ h => h) (by omega)
theorem op_46 {n : Nat} {f : Nat → Int32} {d b0 : Nat} {σ : ra_V} {v4 : Int} {Q : ra_Q} (hn : n ≤ 3072) (hL : LIV σ) (h0 : 0 ≤ v4) (h1 : v4 + 6 ≤ n) (k : ∀ s, LIV s → ra_P (g_Gs n f) g_sh b0 (d + 12) g_law 2079 (lwL v4) [] s Q) : ra_P (g_Gs n f) g_sh (b0 + 1) (d + 12) g_law 1727 (lwL v4) [] σ Q := by
  unfold lwL
  have hLc := hL.1
  have hLr := hL.2.1
  refine ra_load lc_1727 rfl rfl rfl ?_
  refine ra_cI (sp_152 hLc) lc_1728 (ct_152 rfl lk_9_308 (Or.inl rfl) sh_0 (Nat.le_of_ble_eq_true rfl)) (fun z2 s1 hz2 hs1 => ?_)
  have hC := (ch_op hs1)
  have hLr1 := RF_c hC hLr
  refine ra_pop lc_1731 rfl ?_
  refine ra_load lc_1732 rfl rfl rfl ?_
  refine ra_cI (sp_312 hLr1.1 hLr1.2.1) lc_1733 (ct_312 rfl lk_9_311 (Or.inl rfl) sh_179 (Nat.le_of_ble_eq_true rfl)) (fun z4 s3 hz4 hs3 => ?_)
  have hR := (rh_m hLr1 hs3)
  refine ra_pop lc_1736 rfl ?_
  refine ra_goto lc_1737 rfl ?_
  exact ra_P_mono (ra_weak (by repeat' constructor) (k _ (liv_e hL hC hR))) (fun _ _ h => h) (by omega)
theorem op_47 {n : Nat} {f : Nat → Int32} {d b0 : Nat} {σ : ra_V} {v4 : Int} {Q : ra_Q} (hn : n ≤ 3072) (hL : LIV σ) (h0 : 0 ≤ v4) (h1 : v4 + 6 ≤ n) (k : ∀ s, LIV s → ra_P (g_Gs n f) g_sh b0 (d + 12) g_law 2079 (lwL v4) [] s Q) : ra_P (g_Gs n f) g_sh (b0 + 1) (d + 12) g_law 1740 (lwL v4) [] σ Q := by
  unfold lwL
  have hLc := hL.1
  have hLr := hL.2.1
  refine ra_load lc_1740 rfl rfl rfl ?_
  refine ra_cI (sp_153 hLc) lc_1741 (ct_153 rfl lk_9_312 (Or.inl rfl) sh_0 (Nat.le_of_ble_eq_true rfl)) (fun z2 s1 hz2 hs1 => ?_)
  have hC := (ch_op hs1)
  have hLr1 := RF_c hC hLr
  refine ra_pop lc_1744 rfl ?_
  refine ra_load lc_1745 rfl rfl rfl ?_
  refine ra_cI (sp_313 hLr1.1 hLr1.2.1) lc_1746 (ct_313 rfl lk_9_315 (Or.inl rfl) sh_179 (Nat.le_of_ble_eq_true rfl)) (fun z4 s3 hz4 hs3 => ?_)
  have hR := (rh_m hLr1 hs3)
  refine ra_pop lc_1749 rfl ?_
  refine ra_goto lc_1750 rfl ?_
  exact ra_P_mono (ra_weak (by repeat' constructor) (k _ (liv_e hL hC hR))) (fun _ _ h => h) (by omega)
theorem op_48 {n : Nat} {f : Nat → Int32} {d b0 : Nat} {σ : ra_V} {v4 : Int} {Q : ra_Q} (hn : n ≤ 3072) (hL : LIV σ) (h0 : 0 ≤ v4) (h1 : v4 + 6 ≤ n) (k : ∀ s, LIV s → ra_P (g_Gs n f) g_sh b0 (d + 12) g_law 2079 (lwL v4) [] s Q) : ra_P (g_Gs n f) g_sh (b0 + 1) (d + 12) g_law 1753 (lwL v4) [] σ Q := by
  unfold lwL
  have hLc := hL.1
  have hLr := hL.2.1
  refine ra_load lc_1753 rfl rfl rfl ?_
  refine ra_load lc_1754 rfl rfl rfl ?_
  refine ra_load lc_1755 rfl rfl rfl ?_
  refine ra_iconst lc_1757 ?_
  refine ra_iadd lc_1758 ?_
  refine ra_sld lc_1759 rfl (show n ≤ 2147483647 by omega) (by first | omega | (unfold ra_in at *; omega)) (show (v4 + (1)) < (n : Int) by omega) ?_
  refine ra_gen (fun z1 hz1 => ?_)
  refine ra_load lc_1760 rfl rfl rfl ?_
  refine ra_call (b1 := 1) (b2 := b0) lc_1761 (ct_375 rfl lk_9_316 (Or.inl rfl) (Nat.le_of_ble_eq_true rfl)) (sp_375 hz1 hLc) (fun t s2 h => ?_) (by omega) (fun E s2 h => by obtain ⟨⟨z, -, e⟩, -⟩ := h; cases e)
  obtain ⟨⟨z3, hz3, e⟩, hC⟩ := h
  cases e
  have hLr1 := RF_c hC hLr
  refine ra_store (L' := [_, _, _, _, _, _, _, _, _]) lc_1764 rfl rfl (Nat.le_of_ble_eq_true rfl) rfl ?_
  refine ra_load lc_1766 rfl rfl rfl ?_
  refine ra_load lc_1767 rfl rfl rfl ?_
  refine ra_load lc_1768 rfl rfl rfl ?_
  refine ra_iconst lc_1770 ?_
  refine ra_iadd lc_1771 ?_
  refine ra_sld lc_1772 rfl (show n ≤ 2147483647 by omega) (by first | omega | (unfold ra_in at *; omega)) (show (v4 + (1)) < (n : Int) by omega) ?_
  refine ra_gen (fun z4 hz4 => ?_)
  refine ra_cI (sp_305 hz4 hLr1.1 hLr1.2.1) lc_1773 (ct_305 rfl lk_9_318 (Or.inl rfl) sh_179 (Nat.le_of_ble_eq_true rfl)) (fun z6 s5 hz6 hs5 => ?_)
  have hR := (rh_m hLr1 hs5)
  refine ra_store (L' := [_, _, _, _, _, _, _, _, _]) lc_1776 rfl rfl (Nat.le_of_ble_eq_true rfl) rfl ?_
  refine ra_goto lc_1778 rfl ?_
  exact ra_P_mono (ra_weak (by repeat' constructor) (k _ (liv_e hL hC hR))) (fun _ _ h => h) (by omega)
theorem op_49 {n : Nat} {f : Nat → Int32} {d b0 : Nat} {σ : ra_V} {v4 : Int} {Q : ra_Q} (hn : n ≤ 3072) (hL : LIV σ) (h0 : 0 ≤ v4) (h1 : v4 + 6 ≤ n) (k : ∀ s, LIV s → ra_P (g_Gs n f) g_sh b0 (d + 12) g_law 2079 (lwL v4) [] s Q) : ra_P (g_Gs n f) g_sh (b0 + 1) (d + 12) g_law 1781 (lwL v4) [] σ Q := by
  unfold lwL
  have hLc := hL.1
  have hLr := hL.2.1
  refine ra_load lc_1781 rfl rfl rfl ?_
  refine ra_load lc_1782 rfl rfl rfl ?_
  refine ra_load lc_1783 rfl rfl rfl ?_
  refine ra_iconst lc_1785 ?_
  refine ra_iadd lc_1786 ?_
  refine ra_sld lc_1787 rfl (show n ≤ 2147483647 by omega) (by first | omega | (unfold ra_in at *; omega)) (show (v4 + (1)) < (n : Int) by omega) ?_
  refine ra_gen (fun z1 hz1 => ?_)
  refine ra_load lc_1788 rfl rfl rfl ?_
  refine ra_load lc_1789 rfl rfl rfl ?_
  refine ra_iconst lc_1791 ?_
  refine ra_iadd lc_1792 ?_
  refine ra_sld lc_1793 rfl (show n ≤ 2147483647 by omega) (by first | omega | (unfold ra_in at *; omega)) (show (v4 + (2)) < (n : Int) by omega) ?_
  refine ra_gen (fun z2 hz2 => ?_)
  refine ra_load lc_1794 rfl rfl rfl ?_
  refine ra_call (b1 := 1) (b2 := b0) lc_1795 (ct_376 rfl lk_9_319 (Or.inl rfl) (Nat.le_of_ble_eq_true rfl)) (sp_376 hz1 hz2 hLc) (fun t s3 h => ?_) (by omega) (fun E s3 h => by obtain ⟨⟨z, -, e⟩, -⟩ := h; cases e)
  obtain ⟨⟨z4, hz4, e⟩, hC⟩ := h
  cases e
  have hLr1 := RF_c hC hLr
  refine ra_store (L' := [_, _, _, _, _, _, _, _, _]) lc_1798 rfl rfl (Nat.le_of_ble_eq_true rfl) rfl ?_
  refine ra_load lc_1800 rfl rfl rfl ?_
  refine ra_load lc_1801 rfl rfl rfl ?_
  refine ra_load lc_1802 rfl rfl rfl ?_
  refine ra_iconst lc_1804 ?_
  refine ra_iadd lc_1805 ?_
  refine ra_sld lc_1806 rfl (show n ≤ 2147483647 by omega) (by first | omega | (unfold ra_in at *; omega)) (show (v4 + (1)) < (n : Int) by omega) ?_
  refine ra_gen (fun z5 hz5 => ?_)
  refine ra_load lc_1807 rfl rfl rfl ?_
  refine ra_load lc_1808 rfl rfl rfl ?_
  refine ra_iconst lc_1810 ?_
  refine ra_iadd lc_1811 ?_
  refine ra_sld lc_1812 rfl (show n ≤ 2147483647 by omega) (by first | omega | (unfold ra_in at *; omega)) (show (v4 + (2)) < (n : Int) by omega) ?_
  refine ra_gen (fun z6 hz6 => ?_)
  refine ra_cI (sp_333 hz5 hz6 hLr1.1 hLr1.2.1) lc_1813 (ct_333 rfl lk_9_321 (Or.inl rfl) sh_179 (Nat.le_of_ble_eq_true rfl)) (fun z8 s7 hz8 hs7 => ?_)
  have hR := (rh_m hLr1 hs7)
  refine ra_store (L' := [_, _, _, _, _, _, _, _, _]) lc_1816 rfl rfl (Nat.le_of_ble_eq_true rfl) rfl ?_
  refine ra_goto lc_1818 rfl ?_
  exact ra_P_mono (ra_weak (by repeat' constructor) (k _ (liv_e hL hC hR))) (fun _ _ h => h) (by omega)
theorem op_50 {n : Nat} {f : Nat → Int32} {d b0 : Nat} {σ : ra_V} {v4 : Int} {Q : ra_Q} (hn : n ≤ 3072) (hL : LIV σ) (h0 : 0 ≤ v4) (h1 : v4 + 6 ≤ n) (k : ∀ s, LIV s → ra_P (g_Gs n f) g_sh b0 (d + 12) g_law 2079 (lwL v4) [] s Q) : ra_P (g_Gs n f) g_sh (b0 + 1) (d + 12) g_law 1821 (lwL v4) [] σ Q := by
  unfold lwL
  have hLc := hL.1
  have hLr := hL.2.1
  refine ra_load lc_1821 rfl rfl rfl ?_
  refine ra_load lc_1822 rfl rfl rfl ?_
  refine ra_load lc_1823 rfl rfl rfl ?_
  refine ra_iconst lc_1825 ?_
  refine ra_iadd lc_1826 ?_
  refine ra_sld lc_1827 rfl (show n ≤ 2147483647 by omega) (by first | omega | (unfold ra_in at *; omega)) (show (v4 + (1)) < (n : Int) by omega) ?_
  refine ra_gen (fun z1 hz1 => ?_)
  refine ra_load lc_1828 rfl rfl rfl ?_
  refine ra_call (b1 := 1) (b2 := b0) lc_1829 (ct_377 rfl lk_9_322 (Or.inl rfl) (Nat.le_of_ble_eq_true rfl)) (sp_377 hz1 hLc) (fun t s2 h => ?_) (by omega) (fun E s2 h => by obtain ⟨⟨z, -, e⟩, -⟩ := h; cases e)
  obtain ⟨⟨z3, hz3, e⟩, hC⟩ := h
  cases e
  have hLr1 := RF_c hC hLr
  refine ra_store (L' := [_, _, _, _, _, _, _, _, _]) lc_1832 rfl rfl (Nat.le_of_ble_eq_true rfl) rfl ?_
  refine ra_load lc_1834 rfl rfl rfl ?_
  refine ra_load lc_1835 rfl rfl rfl ?_
  refine ra_load lc_1836 rfl rfl rfl ?_
  refine ra_iconst lc_1838 ?_
  refine ra_iadd lc_1839 ?_
  refine ra_sld lc_1840 rfl (show n ≤ 2147483647 by omega) (by first | omega | (unfold ra_in at *; omega)) (show (v4 + (1)) < (n : Int) by omega) ?_
  refine ra_gen (fun z4 hz4 => ?_)
  refine ra_cI (sp_327 hz4 hLr1.1) lc_1841 (ct_327 rfl lk_9_324 (Or.inl rfl) sh_179 (Nat.le_of_ble_eq_true rfl)) (fun z6 s5 hz6 hs5 => ?_)
  have hR := (rh_q hLr1 hs5)
  refine ra_store (L' := [_, _, _, _, _, _, _, _, _]) lc_1844 rfl rfl (Nat.le_of_ble_eq_true rfl) rfl ?_
  refine ra_goto lc_1846 rfl ?_
  exact ra_P_mono (ra_weak (by repeat' constructor) (k _ (liv_e hL hC hR))) (fun _ _ h => h) (by omega)
theorem op_51 {n : Nat} {f : Nat → Int32} {d b0 : Nat} {σ : ra_V} {v4 : Int} {Q : ra_Q} (hn : n ≤ 3072) (hL : LIV σ) (h0 : 0 ≤ v4) (h1 : v4 + 6 ≤ n) (k : ∀ s, LIV s → ra_P (g_Gs n f) g_sh b0 (d + 12) g_law 2079 (lwL v4) [] s Q) : ra_P (g_Gs n f) g_sh (b0 + 1) (d + 12) g_law 1849 (lwL v4) [] σ Q := by
  unfold lwL
  have hLc := hL.1
  have hLr := hL.2.1
  refine ra_load lc_1849 rfl rfl rfl ?_
  refine ra_load lc_1850 rfl rfl rfl ?_
  refine ra_load lc_1851 rfl rfl rfl ?_
  refine ra_iconst lc_1853 ?_
  refine ra_iadd lc_1854 ?_
  refine ra_sld lc_1855 rfl (show n ≤ 2147483647 by omega) (by first | omega | (unfold ra_in at *; omega)) (show (v4 + (1)) < (n : Int) by omega) ?_
  refine ra_gen (fun z1 hz1 => ?_)
  refine ra_load lc_1856 rfl rfl rfl ?_
  refine ra_call (b1 := 1) (b2 := b0) lc_1857 (ct_378 rfl lk_9_325 (Or.inl rfl) (Nat.le_of_ble_eq_true rfl)) (sp_378 hz1 hLc) (fun t s2 h => ?_) (by omega) (fun E s2 h => by obtain ⟨⟨z, -, e⟩, -⟩ := h; cases e)
  obtain ⟨⟨z3, hz3, e⟩, hC⟩ := h
  cases e
  have hLr1 := RF_c hC hLr
  refine ra_store (L' := [_, _, _, _, _, _, _, _, _]) lc_1860 rfl rfl (Nat.le_of_ble_eq_true rfl) rfl ?_
  refine ra_load lc_1862 rfl rfl rfl ?_
  refine ra_load lc_1863 rfl rfl rfl ?_
  refine ra_load lc_1864 rfl rfl rfl ?_
  refine ra_iconst lc_1866 ?_
  refine ra_iadd lc_1867 ?_
  refine ra_sld lc_1868 rfl (show n ≤ 2147483647 by omega) (by first | omega | (unfold ra_in at *; omega)) (show (v4 + (1)) < (n : Int) by omega) ?_
  refine ra_gen (fun z4 hz4 => ?_)
  refine ra_cI (sp_280 hz4 hLr1.1) lc_1869 (ct_280 rfl lk_9_327 (Or.inl rfl) sh_179 (Nat.le_of_ble_eq_true rfl)) (fun z6 s5 hz6 hs5 => ?_)
  have hR := (rh_q hLr1 hs5)
  refine ra_store (L' := [_, _, _, _, _, _, _, _, _]) lc_1872 rfl rfl (Nat.le_of_ble_eq_true rfl) rfl ?_
  refine ra_goto lc_1874 rfl ?_
  exact ra_P_mono (ra_weak (by repeat' constructor) (k _ (liv_e hL hC hR))) (fun _ _ h => h) (by omega)
theorem op_52 {n : Nat} {f : Nat → Int32} {d b0 : Nat} {σ : ra_V} {v4 : Int} {Q : ra_Q} (hn : n ≤ 3072) (hL : LIV σ) (h0 : 0 ≤ v4) (h1 : v4 + 6 ≤ n) (k : ∀ s, LIV s → ra_P (g_Gs n f) g_sh b0 (d + 12) g_law 2079 (lwL v4) [] s Q) : ra_P (g_Gs n f) g_sh (b0 + 1) (d + 12) g_law 1877 (lwL v4) [] σ Q := by
  unfold lwL
  have hLc := hL.1
  have hLr := hL.2.1
  refine ra_load lc_1877 rfl rfl rfl ?_
  refine ra_load lc_1878 rfl rfl rfl ?_
  refine ra_load lc_1879 rfl rfl rfl ?_
  refine ra_iconst lc_1881 ?_
  refine ra_iadd lc_1882 ?_
  refine ra_sld lc_1883 rfl (show n ≤ 2147483647 by omega) (by first | omega | (unfold ra_in at *; omega)) (show (v4 + (1)) < (n : Int) by omega) ?_
  refine ra_gen (fun z1 hz1 => ?_)
  refine ra_load lc_1884 rfl rfl rfl ?_
  refine ra_call (b1 := 1) (b2 := b0) lc_1885 (ct_379 rfl lk_9_328 (Or.inl rfl) (Nat.le_of_ble_eq_true rfl)) (sp_379 hz1 hLc) (fun t s2 h => ?_) (by omega) (fun E s2 h => by obtain ⟨⟨z, -, e⟩, -⟩ := h; cases e)
  obtain ⟨⟨z3, hz3, e⟩, hC⟩ := h
  cases e
  have hLr1 := RF_c hC hLr
  refine ra_store (L' := [_, _, _, _, _, _, _, _, _]) lc_1888 rfl rfl (Nat.le_of_ble_eq_true rfl) rfl ?_
  refine ra_load lc_1890 rfl rfl rfl ?_
  refine ra_load lc_1891 rfl rfl rfl ?_
  refine ra_load lc_1892 rfl rfl rfl ?_
  refine ra_iconst lc_1894 ?_
  refine ra_iadd lc_1895 ?_
  refine ra_sld lc_1896 rfl (show n ≤ 2147483647 by omega) (by first | omega | (unfold ra_in at *; omega)) (show (v4 + (1)) < (n : Int) by omega) ?_
  refine ra_gen (fun z4 hz4 => ?_)
  refine ra_cI (sp_284 hz4 hLr1.1) lc_1897 (ct_284 rfl lk_9_330 (Or.inl rfl) sh_179 (Nat.le_of_ble_eq_true rfl)) (fun z6 s5 hz6 hs5 => ?_)
  have hR := (rh_q hLr1 hs5)
  refine ra_store (L' := [_, _, _, _, _, _, _, _, _]) lc_1900 rfl rfl (Nat.le_of_ble_eq_true rfl) rfl ?_
  refine ra_goto lc_1902 rfl ?_
  exact ra_P_mono (ra_weak (by repeat' constructor) (k _ (liv_e hL hC hR))) (fun _ _ h => h) (by omega)
theorem op_53 {n : Nat} {f : Nat → Int32} {d b0 : Nat} {σ : ra_V} {v4 : Int} {Q : ra_Q} (hn : n ≤ 3072) (hL : LIV σ) (h0 : 0 ≤ v4) (h1 : v4 + 6 ≤ n) (k : ∀ s, LIV s → ra_P (g_Gs n f) g_sh b0 (d + 12) g_law 2079 (lwL v4) [] s Q) : ra_P (g_Gs n f) g_sh (b0 + 1) (d + 12) g_law 1905 (lwL v4) [] σ Q := by
  unfold lwL
  have hLc := hL.1
  have hLr := hL.2.1
  refine ra_load lc_1905 rfl rfl rfl ?_
  refine ra_cIp (sp_132 ) lc_1906 (ct_132 rfl lk_9_331 (Or.inl rfl) sh_0 (Nat.le_of_ble_eq_true rfl)) (fun z2 hz2 => ?_)
  refine ra_pop lc_1909 rfl ?_
  refine ra_load lc_1910 rfl rfl rfl ?_
  refine ra_cI (sp_276 hLr.1) lc_1911 (ct_276 rfl lk_9_334 (Or.inl rfl) sh_179 (Nat.le_of_ble_eq_true rfl)) (fun z4 s3 hz4 hs3 => ?_)
  have hR := (rh_q hLr hs3)
  refine ra_pop lc_1914 rfl ?_
  refine ra_goto lc_1915 rfl ?_
  exact ra_P_mono (ra_weak (by repeat' constructor) (k _ (liv_e hL (ch_e rfl hLc) hR))) (fun _ _ h => h) (by omega)
theorem op_54 {n : Nat} {f : Nat → Int32} {d b0 : Nat} {σ : ra_V} {v4 : Int} {Q : ra_Q} (hn : n ≤ 3072) (hL : LIV σ) (h0 : 0 ≤ v4) (h1 : v4 + 6 ≤ n) (k : ∀ s, LIV s → ra_P (g_Gs n f) g_sh b0 (d + 12) g_law 2079 (lwL v4) [] s Q) : ra_P (g_Gs n f) g_sh (b0 + 1) (d + 12) g_law 1918 (lwL v4) [] σ Q := by
  unfold lwL
  have hLc := hL.1
  have hLr := hL.2.1
  refine ra_load lc_1918 rfl rfl rfl ?_
  refine ra_load lc_1919 rfl rfl rfl ?_
  refine ra_load lc_1920 rfl rfl rfl ?_
  refine ra_iconst lc_1922 ?_
  refine ra_iadd lc_1923 ?_
  refine ra_sld lc_1924 rfl (show n ≤ 2147483647 by omega) (by first | omega | (unfold ra_in at *; omega)) (show (v4 + (1)) < (n : Int) by omega) ?_
  refine ra_gen (fun z1 hz1 => ?_)
  refine ra_load lc_1925 rfl rfl rfl ?_
  refine ra_call (b1 := 1) (b2 := b0) lc_1926 (ct_380 rfl lk_9_335 (Or.inl rfl) (Nat.le_of_ble_eq_true rfl)) (sp_380 hz1 hLc) (fun t s2 h => ?_) (by omega) (fun E s2 h => by obtain ⟨⟨z, -, e⟩, -⟩ := h; cases e)
  obtain ⟨⟨z3, hz3, e⟩, hC⟩ := h
  cases e
  have hLr1 := RF_c hC hLr
  refine ra_store (L' := [_, _, _, _, _, _, _, _, _]) lc_1929 rfl rfl (Nat.le_of_ble_eq_true rfl) rfl ?_
  refine ra_load lc_1931 rfl rfl rfl ?_
  refine ra_load lc_1932 rfl rfl rfl ?_
  refine ra_load lc_1933 rfl rfl rfl ?_
  refine ra_iconst lc_1935 ?_
  refine ra_iadd lc_1936 ?_
  refine ra_sld lc_1937 rfl (show n ≤ 2147483647 by omega) (by first | omega | (unfold ra_in at *; omega)) (show (v4 + (1)) < (n : Int) by omega) ?_
  refine ra_gen (fun z4 hz4 => ?_)
  refine ra_cI (sp_323 hz4 hLr1.1) lc_1938 (ct_323 rfl lk_9_337 (Or.inl rfl) sh_179 (Nat.le_of_ble_eq_true rfl)) (fun z6 s5 hz6 hs5 => ?_)
  have hR := (rh_q hLr1 hs5)
  refine ra_store (L' := [_, _, _, _, _, _, _, _, _]) lc_1941 rfl rfl (Nat.le_of_ble_eq_true rfl) rfl ?_
  refine ra_goto lc_1943 rfl ?_
  exact ra_P_mono (ra_weak (by repeat' constructor) (k _ (liv_e hL hC hR))) (fun _ _ h => h) (by omega)
theorem op_55 {n : Nat} {f : Nat → Int32} {d b0 : Nat} {σ : ra_V} {v4 : Int} {Q : ra_Q} (hn : n ≤ 3072) (hL : LIV σ) (h0 : 0 ≤ v4) (h1 : v4 + 6 ≤ n) (k : ∀ s, LIV s → ra_P (g_Gs n f) g_sh b0 (d + 12) g_law 2079 (lwL v4) [] s Q) : ra_P (g_Gs n f) g_sh (b0 + 1) (d + 12) g_law 1946 (lwL v4) [] σ Q := by
  unfold lwL
  have hLc := hL.1
  have hLr := hL.2.1
  refine ra_load lc_1946 rfl rfl rfl ?_
  refine ra_load lc_1947 rfl rfl rfl ?_
  refine ra_load lc_1948 rfl rfl rfl ?_
  refine ra_iconst lc_1950 ?_
  refine ra_iadd lc_1951 ?_
  refine ra_sld lc_1952 rfl (show n ≤ 2147483647 by omega) (by first | omega | (unfold ra_in at *; omega)) (show (v4 + (1)) < (n : Int) by omega) ?_
  refine ra_gen (fun z1 hz1 => ?_)
  refine ra_load lc_1953 rfl rfl rfl ?_
  refine ra_load lc_1954 rfl rfl rfl ?_
  refine ra_iconst lc_1956 ?_
  refine ra_iadd lc_1957 ?_
  refine ra_sld lc_1958 rfl (show n ≤ 2147483647 by omega) (by first | omega | (unfold ra_in at *; omega)) (show (v4 + (2)) < (n : Int) by omega) ?_
  refine ra_gen (fun z2 hz2 => ?_)
  refine ra_ifeq lc_1959 rfl hz2 (fun h3 => ?_) (fun h3 => ?_)
  · refine ra_iconst lc_1966 ?_
    refine ra_cIp (sp_166 hz1 (Or.inl rfl)) lc_1967 (ct_166 rfl lk_9_338 (Or.inl rfl) sh_0 (Nat.le_of_ble_eq_true rfl)) (fun z5 hz5 => ?_)
    refine ra_pop lc_1970 rfl ?_
    refine ra_load lc_1971 rfl rfl rfl ?_
    refine ra_load lc_1972 rfl rfl rfl ?_
    refine ra_load lc_1973 rfl rfl rfl ?_
    refine ra_iconst lc_1975 ?_
    refine ra_iadd lc_1976 ?_
    refine ra_sld lc_1977 rfl (show n ≤ 2147483647 by omega) (by first | omega | (unfold ra_in at *; omega)) (show (v4 + (1)) < (n : Int) by omega) ?_
    refine ra_gen (fun z6 hz6 => ?_)
    refine ra_load lc_1978 rfl rfl rfl ?_
    refine ra_load lc_1979 rfl rfl rfl ?_
    refine ra_iconst lc_1981 ?_
    refine ra_iadd lc_1982 ?_
    refine ra_sld lc_1983 rfl (show n ≤ 2147483647 by omega) (by first | omega | (unfold ra_in at *; omega)) (show (v4 + (2)) < (n : Int) by omega) ?_
    refine ra_gen (fun z7 hz7 => ?_)
    refine ra_ifeq lc_1984 rfl hz7 (fun h8 => ?_) (fun h8 => ?_)
    · refine ra_iconst lc_1991 ?_
      refine ra_cI (sp_324 hz6 (Or.inl rfl) hLr.1) lc_1992 (ct_324 rfl lk_9_342 (Or.inl rfl) sh_179 (Nat.le_of_ble_eq_true rfl)) (fun z10 s9 hz10 hs9 => ?_)
      have hR := (rh_q hLr hs9)
      refine ra_pop lc_1995 rfl ?_
      refine ra_goto lc_1996 rfl ?_
      exact ra_P_mono (ra_weak (by repeat' constructor) (k _ (liv_e hL (ch_e rfl hLc) hR))) (fun _ _ h => h) (by omega)
    · refine ra_iconst lc_1987 ?_
      refine ra_goto lc_1988 rfl ?_
      refine ra_cI (sp_324 hz6 (Or.inr rfl) hLr.1) lc_1992 (ct_324 rfl lk_9_342 (Or.inl rfl) sh_179 (Nat.le_of_ble_eq_true rfl)) (fun z12 s11 hz12 hs11 => ?_)
      have hR := (rh_q hLr hs11)
      refine ra_pop lc_1995 rfl ?_
      refine ra_goto lc_1996 rfl ?_
      exact ra_P_mono (ra_weak (by repeat' constructor) (k _ (liv_e hL (ch_e rfl hLc) hR))) (fun _ _ h => h) (by omega)
  · refine ra_iconst lc_1962 ?_
    refine ra_goto lc_1963 rfl ?_
    refine ra_cIp (sp_166 hz1 (Or.inr rfl)) lc_1967 (ct_166 rfl lk_9_338 (Or.inl rfl) sh_0 (Nat.le_of_ble_eq_true rfl)) (fun z14 hz14 => ?_)
    refine ra_pop lc_1970 rfl ?_
    refine ra_load lc_1971 rfl rfl rfl ?_
    refine ra_load lc_1972 rfl rfl rfl ?_
    refine ra_load lc_1973 rfl rfl rfl ?_
    refine ra_iconst lc_1975 ?_
    refine ra_iadd lc_1976 ?_
    refine ra_sld lc_1977 rfl (show n ≤ 2147483647 by omega) (by first | omega | (unfold ra_in at *; omega)) (show (v4 + (1)) < (n : Int) by omega) ?_
    refine ra_gen (fun z15 hz15 => ?_)
    refine ra_load lc_1978 rfl rfl rfl ?_
    refine ra_load lc_1979 rfl rfl rfl ?_
    refine ra_iconst lc_1981 ?_
    refine ra_iadd lc_1982 ?_
    refine ra_sld lc_1983 rfl (show n ≤ 2147483647 by omega) (by first | omega | (unfold ra_in at *; omega)) (show (v4 + (2)) < (n : Int) by omega) ?_
    refine ra_gen (fun z16 hz16 => ?_)
    refine ra_ifeq lc_1984 rfl hz16 (fun h17 => ?_) (fun h17 => ?_)
    · refine ra_iconst lc_1991 ?_
      refine ra_cI (sp_324 hz15 (Or.inl rfl) hLr.1) lc_1992 (ct_324 rfl lk_9_342 (Or.inl rfl) sh_179 (Nat.le_of_ble_eq_true rfl)) (fun z19 s18 hz19 hs18 => ?_)
      have hR := (rh_q hLr hs18)
      refine ra_pop lc_1995 rfl ?_
      refine ra_goto lc_1996 rfl ?_
      exact ra_P_mono (ra_weak (by repeat' constructor) (k _ (liv_e hL (ch_e rfl hLc) hR))) (fun _ _ h => h) (by omega)
    · refine ra_iconst lc_1987 ?_
      refine ra_goto lc_1988 rfl ?_
      refine ra_cI (sp_324 hz15 (Or.inr rfl) hLr.1) lc_1992 (ct_324 rfl lk_9_342 (Or.inl rfl) sh_179 (Nat.le_of_ble_eq_true rfl)) (fun z21 s20 hz21 hs20 => ?_)
      have hR := (rh_q hLr hs20)
      refine ra_pop lc_1995 rfl ?_
      refine ra_goto lc_1996 rfl ?_
      exact ra_P_mono (ra_weak (by repeat' constructor) (k _ (liv_e hL (ch_e rfl hLc) hR))) (fun _ _ h => h) (by omega)
theorem op_56 {n : Nat} {f : Nat → Int32} {d b0 : Nat} {σ : ra_V} {v4 : Int} {Q : ra_Q} (hn : n ≤ 3072) (hL : LIV σ) (h0 : 0 ≤ v4) (h1 : v4 + 6 ≤ n) (k : ∀ s, LIV s → ra_P (g_Gs n f) g_sh b0 (d + 12) g_law 2079 (lwL v4) [] s Q) : ra_P (g_Gs n f) g_sh (b0 + 1) (d + 12) g_law 1999 (lwL v4) [] σ Q := by
  unfold lwL
  have hLc := hL.1
  have hLr := hL.2.1
  refine ra_load lc_1999 rfl rfl rfl ?_
  refine ra_cI (sp_170 ) lc_2000 (ct_170 rfl lk_9_343 (Or.inl rfl) sh_0 (Nat.le_of_ble_eq_true rfl)) (fun z2 s1 hz2 hs1 => ?_)
  have hC := (ch_oo hs1 hLc)
  have hLr1 := RF_c hC hLr
  refine ra_pop lc_2003 rfl ?_
  refine ra_load lc_2004 rfl rfl rfl ?_
  refine ra_cI (sp_336 hLr1.1) lc_2005 (ct_336 rfl lk_9_346 (Or.inl rfl) sh_179 (Nat.le_of_ble_eq_true rfl)) (fun z4 s3 hz4 hs3 => ?_)
  have hR := (rh_p hLr1 hs3)
  refine ra_pop lc_2008 rfl ?_
  refine ra_goto lc_2009 rfl ?_
  exact ra_P_mono (ra_weak (by repeat' constructor) (k _ (liv_e hL hC hR))) (fun _ _ h => h) (by omega)
theorem op_57 {n : Nat} {f : Nat → Int32} {d b0 : Nat} {σ : ra_V} {v4 : Int} {Q : ra_Q} (hn : n ≤ 3072) (hL : LIV σ) (h0 : 0 ≤ v4) (h1 : v4 + 6 ≤ n) (k : ∀ s, LIV s → ra_P (g_Gs n f) g_sh b0 (d + 12) g_law 2079 (lwL v4) [] s Q) : ra_P (g_Gs n f) g_sh (b0 + 1) (d + 12) g_law 2012 (lwL v4) [] σ Q := by
  unfold lwL
  have hLc := hL.1
  have hLr := hL.2.1
  refine ra_load lc_2012 rfl rfl rfl ?_
  refine ra_load lc_2013 rfl rfl rfl ?_
  refine ra_load lc_2014 rfl rfl rfl ?_
  refine ra_iconst lc_2016 ?_
  refine ra_iadd lc_2017 ?_
  refine ra_sld lc_2018 rfl (show n ≤ 2147483647 by omega) (by first | omega | (unfold ra_in at *; omega)) (show (v4 + (1)) < (n : Int) by omega) ?_
  refine ra_gen (fun z1 hz1 => ?_)
  refine ra_cIp (sp_171 hz1) lc_2019 (ct_171 rfl lk_9_347 (Or.inl rfl) sh_0 (Nat.le_of_ble_eq_true rfl)) (fun z3 hz3 => ?_)
  refine ra_pop lc_2022 rfl ?_
  refine ra_load lc_2023 rfl rfl rfl ?_
  refine ra_load lc_2024 rfl rfl rfl ?_
  refine ra_load lc_2025 rfl rfl rfl ?_
  refine ra_iconst lc_2027 ?_
  refine ra_iadd lc_2028 ?_
  refine ra_sld lc_2029 rfl (show n ≤ 2147483647 by omega) (by first | omega | (unfold ra_in at *; omega)) (show (v4 + (1)) < (n : Int) by omega) ?_
  refine ra_gen (fun z4 hz4 => ?_)
  refine ra_cI (sp_338 hz4 hLr.1 hLr.2.2.2.2) lc_2030 (ct_338 rfl lk_9_350 (Or.inl rfl) sh_179 (Nat.le_of_ble_eq_true rfl)) (fun z6 s5 hz6 hs5 => ?_)
  have hR := (rh_q hLr hs5)
  refine ra_pop lc_2033 rfl ?_
  refine ra_goto lc_2034 rfl ?_
  exact ra_P_mono (ra_weak (by repeat' constructor) (k _ (liv_e hL (ch_e rfl hLc) hR))) (fun _ _ h => h) (by omega)
theorem op_58 {n : Nat} {f : Nat → Int32} {d b0 : Nat} {σ : ra_V} {v4 : Int} {Q : ra_Q} (hn : n ≤ 3072) (hL : LIV σ) (h0 : 0 ≤ v4) (h1 : v4 + 6 ≤ n) (k : ∀ s, LIV s → ra_P (g_Gs n f) g_sh b0 (d + 12) g_law 2079 (lwL v4) [] s Q) : ra_P (g_Gs n f) g_sh (b0 + 1) (d + 12) g_law 2037 (lwL v4) [] σ Q := by
  unfold lwL
  have hLc := hL.1
  have hLr := hL.2.1
  refine ra_load lc_2037 rfl rfl rfl ?_
  refine ra_cI (sp_172 hLc) lc_2038 (ct_172 rfl lk_9_351 (Or.inl rfl) sh_0 (Nat.le_of_ble_eq_true rfl)) (fun z2 s1 hz2 hs1 => ?_)
  have hC := (ch_op hs1)
  have hLr1 := RF_c hC hLr
  refine ra_pop lc_2041 rfl ?_
  refine ra_load lc_2042 rfl rfl rfl ?_
  refine ra_cI (sp_339 hLr1.1 hLr1.2.1) lc_2043 (ct_339 rfl lk_9_354 (Or.inl rfl) sh_179 (Nat.le_of_ble_eq_true rfl)) (fun z4 s3 hz4 hs3 => ?_)
  have hR := (rh_m hLr1 hs3)
  refine ra_pop lc_2046 rfl ?_
  refine ra_goto lc_2047 rfl ?_
  exact ra_P_mono (ra_weak (by repeat' constructor) (k _ (liv_e hL hC hR))) (fun _ _ h => h) (by omega)
theorem op_59 {n : Nat} {f : Nat → Int32} {d b0 : Nat} {σ : ra_V} {v4 : Int} {Q : ra_Q} (hn : n ≤ 3072) (hL : LIV σ) (h0 : 0 ≤ v4) (h1 : v4 + 6 ≤ n) (k : ∀ s, LIV s → ra_P (g_Gs n f) g_sh b0 (d + 12) g_law 2079 (lwL v4) [] s Q) : ra_P (g_Gs n f) g_sh (b0 + 1) (d + 12) g_law 2050 (lwL v4) [] σ Q := by
  unfold lwL
  have hLc := hL.1
  have hLr := hL.2.1
  refine ra_load lc_2050 rfl rfl rfl ?_
  refine ra_cI (sp_173 hLc) lc_2051 (ct_173 rfl lk_9_355 (Or.inl rfl) sh_0 (Nat.le_of_ble_eq_true rfl)) (fun z2 s1 hz2 hs1 => ?_)
  have hC := (ch_op hs1)
  have hLr1 := RF_c hC hLr
  refine ra_pop lc_2054 rfl ?_
  refine ra_load lc_2055 rfl rfl rfl ?_
  refine ra_cI (sp_340 hLr1.1) lc_2056 (ct_340 rfl lk_9_358 (Or.inl rfl) sh_179 (Nat.le_of_ble_eq_true rfl)) (fun z4 s3 hz4 hs3 => ?_)
  have hR := (rh_s hLr1 hs3)
  refine ra_pop lc_2059 rfl ?_
  refine ra_goto lc_2060 rfl ?_
  exact ra_P_mono (ra_weak (by repeat' constructor) (k _ (liv_e hL hC hR))) (fun _ _ h => h) (by omega)
theorem op_60 {n : Nat} {f : Nat → Int32} {d b0 : Nat} {σ : ra_V} {v4 : Int} {Q : ra_Q} (hn : n ≤ 3072) (hL : LIV σ) (h0 : 0 ≤ v4) (h1 : v4 + 6 ≤ n) (k : ∀ s, LIV s → ra_P (g_Gs n f) g_sh b0 (d + 12) g_law 2079 (lwL v4) [] s Q) : ra_P (g_Gs n f) g_sh (b0 + 1) (d + 12) g_law 2063 (lwL v4) [] σ Q := by
  unfold lwL
  have hLc := hL.1
  have hLr := hL.2.1
  refine ra_load lc_2063 rfl rfl rfl ?_
  refine ra_load lc_2064 rfl rfl rfl ?_
  refine ra_call (b1 := 1) (b2 := b0) lc_2065 (ct_381 rfl lk_9_359 (Or.inl rfl) (Nat.le_of_ble_eq_true rfl)) (sp_381  hLc) (fun t s1 h => ?_) (by omega) (fun E s1 h => by obtain ⟨⟨z, -, e⟩, -⟩ := h; cases e)
  obtain ⟨⟨z2, hz2, e⟩, hC⟩ := h
  cases e
  have hLr1 := RF_c hC hLr
  refine ra_store (L' := [_, _, _, _, _, _, _, _, _]) lc_2068 rfl rfl (Nat.le_of_ble_eq_true rfl) rfl ?_
  refine ra_load lc_2070 rfl rfl rfl ?_
  refine ra_cI (sp_341 hLr1.1 hLr1.2.1 hLr1.2.2.1) lc_2071 (ct_341 rfl lk_9_361 (Or.inl rfl) sh_179 (Nat.le_of_ble_eq_true rfl)) (fun z4 s3 hz4 hs3 => ?_)
  have hR := (rh_m hLr1 hs3)
  refine ra_store (L' := [_, _, _, _, _, _, _, _, _]) lc_2074 rfl rfl (Nat.le_of_ble_eq_true rfl) rfl ?_
  refine ra_goto lc_2076 rfl ?_
  exact ra_P_mono (ra_weak (by repeat' constructor) (k _ (liv_e hL hC hR))) (fun _ _ h => h) (by omega)
end RL
