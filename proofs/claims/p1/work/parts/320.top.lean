/-! the law, from its entry to its end -/
section GT
theorem g_ops (k : Nat) (hk : k < 61) (h17 : k ≠ 17) (h18 : k ≠ 18) : g_run (g_cd (Int32.ofNat k)) = true := by
  match k, hk, h17, h18 with
  | 0, _, _, _ => exact o_0
  | 1, _, _, _ => exact o_1
  | 2, _, _, _ => exact o_2
  | 3, _, _, _ => exact o_3
  | 4, _, _, _ => exact o_4
  | 5, _, _, _ => exact o_5
  | 6, _, _, _ => exact o_6
  | 7, _, _, _ => exact o_7
  | 8, _, _, _ => exact o_8
  | 9, _, _, _ => exact o_9
  | 10, _, _, _ => exact o_10
  | 11, _, _, _ => exact o_11
  | 12, _, _, _ => exact o_12
  | 13, _, _, _ => exact o_13
  | 14, _, _, _ => exact o_14
  | 15, _, _, _ => exact o_15
  | 16, _, _, _ => exact o_16
  | 17, _, h, _ => exact absurd rfl h
  | 18, _, _, h => exact absurd rfl h
  | 19, _, _, _ => exact o_19
  | 20, _, _, _ => exact o_20
  | 21, _, _, _ => exact o_21
  | 22, _, _, _ => exact o_22
  | 23, _, _, _ => exact o_23
  | 24, _, _, _ => exact o_24
  | 25, _, _, _ => exact o_25
  | 26, _, _, _ => exact o_26
  | 27, _, _, _ => exact o_27
  | 28, _, _, _ => exact o_28
  | 29, _, _, _ => exact o_29
  | 30, _, _, _ => exact o_30
  | 31, _, _, _ => exact o_31
  | 32, _, _, _ => exact o_32
  | 33, _, _, _ => exact o_33
  | 34, _, _, _ => exact o_34
  | 35, _, _, _ => exact o_35
  | 36, _, _, _ => exact o_36
  | 37, _, _, _ => exact o_37
  | 38, _, _, _ => exact o_38
  | 39, _, _, _ => exact o_39
  | 40, _, _, _ => exact o_40
  | 41, _, _, _ => exact o_41
  | 42, _, _, _ => exact o_42
  | 43, _, _, _ => exact o_43
  | 44, _, _, _ => exact o_44
  | 45, _, _, _ => exact o_45
  | 46, _, _, _ => exact o_46
  | 47, _, _, _ => exact o_47
  | 48, _, _, _ => exact o_48
  | 49, _, _, _ => exact o_49
  | 50, _, _, _ => exact o_50
  | 51, _, _, _ => exact o_51
  | 52, _, _, _ => exact o_52
  | 53, _, _, _ => exact o_53
  | 54, _, _, _ => exact o_54
  | 55, _, _, _ => exact o_55
  | 56, _, _, _ => exact o_56
  | 57, _, _, _ => exact o_57
  | 58, _, _, _ => exact o_58
  | 59, _, _, _ => exact o_59
  | 60, _, _, _ => exact o_60
  | k + 61, h, _, _ => omega
theorem g_adds (k : Nat) (hk : k < 64) : g_17 k = true := by
  match k, hk with
  | 0, _ => exact o_17_0
  | 1, _ => exact o_17_1
  | 2, _ => exact o_17_2
  | 3, _ => exact o_17_3
  | 4, _ => exact o_17_4
  | 5, _ => exact o_17_5
  | 6, _ => exact o_17_6
  | 7, _ => exact o_17_7
  | 8, _ => exact o_17_8
  | 9, _ => exact o_17_9
  | 10, _ => exact o_17_10
  | 11, _ => exact o_17_11
  | 12, _ => exact o_17_12
  | 13, _ => exact o_17_13
  | 14, _ => exact o_17_14
  | 15, _ => exact o_17_15
  | 16, _ => exact o_17_16
  | 17, _ => exact o_17_17
  | 18, _ => exact o_17_18
  | 19, _ => exact o_17_19
  | 20, _ => exact o_17_20
  | 21, _ => exact o_17_21
  | 22, _ => exact o_17_22
  | 23, _ => exact o_17_23
  | 24, _ => exact o_17_24
  | 25, _ => exact o_17_25
  | 26, _ => exact o_17_26
  | 27, _ => exact o_17_27
  | 28, _ => exact o_17_28
  | 29, _ => exact o_17_29
  | 30, _ => exact o_17_30
  | 31, _ => exact o_17_31
  | 32, _ => exact o_17_32
  | 33, _ => exact o_17_33
  | 34, _ => exact o_17_34
  | 35, _ => exact o_17_35
  | 36, _ => exact o_17_36
  | 37, _ => exact o_17_37
  | 38, _ => exact o_17_38
  | 39, _ => exact o_17_39
  | 40, _ => exact o_17_40
  | 41, _ => exact o_17_41
  | 42, _ => exact o_17_42
  | 43, _ => exact o_17_43
  | 44, _ => exact o_17_44
  | 45, _ => exact o_17_45
  | 46, _ => exact o_17_46
  | 47, _ => exact o_17_47
  | 48, _ => exact o_17_48
  | 49, _ => exact o_17_49
  | 50, _ => exact o_17_50
  | 51, _ => exact o_17_51
  | 52, _ => exact o_17_52
  | 53, _ => exact o_17_53
  | 54, _ => exact o_17_54
  | 55, _ => exact o_17_55
  | 56, _ => exact o_17_56
  | 57, _ => exact o_17_57
  | 58, _ => exact o_17_58
  | 59, _ => exact o_17_59
  | 60, _ => exact o_17_60
  | 61, _ => exact o_17_61
  | 62, _ => exact o_17_62
  | 63, _ => exact o_17_63
  | k + 64, h => omega
section GT1
variable {p : Program} {l : Launch} {e : Env} {R : Room} {s : State} {m : MethodId} {args : Array Value} {below : List Frame} {meth : Method} {c : Code} {D : va_G} {tyc : Nat → ClassId} {A : Nat → Prop} {ρ : Nat → Int32} {sa : String → Nat → Nat} {ad0 : Nat → Nat} {mcT msT : Nat}
variable {pc : Nat} {lv : List (Nat × Jvm.Term)} {st : List Jvm.Term} {cs : List ri_Cd} {mem : ri_Me} {rs : ri_Rs} {kc ks : Nat}
theorem g_co : ∀ pc i len, (ri_co g_law)[pc]? = some (some (i, len)) → decode (ri_by g_law) pc = .ok (i, len) := tb_dl
theorem g_one {M : ri_Mt} (hM : ∀ pc i len, (ri_co M)[pc]? = some (some (i, len)) → decode (ri_by M) pc = .ok (i, len)) (hl : l.stackTraces = false) (hsc : ri_hsc M ρ sa A s) (hC : ri_Cx l g_ALL g_STR sa g_G M D tyc A p s m args meth c R 30 8 mcT msT) {f : Nat} (h : ry_runB g_G (ry_call g_G 30000 8) M ri_B0 f pc lv st cs mem = some rs) (hok : ri_okB kc ks rs = true) : ri_Go p l e R s m args below meth c g_G M D tyc A ρ sa ad0 mcT msT pc lv st cs mem kc ks := by
  rw [ry_eq] at h
  exact ri_to1 (ri_run_W (B := ri_B0) (fun _ _ _ _ _ _ z => by cases z) hsc tb_ac hC (fun mi as cs mem rs h9 => ri_call_W hl tb_TB 8 mi as cs mem rs h9) hM f pc lv st cs mem rs h) hok
theorem g_stage {M : ri_Mt} {B : ri_K} (hM : ∀ pc i len, (ri_co M)[pc]? = some (some (i, len)) → decode (ri_by M) pc = .ok (i, len)) (hl : l.stackTraces = false) (hsc : ri_hsc M ρ sa A s) (hC : ri_Cx l g_ALL g_STR sa g_G M D tyc A p s m args meth c R 30 8 mcT msT) {f : Nat}
    (hB : ∀ pc lv st cs mem rs, B pc lv st cs mem = some rs → ri_So p l e R s m args below meth c g_G M D tyc A ρ sa 0 ad0 [ri_lf1] mcT msT pc lv st cs mem rs)
    (h : ry_runB g_G (ry_call g_G 30000 8) M B f pc lv st cs mem = some rs) (h1 : rs.1.isEmpty = true) (h2 : Nat.ble rs.2.1 kc = true) (h3 : Nat.ble rs.2.2.1 ks = true) (h4 : rs.2.2.2.isEmpty = true) : ri_Go p l e R s m args below meth c g_G M D tyc A ρ sa ad0 mcT msT pc lv st cs mem kc ks := by
  rw [ry_eq] at h
  have h1 := List.isEmpty_iff.mp h1
  have h2 := Nat.le_of_ble_eq_true h2
  have h3 := Nat.le_of_ble_eq_true h3
  have h4 := List.isEmpty_iff.mp h4
  have hS := ri_run_W (LT := [ri_lf1]) hB hsc tb_ac hC (fun mi as cs mem rs h9 => ri_call_W hl tb_TB 8 mi as cs mem rs h9) hM f pc lv st cs mem rs h
  exact ri_So_le hS ⟨fun x hx => (by rw [h1] at hx; cases hx), h2, h3, fun o ho => (by rw [h4] at ho; cases ho)⟩
theorem g_mono {M : ri_Mt} {k1 s1 : Nat} (h1 : k1 ≤ kc) (h2 : s1 ≤ ks) (h : ri_Go p l e R s m args below meth c g_G M D tyc A ρ sa ad0 mcT msT pc lv st cs mem k1 s1) : ri_Go p l e R s m args below meth c g_G M D tyc A ρ sa ad0 mcT msT pc lv st cs mem kc ks :=
  ri_So_le h ⟨fun x hx => hx, h1, h2, fun o ho => ho⟩
section GT2
theorem g_runW (h : g_run cs = true) (hl : l.stackTraces = false) (hsc : ri_hsc g_law ρ sa A s) (hC : ri_Cx l g_ALL g_STR sa g_G g_law D tyc A p s m args meth c R 30 8 mcT msT) : ri_Go p l e R s m args below meth c g_G g_law D tyc A ρ sa ad0 mcT msT 23 g_lv1 [] cs g_mem1 1000 10000 := by
  unfold g_run at h
  split at h
  · next r hr => exact g_mono (by decide) (by decide) (g_one g_co hl hsc hC hr h)
  · cases h
theorem g_restW {rs : ri_Rs} (hl : l.stackTraces = false) (hsc : ri_hsc g_law ρ sa A s) (hC : ri_Cx l g_ALL g_STR sa g_G g_law D tyc A p s m args meth c R 30 8 mcT msT) (h : g_rest pc lv st cs mem = some rs) : ri_So p l e R s m args below meth c g_G g_law D tyc A ρ sa 0 ad0 [ri_lf1] mcT msT pc lv st cs mem rs := by
  unfold g_rest g_sum at h
  cases hr : ry_runB g_G (ry_call g_G 30000 8) g_law ri_B0 400 pc lv st cs mem with
  | none => rw [hr] at h; cases h
  | some r =>
    rw [hr, rz_o_some, rz_if_eq] at h
    split at h
    · next hok => cases h; exact g_one g_co hl hsc hC hr hok
    · cases h
theorem g_twoW {pc0 : Nat} {cs cs2 : List ri_Cd} (h1 : g_st1 pc0 cs cs2 = true) (h2 : g_st2 pc0 cs2 = true) (hl : l.stackTraces = false) (hsc : ri_hsc g_law ρ sa A s) (hC : ri_Cx l g_ALL g_STR sa g_G g_law D tyc A p s m args meth c R 30 8 mcT msT) : ri_Go p l e R s m args below meth c g_G g_law D tyc A ρ sa ad0 mcT msT 23 g_lv1 [] cs g_mem1 1000 10000 := by
  unfold g_st2 at h2
  split at h2
  · next r2 hr2 =>
    have hG := fun ad0 => g_one (ad0 := ad0) (e := e) (below := below) g_co hl hsc hC hr2 h2
    unfold g_st1 at h1
    split at h1
    · next r hr =>
      simp only [Bool.and_eq_true] at h1
      refine g_stage g_co hl hsc hC (fun pc lv st cs mem rs hB => ?_) hr h1.1 h1.2.1 h1.2.2.1 h1.2.2.2
      rcases ri_gs_s g_fit2 (hG ad0) hB with ⟨rfl, hgo⟩ | hr9
      · exact hgo
      · exact g_restW hl hsc hC hr9
    · cases h1
  · cases h2
theorem g_and (x : Int32) : 0 ≤ (x &&& 63).toInt ∧ (x &&& 63).toInt ≤ 63 := by
  have h : (x &&& 63).toBitVec.toNat ≤ 63 := by
    show (x.toBitVec &&& (63 : Int32).toBitVec).toNat ≤ 63
    rw [BitVec.toNat_and]
    exact Nat.and_le_right
  rw [rz_toInt, if_pos (by omega)]
  omega
theorem g_ofNat (k : Nat) (hk : k < 1000) : (Int32.ofNat k).toInt = (k : Int) := by
  have e : Int32.ofNat k = Int32.ofInt (k : Int) := rfl
  rw [e]
  exact ri_ofI (by omega) (by omega)
theorem g_eqN {x : Int32} {k : Nat} (hk : k < 1000) (h : x.toInt = (k : Int)) : x = Int32.ofNat k := by
  rw [← Int32.toInt_inj, h, g_ofNat k hk]
/-- from behind the constructors, on six ints -/
theorem g_six (hl : l.stackTraces = false) (hsc : ri_hsc g_law ρ sa A s) (hC : ri_Cx l g_ALL g_STR sa g_G g_law D tyc A p s m args meth c R 30 8 mcT msT) : ri_Go p l e R s m args below meth c g_G g_law D tyc A ρ sa ad0 mcT msT 23 g_lv1 [] [] g_mem1 1000 10000 := by
  have hx : ri_iv ρ (.op2 .iand (.arg 0) (.int 63)) = ρ 0 &&& 63 := rfl
  obtain ⟨b1, b2⟩ := g_and (ρ 0)
  by_cases h61 : (ρ 0 &&& 63).toInt < 61
  · obtain ⟨k, hk⟩ : ∃ k : Nat, (ρ 0 &&& 63).toInt = (k : Int) := ⟨(ρ 0 &&& 63).toInt.toNat, by omega⟩
    have hk61 : k < 61 := by omega
    have hx2 : ri_iv ρ (.op2 .iand (.arg 0) (.int 63)) = Int32.ofNat k := by rw [hx]; exact g_eqN (by omega) hk
    have hs0 : ri_sat ρ (0, .op2 .iand (.arg 0) (.int 63), .int (Int32.ofNat k), true) := ⟨fun _ => hx2, fun _ => rfl⟩
    by_cases h17 : k = 17
    · subst h17
      by_cases a1 : (ρ 1).toInt < 0
      · refine ri_cs (cs2 := [(1, .arg 1, .int 0, true), (0, .op2 .iand (.arg 0) (.int 63), .int 17, true)]) (fun _ q hq => ?_) (g_runW o_17lo hl hsc hC)
        rcases List.mem_cons.mp hq with rfl | hq
        · exact ⟨fun _ => Int32.lt_iff_toInt_lt.mpr a1, fun _ => rfl⟩
        · rw [List.mem_singleton.mp hq]
          exact hs0
      · by_cases a2 : (ρ 1).toInt < 64
        · obtain ⟨t, ht⟩ : ∃ t : Nat, (ρ 1).toInt = (t : Int) := ⟨(ρ 1).toInt.toNat, by omega⟩
          have ht64 : t < 64 := by omega
          have hs1 : ri_sat ρ (0, .arg 1, .int (Int32.ofNat t), true) := ⟨fun _ => g_eqN (by omega) ht, fun _ => rfl⟩
          have hA := g_adds t ht64
          unfold g_17 at hA
          simp only [Bool.and_eq_true] at hA
          obtain ⟨c1, c2, c3⟩ := hA
          have hsat : ∀ v : Bool, (v = true ↔ ρ 2 < Int32.ofNat (65 - t)) → ∀ q ∈ g_cd17 t v, ri_sat ρ q := by
            intro v hv q hq
            rcases List.mem_cons.mp hq with rfl | hq
            · exact hv
            · rcases List.mem_cons.mp hq with rfl | hq
              · exact hs1
              · rw [List.mem_singleton.mp hq]
                exact hs0
          by_cases a3 : ρ 2 < Int32.ofNat (65 - t)
          · exact ri_cs (fun _ => hsat true ⟨fun _ => a3, fun _ => rfl⟩) (g_twoW c2 c3 hl hsc hC)
          · exact ri_cs (fun _ => hsat false ⟨fun z => (by cases z), fun z => absurd z a3⟩) (g_runW c1 hl hsc hC)
        · refine ri_cs (cs2 := [(1, .arg 1, .int 64, false), (0, .op2 .iand (.arg 0) (.int 63), .int 17, true)]) (fun _ q hq => ?_) (g_runW o_17hi hl hsc hC)
          rcases List.mem_cons.mp hq with rfl | hq
          · refine ⟨fun z => (by cases z), fun z => absurd (Int32.lt_iff_toInt_lt.mp z) ?_⟩
            show ¬ (ρ 1).toInt < (64 : Int32).toInt
            have : (64 : Int32).toInt = 64 := by decide
            omega
          · rw [List.mem_singleton.mp hq]
            exact hs0
    · by_cases h18 : k = 18
      · subst h18
        refine ri_cs (fun _ q hq => ?_) (g_twoW o_18a o_18b hl hsc hC)
        rw [List.mem_singleton.mp hq]
        exact hs0
      · refine ri_cs (fun _ q hq => ?_) (g_runW (g_ops k hk61 h17 h18) hl hsc hC)
        rw [List.mem_singleton.mp hq]
        exact hs0
  · refine ri_cs (fun _ q hq => ?_) (g_runW o_61 hl hsc hC)
    rw [List.mem_singleton.mp hq]
    refine ⟨fun z => (by cases z), fun z => absurd (Int32.lt_iff_toInt_lt.mp z) ?_⟩
    show ¬ (ρ 0 &&& 63).toInt < (61 : Int32).toInt
    have : (61 : Int32).toInt = 61 := by decide
    omega
end GT2
end GT1
end GT
