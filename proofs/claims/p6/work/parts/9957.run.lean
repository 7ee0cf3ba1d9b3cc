/-! the law, from its entry to its end -/
section GT
section GT1
variable {p : Program} {l : Launch} {e : Env} {R : Room} {s : State} {m : MethodId} {args : Array Value} {below : List Frame} {meth : Method} {c : Code} {D : va_G} {tyc : Nat → ClassId} {A : Nat → Prop} {ρ : Nat → Int32} {sa : String → Nat → Nat} {ad0 : Nat → Nat} {mcT msT : Nat}
variable {pc : Nat} {lv : List (Nat × Jvm.Term)} {st : List Jvm.Term} {cs : List ri_Cd} {mem : ri_Me} {rs : ri_Rs} {kc ks L : Nat} {xs : Nat → Int32}
theorem g_TB (n : Nat) (f : Nat → Int32) : ri_TB g_ALL g_STR (g_Gs n f) 30 := tb_TB
theorem g_coP : ∀ pc i len, (ri_co g_lawP)[pc]? = some (some (i, len)) → decode (ri_by g_lawP) pc = .ok (i, len) := tb_dl
theorem g_stage {B : ri_K} (hl : l.stackTraces = false) (hsc : ri_hsc g_G g_lawP sa A s) (hC : ri_Cx l g_ALL g_STR sa g_G g_lawP D tyc A p s m args meth c R 30 12 mcT msT) {f : Nat}
    (hB : ∀ pc lv st cs mem rs, B pc lv st cs mem = some rs → ri_So p l e R s m args below meth c g_G g_lawP D tyc A ρ sa 0 ad0 [ri_lf1] mcT msT pc lv st cs mem rs)
    (h : ry_runB g_G (ry_call g_G 30000 12) g_lawP B f pc lv st cs mem = some rs) (h1 : rs.1.isEmpty = true) (h2 : Nat.ble rs.2.1 kc = true) (h3 : Nat.ble rs.2.2.1 ks = true) (h4 : rs.2.2.2.isEmpty = true) : ri_Go p l e R s m args below meth c g_G g_lawP D tyc A ρ sa ad0 mcT msT pc lv st cs mem kc ks := by
  rw [ry_eq] at h
  have h1 := List.isEmpty_iff.mp h1
  have h2 := Nat.le_of_ble_eq_true h2
  have h3 := Nat.le_of_ble_eq_true h3
  have h4 := List.isEmpty_iff.mp h4
  have hS := ri_run_W (LT := [ri_lf1]) hB hsc tb_ac hC (fun mi as cs mem rs h9 => ri_call_W hl tb_TB 12 mi as cs mem rs h9) g_coP f pc lv st cs mem rs h
  exact ri_So_le hS ⟨fun x hx => (by rw [h1] at hx; cases hx), h2, h3, fun o ho => (by rw [h4] at ho; cases ho)⟩
theorem g_okR {mem : ri_Me} {c9 s9 b : Nat} (hb : b ≤ 3073) (h3 : c9 ≤ b) (h4 : s9 ≤ 6 * b) : ri_okB 4000 20000 ([([], mem, .inl (some (ra_I 1)))], c9, s9, []) = true := by
  unfold ri_okB
  have e1 : Nat.ble c9 4000 = true := Nat.ble_eq_true_of_le (by omega)
  have e2 : Nat.ble s9 20000 = true := Nat.ble_eq_true_of_le (by omega)
  simp only [e1, e2, List.all_cons, List.all_nil, List.isEmpty_nil, Bool.and_true]
  decide
/-- from behind the constructors on -/
theorem g_loop (hL : L ≤ 3072) (hl : l.stackTraces = false) (hsc : ri_hsc (g_Gs L xs) g_law sa A s) (hC : ri_Cx l g_ALL g_STR sa (g_Gs L xs) g_law D tyc A p s m args meth c R 30 12 mcT msT) : ri_Go p l e R s m args below meth c (g_Gs L xs) g_law D tyc A ρ sa ad0 mcT msT 23 g_lv0 [] [] g_mem0 4000 20000 := by
  obtain ⟨r, σ', F, q, k⟩ := lw_loop (n := L) (f := xs) (d := 0) (Q := fun r _ => r = .inl (some (ra_I 1))) hL (fun _ => rfl) (L + 1) 0 g_s0 (by omega) (by omega) (by omega) g_liv0
  obtain ⟨mem, c9, s9, h1, h2, h3, h4⟩ := k F F (Nat.le_refl _) (Nat.le_refl _) g_lv0 g_mem0 g_lvok g_rep0
  subst q
  have hx : ra_x (.inl (some (ra_I 1))) = 0 := rfl
  rw [hx] at h3 h4
  exact ri_to1 (ri_run_W (B := ri_B0) (fun _ _ _ _ _ _ z => by cases z) hsc tb_ac hC (fun mi as cs mem rs h9 => ri_call_W hl (g_TB L xs) 12 mi as cs mem rs h9) tb_dl F 23 _ _ _ _ _ h1) (g_okR (b := L + 1) (by omega) h3 h4)
theorem g_entry (hl : l.stackTraces = false) (hC : ri_Cx l g_ALL g_STR sa g_G g_lawP D tyc A p s m args meth c R 30 12 mcT msT) (h23 : ri_Go p l e R s m args below meth c g_G g_lawP D tyc A ρ sa ad0 mcT msT 23 g_lv0 [] [] g_mem0 4000 20000) :
    ri_Go p l e R s m args below meth c g_G g_lawP D tyc A ρ sa ad0 mcT msT 0 [(0, .string "" 0)] [] [] [] 6000 80000 := by
  obtain ⟨r, hr, h9⟩ := g_preW
  unfold g_okE at h9
  simp only [Bool.and_eq_true] at h9
  refine g_stage hl (fun z => absurd z (by decide)) hC (fun pc lv st cs mem rs hB => ?_) hr h9.1 h9.2.1 h9.2.2.1 h9.2.2.2
  rcases ri_gs_s g_fit0 h23 hB with ⟨rfl, hgo⟩ | hr9
  · exact hgo
  · cases hr9
theorem g_hasRoom {s : State} {pl : Platform} {r r' : Room} (hf : r.frames ≤ r'.frames) (hl : r.locals ≤ r'.locals) (hc : r.cells ≤ r'.cells) (hs : r.slots ≤ r'.slots) (h : s.hasRoom pl r' = true) : s.hasRoom pl r = true := by
  simp only [State.hasRoom, Bool.and_eq_true, decide_eq_true_eq] at h ⊢
  obtain ⟨⟨⟨⟨h1, h2, h3, h4, h5, h6⟩, h7⟩, h8⟩, h9⟩ := h
  exact ⟨⟨⟨⟨by omega, by omega, by omega, by omega, by omega, h6⟩, by omega⟩, by omega⟩, h9⟩
end GT1
end GT
