/-! T5: the partitions by their starts: those that stand -/
section
section
variable {τ : ra_V} {c x y z : Int}
theorem x5nb_x (c : Int) : ∀ v : Nat, ∃ z, NB τ c (v : Int) z
  | 0 => ⟨-1, nb_0⟩
  | v + 1 => by
    obtain ⟨z, h⟩ := x5nb_x c v
    by_cases p : wq τ (v : Int) 0 = 1 ∧ c < wq τ (v : Int) 1
    · by_cases q : z = -1 ∨ wq τ (v : Int) 1 < wq τ z 1
      · refine ⟨(v : Int), Or.inr ⟨by omega, by omega, p.1, p.2⟩, fun r r0 r1 r2 r3 => ⟨by omega, ?_⟩⟩
        by_cases e : r = (v : Int)
        · rw [e]; exact Int.le_refl _
        · have := h.2 r r0 (by omega) r2 r3
          omega
      · refine ⟨z, ?_, fun r r0 r1 r2 r3 => ?_⟩
        · have := h.1.resolve_left (fun e => q (Or.inl e))
          exact Or.inr ⟨this.1, by omega, this.2.2.1, this.2.2.2⟩
        · by_cases e : r = (v : Int)
          · rw [e]; exact ⟨fun e => q (Or.inl e), by omega⟩
          · exact h.2 r r0 (by omega) r2 r3
    · exact ⟨z, nb_n h (by omega) p⟩
theorem x5nbF_s (c : Int) : NB τ c 8 (x5nbF τ c) := by
  have hx : ∃ z, NB τ c 8 z := x5nb_x c 8
  have e : x5nbF τ c = Classical.choose hx := @dif_pos (∃ z, NB τ c 8 z) (Classical.propDecidable _) hx Int (fun h => Classical.choose h) (fun _ => -1)
  rw [e]
  exact Classical.choose_spec hx
theorem x5ord_x (hW : WF τ) : ∀ j : Nat, (j : Int) < ct τ (-1) → x5EX τ (x5ordN τ j) ∧ ct τ (wq τ (x5ordN τ j) 1) = ct τ (-1) - j - 1
  | 0, h => by
    obtain ⟨h1, h2⟩ := nb_st hW (x5nbF_s (τ := τ) (-1)) (by omega)
    exact ⟨h1, h2.trans (by omega)⟩
  | j + 1, h => by
    obtain ⟨g1, g2⟩ := x5ord_x hW j (by omega)
    have hn : x5ordN τ j ≠ -1 := by have := g1.1; omega
    rw [x5ord_s hn]
    obtain ⟨h1, h2⟩ := nb_st hW (x5nbF_s (τ := τ) (wq τ (x5ordN τ j) 1)) (by omega)
    exact ⟨h1, h2.trans (by omega)⟩
theorem x5q3_cmp (hW : x5W2 τ) (hc : x5dcCp τ = 0) : x5W3 (x5pkV (ct τ (-1)).toNat τ) :=
  x5q3_cp hW hc _ (fun j hj => (x5ord_x hW.1 j (by omega)).1)
end
end
