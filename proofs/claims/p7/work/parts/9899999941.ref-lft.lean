/-! T5: what the reference changes (printed by wip/gen/r6.py) -/
section
theorem s6_244 {n : Nat} {f : Nat → Int32} {d : Nat} {x0 : Int} {σ : ra_V} (hx0 : ra_in x0) (hw : WF σ) (hp : 0 ≤ x0 ∧ x0 < 8 ∧ wq σ x0 0 = 1) : ra_C (g_Gs n f) g_sh 0 (d + 5) 244 [.index (179), ra_I x0] σ (fun r9 s => (∃ z, ra_in z ∧ ((z = -1 ∨ (0 ≤ z ∧ z ≤ 600 ∧ MOK σ x0 z)) ∧ x5HID (x5LST (fun k => x5whyM σ x0 k (ra_g σ 180 4) = 0) 0 (wq σ x0 1) z)) ∧ r9 = .inl (some (ra_I z))) ∧ s = σ) := ra_C_mono (s5_244 hx0 hw hp) (fun r s h => by obtain ⟨⟨z, hz, e, er⟩, hs⟩ := h; exact ⟨⟨z, hz, ⟨x5lf_old hw hp e, x5hid e⟩, er⟩, hs⟩) (Nat.le_refl _)
end
