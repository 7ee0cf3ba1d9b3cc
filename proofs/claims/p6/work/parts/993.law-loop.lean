/-! the law: its loop (printed by wip/gen/law.py) -/
section RL
theorem lw_loop {n : Nat} {f : Nat → Int32} {d : Nat} {Q : ra_Q} (hn : n ≤ 3072) (hQ : ∀ s, Q (.inl (some (ra_I 1))) s) : ∀ (nn : Nat) (v4 : Int) (σ : ra_V), 0 ≤ v4 → ((n : Int) - v4).toNat < nn → v4 ≤ 3100 → LIV σ → ra_P (g_Gs n f) g_sh nn (d + 12) g_law 23 (lwL v4) [] σ Q := by
  intro nn
  induction nn with
  | zero => intro v4 σ h0 hm; exact absurd hm (Nat.not_lt_zero _)
  | succ nn ih =>
    intro v4 σ h0 hm hv hL
    have hx4 : ra_in v4 := by unfold ra_in; omega
    have nxt : v4 + 6 ≤ n → ∀ s, LIV s → ra_P (g_Gs n f) g_sh nn (d + 12) g_law 2079 (lwL v4) [] s Q := fun h6 s hs => by
      refine ra_iinc (L' := lwL (v4 + 6)) lc_2079 rfl (Nat.le_of_ble_eq_true rfl) rfl ?_
      refine ra_goto lc_2082 rfl ?_
      exact ih (v4 + 6) s (by omega) (by omega) (by omega) hs
    refine ra_load lc_23 rfl rfl rfl ?_
    refine ra_load lc_25 rfl rfl rfl ?_
    refine ra_slen lc_26 rfl ?_
    refine ra_bipush lc_27 (by decide) ?_
    refine ra_isub lc_29 ?_
    refine ra_icgt lc_30 rfl hx4 (show ra_in ((n : Int) - 6) by unfold ra_in; omega) (fun h => ?_) (fun h => ?_)
    · refine ra_iconst lc_2085 ?_
      exact ra_ireturn lc_2086 (ra_okB (Or.inr rfl)) (hQ _)
    · have h : v4 ≤ (n : Int) - 6 := h
      have h6 : v4 + 6 ≤ n := by omega
      refine ra_load lc_33 rfl rfl rfl ?_
      refine ra_load lc_34 rfl rfl rfl ?_
      refine ra_sld lc_36 rfl (show n ≤ 2147483647 by omega) h0 (show v4 < (n : Int) by omega) ?_
      refine ra_gen (fun z hz => ?_)
      refine ra_bipush lc_37 (by decide) ?_
      refine ra_iand lc_39 ?_
      refine ra_gen (fun x hx => ?_)
      by_cases e0 : x = 0
      · refine ra_switch (t := 300) lc_40 hx ⟨by decide, by decide, by decide⟩ (Or.inl ⟨(0, 260), by rw [e0]; rfl, rfl⟩) ?_
        exact op_0 hn hL h0 h6 (nxt h6)
      by_cases e1 : x = 1
      · refine ra_switch (t := 373) lc_40 hx ⟨by decide, by decide, by decide⟩ (Or.inl ⟨(1, 333), by rw [e1]; rfl, rfl⟩) ?_
        exact op_1 hn hL h0 h6 (nxt h6)
      by_cases e2 : x = 2
      · refine ra_switch (t := 398) lc_40 hx ⟨by decide, by decide, by decide⟩ (Or.inl ⟨(2, 358), by rw [e2]; rfl, rfl⟩) ?_
        exact op_2 hn hL h0 h6 (nxt h6)
      by_cases e3 : x = 3
      · refine ra_switch (t := 411) lc_40 hx ⟨by decide, by decide, by decide⟩ (Or.inl ⟨(3, 371), by rw [e3]; rfl, rfl⟩) ?_
        exact op_3 hn hL h0 h6 (nxt h6)
      by_cases e4 : x = 4
      · refine ra_switch (t := 424) lc_40 hx ⟨by decide, by decide, by decide⟩ (Or.inl ⟨(4, 384), by rw [e4]; rfl, rfl⟩) ?_
        exact op_4 hn hL h0 h6 (nxt h6)
      by_cases e5 : x = 5
      · refine ra_switch (t := 437) lc_40 hx ⟨by decide, by decide, by decide⟩ (Or.inl ⟨(5, 397), by rw [e5]; rfl, rfl⟩) ?_
        exact op_5 hn hL h0 h6 (nxt h6)
      by_cases e6 : x = 6
      · refine ra_switch (t := 465) lc_40 hx ⟨by decide, by decide, by decide⟩ (Or.inl ⟨(6, 425), by rw [e6]; rfl, rfl⟩) ?_
        exact op_6 hn hL h0 h6 (nxt h6)
      by_cases e7 : x = 7
      · refine ra_switch (t := 505) lc_40 hx ⟨by decide, by decide, by decide⟩ (Or.inl ⟨(7, 465), by rw [e7]; rfl, rfl⟩) ?_
        exact op_7 hn hL h0 h6 (nxt h6)
      by_cases e8 : x = 8
      · refine ra_switch (t := 533) lc_40 hx ⟨by decide, by decide, by decide⟩ (Or.inl ⟨(8, 493), by rw [e8]; rfl, rfl⟩) ?_
        exact op_8 hn hL h0 h6 (nxt h6)
      by_cases e9 : x = 9
      · refine ra_switch (t := 561) lc_40 hx ⟨by decide, by decide, by decide⟩ (Or.inl ⟨(9, 521), by rw [e9]; rfl, rfl⟩) ?_
        exact op_9 hn hL h0 h6 (nxt h6)
      by_cases e10 : x = 10
      · refine ra_switch (t := 601) lc_40 hx ⟨by decide, by decide, by decide⟩ (Or.inl ⟨(10, 561), by rw [e10]; rfl, rfl⟩) ?_
        exact op_10 hn hL h0 h6 (nxt h6)
      by_cases e11 : x = 11
      · refine ra_switch (t := 629) lc_40 hx ⟨by decide, by decide, by decide⟩ (Or.inl ⟨(11, 589), by rw [e11]; rfl, rfl⟩) ?_
        exact op_11 hn hL h0 h6 (nxt h6)
      by_cases e12 : x = 12
      · refine ra_switch (t := 657) lc_40 hx ⟨by decide, by decide, by decide⟩ (Or.inl ⟨(12, 617), by rw [e12]; rfl, rfl⟩) ?_
        exact op_12 hn hL h0 h6 (nxt h6)
      by_cases e13 : x = 13
      · refine ra_switch (t := 697) lc_40 hx ⟨by decide, by decide, by decide⟩ (Or.inl ⟨(13, 657), by rw [e13]; rfl, rfl⟩) ?_
        exact op_13 hn hL h0 h6 (nxt h6)
      by_cases e14 : x = 14
      · refine ra_switch (t := 710) lc_40 hx ⟨by decide, by decide, by decide⟩ (Or.inl ⟨(14, 670), by rw [e14]; rfl, rfl⟩) ?_
        exact op_14 hn hL h0 h6 (nxt h6)
      by_cases e15 : x = 15
      · refine ra_switch (t := 750) lc_40 hx ⟨by decide, by decide, by decide⟩ (Or.inl ⟨(15, 710), by rw [e15]; rfl, rfl⟩) ?_
        exact op_15 hn hL h0 h6 (nxt h6)
      by_cases e16 : x = 16
      · refine ra_switch (t := 787) lc_40 hx ⟨by decide, by decide, by decide⟩ (Or.inl ⟨(16, 747), by rw [e16]; rfl, rfl⟩) ?_
        exact op_16 hn hL h0 h6 (nxt h6)
      by_cases e17 : x = 17
      · refine ra_switch (t := 824) lc_40 hx ⟨by decide, by decide, by decide⟩ (Or.inl ⟨(17, 784), by rw [e17]; rfl, rfl⟩) ?_
        exact op_17 hn hL h0 h6 (nxt h6)
      by_cases e18 : x = 18
      · refine ra_switch (t := 888) lc_40 hx ⟨by decide, by decide, by decide⟩ (Or.inl ⟨(18, 848), by rw [e18]; rfl, rfl⟩) ?_
        exact op_18 hn hL h0 h6 (nxt h6)
      by_cases e19 : x = 19
      · refine ra_switch (t := 952) lc_40 hx ⟨by decide, by decide, by decide⟩ (Or.inl ⟨(19, 912), by rw [e19]; rfl, rfl⟩) ?_
        exact op_19 hn hL h0 h6 (nxt h6)
      by_cases e20 : x = 20
      · refine ra_switch (t := 980) lc_40 hx ⟨by decide, by decide, by decide⟩ (Or.inl ⟨(20, 940), by rw [e20]; rfl, rfl⟩) ?_
        exact op_20 hn hL h0 h6 (nxt h6)
      by_cases e21 : x = 21
      · refine ra_switch (t := 1036) lc_40 hx ⟨by decide, by decide, by decide⟩ (Or.inl ⟨(21, 996), by rw [e21]; rfl, rfl⟩) ?_
        exact op_21 hn hL h0 h6 (nxt h6)
      by_cases e22 : x = 22
      · refine ra_switch (t := 1076) lc_40 hx ⟨by decide, by decide, by decide⟩ (Or.inl ⟨(22, 1036), by rw [e22]; rfl, rfl⟩) ?_
        exact op_22 hn hL h0 h6 (nxt h6)
      by_cases e23 : x = 23
      · refine ra_switch (t := 1116) lc_40 hx ⟨by decide, by decide, by decide⟩ (Or.inl ⟨(23, 1076), by rw [e23]; rfl, rfl⟩) ?_
        exact op_23 hn hL h0 h6 (nxt h6)
      by_cases e24 : x = 24
      · refine ra_switch (t := 1156) lc_40 hx ⟨by decide, by decide, by decide⟩ (Or.inl ⟨(24, 1116), by rw [e24]; rfl, rfl⟩) ?_
        exact op_24 hn hL h0 h6 (nxt h6)
      by_cases e25 : x = 25
      · refine ra_switch (t := 1184) lc_40 hx ⟨by decide, by decide, by decide⟩ (Or.inl ⟨(25, 1144), by rw [e25]; rfl, rfl⟩) ?_
        exact op_25 hn hL h0 h6 (nxt h6)
      by_cases e26 : x = 26
      · refine ra_switch (t := 1224) lc_40 hx ⟨by decide, by decide, by decide⟩ (Or.inl ⟨(26, 1184), by rw [e26]; rfl, rfl⟩) ?_
        exact op_26 hn hL h0 h6 (nxt h6)
      by_cases e27 : x = 27
      · refine ra_switch (t := 1264) lc_40 hx ⟨by decide, by decide, by decide⟩ (Or.inl ⟨(27, 1224), by rw [e27]; rfl, rfl⟩) ?_
        exact op_27 hn hL h0 h6 (nxt h6)
      by_cases e28 : x = 28
      · refine ra_switch (t := 1304) lc_40 hx ⟨by decide, by decide, by decide⟩ (Or.inl ⟨(28, 1264), by rw [e28]; rfl, rfl⟩) ?_
        exact op_28 hn hL h0 h6 (nxt h6)
      by_cases e29 : x = 29
      · refine ra_switch (t := 1344) lc_40 hx ⟨by decide, by decide, by decide⟩ (Or.inl ⟨(29, 1304), by rw [e29]; rfl, rfl⟩) ?_
        exact op_29 hn hL h0 h6 (nxt h6)
      by_cases e30 : x = 30
      · refine ra_switch (t := 1372) lc_40 hx ⟨by decide, by decide, by decide⟩ (Or.inl ⟨(30, 1332), by rw [e30]; rfl, rfl⟩) ?_
        exact op_30 hn hL h0 h6 (nxt h6)
      by_cases e31 : x = 31
      · refine ra_switch (t := 1388) lc_40 hx ⟨by decide, by decide, by decide⟩ (Or.inl ⟨(31, 1348), by rw [e31]; rfl, rfl⟩) ?_
        exact op_31 hn hL h0 h6 (nxt h6)
      by_cases e32 : x = 32
      · refine ra_switch (t := 1404) lc_40 hx ⟨by decide, by decide, by decide⟩ (Or.inl ⟨(32, 1364), by rw [e32]; rfl, rfl⟩) ?_
        exact op_32 hn hL h0 h6 (nxt h6)
      by_cases e33 : x = 33
      · refine ra_switch (t := 1432) lc_40 hx ⟨by decide, by decide, by decide⟩ (Or.inl ⟨(33, 1392), by rw [e33]; rfl, rfl⟩) ?_
        exact op_33 hn hL h0 h6 (nxt h6)
      by_cases e34 : x = 34
      · refine ra_switch (t := 1460) lc_40 hx ⟨by decide, by decide, by decide⟩ (Or.inl ⟨(34, 1420), by rw [e34]; rfl, rfl⟩) ?_
        exact op_34 hn hL h0 h6 (nxt h6)
      by_cases e35 : x = 35
      · refine ra_switch (t := 1476) lc_40 hx ⟨by decide, by decide, by decide⟩ (Or.inl ⟨(35, 1436), by rw [e35]; rfl, rfl⟩) ?_
        exact op_35 hn hL h0 h6 (nxt h6)
      by_cases e36 : x = 36
      · refine ra_switch (t := 1489) lc_40 hx ⟨by decide, by decide, by decide⟩ (Or.inl ⟨(36, 1449), by rw [e36]; rfl, rfl⟩) ?_
        exact op_36 hn hL h0 h6 (nxt h6)
      by_cases e37 : x = 37
      · refine ra_switch (t := 1517) lc_40 hx ⟨by decide, by decide, by decide⟩ (Or.inl ⟨(37, 1477), by rw [e37]; rfl, rfl⟩) ?_
        exact op_37 hn hL h0 h6 (nxt h6)
      by_cases e38 : x = 38
      · refine ra_switch (t := 1530) lc_40 hx ⟨by decide, by decide, by decide⟩ (Or.inl ⟨(38, 1490), by rw [e38]; rfl, rfl⟩) ?_
        exact op_38 hn hL h0 h6 (nxt h6)
      by_cases e39 : x = 39
      · refine ra_switch (t := 1547) lc_40 hx ⟨by decide, by decide, by decide⟩ (Or.inl ⟨(39, 1507), by rw [e39]; rfl, rfl⟩) ?_
        exact op_39 hn hL h0 h6 (nxt h6)
      by_cases e40 : x = 40
      · refine ra_switch (t := 1562) lc_40 hx ⟨by decide, by decide, by decide⟩ (Or.inl ⟨(40, 1522), by rw [e40]; rfl, rfl⟩) ?_
        exact op_40 hn hL h0 h6 (nxt h6)
      by_cases e41 : x = 41
      · refine ra_switch (t := 1575) lc_40 hx ⟨by decide, by decide, by decide⟩ (Or.inl ⟨(41, 1535), by rw [e41]; rfl, rfl⟩) ?_
        exact op_41 hn hL h0 h6 (nxt h6)
      by_cases e42 : x = 42
      · refine ra_switch (t := 1603) lc_40 hx ⟨by decide, by decide, by decide⟩ (Or.inl ⟨(42, 1563), by rw [e42]; rfl, rfl⟩) ?_
        exact op_42 hn hL h0 h6 (nxt h6)
      by_cases e43 : x = 43
      · refine ra_switch (t := 1631) lc_40 hx ⟨by decide, by decide, by decide⟩ (Or.inl ⟨(43, 1591), by rw [e43]; rfl, rfl⟩) ?_
        exact op_43 hn hL h0 h6 (nxt h6)
      by_cases e44 : x = 44
      · refine ra_switch (t := 1659) lc_40 hx ⟨by decide, by decide, by decide⟩ (Or.inl ⟨(44, 1619), by rw [e44]; rfl, rfl⟩) ?_
        exact op_44 hn hL h0 h6 (nxt h6)
      by_cases e45 : x = 45
      · refine ra_switch (t := 1699) lc_40 hx ⟨by decide, by decide, by decide⟩ (Or.inl ⟨(45, 1659), by rw [e45]; rfl, rfl⟩) ?_
        exact op_45 hn hL h0 h6 (nxt h6)
      by_cases e46 : x = 46
      · refine ra_switch (t := 1727) lc_40 hx ⟨by decide, by decide, by decide⟩ (Or.inl ⟨(46, 1687), by rw [e46]; rfl, rfl⟩) ?_
        exact op_46 hn hL h0 h6 (nxt h6)
      by_cases e47 : x = 47
      · refine ra_switch (t := 1740) lc_40 hx ⟨by decide, by decide, by decide⟩ (Or.inl ⟨(47, 1700), by rw [e47]; rfl, rfl⟩) ?_
        exact op_47 hn hL h0 h6 (nxt h6)
      by_cases e48 : x = 48
      · refine ra_switch (t := 1753) lc_40 hx ⟨by decide, by decide, by decide⟩ (Or.inl ⟨(48, 1713), by rw [e48]; rfl, rfl⟩) ?_
        exact op_48 hn hL h0 h6 (nxt h6)
      by_cases e49 : x = 49
      · refine ra_switch (t := 1781) lc_40 hx ⟨by decide, by decide, by decide⟩ (Or.inl ⟨(49, 1741), by rw [e49]; rfl, rfl⟩) ?_
        exact op_49 hn hL h0 h6 (nxt h6)
      by_cases e50 : x = 50
      · refine ra_switch (t := 1821) lc_40 hx ⟨by decide, by decide, by decide⟩ (Or.inl ⟨(50, 1781), by rw [e50]; rfl, rfl⟩) ?_
        exact op_50 hn hL h0 h6 (nxt h6)
      by_cases e51 : x = 51
      · refine ra_switch (t := 1849) lc_40 hx ⟨by decide, by decide, by decide⟩ (Or.inl ⟨(51, 1809), by rw [e51]; rfl, rfl⟩) ?_
        exact op_51 hn hL h0 h6 (nxt h6)
      by_cases e52 : x = 52
      · refine ra_switch (t := 1877) lc_40 hx ⟨by decide, by decide, by decide⟩ (Or.inl ⟨(52, 1837), by rw [e52]; rfl, rfl⟩) ?_
        exact op_52 hn hL h0 h6 (nxt h6)
      by_cases e53 : x = 53
      · refine ra_switch (t := 1905) lc_40 hx ⟨by decide, by decide, by decide⟩ (Or.inl ⟨(53, 1865), by rw [e53]; rfl, rfl⟩) ?_
        exact op_53 hn hL h0 h6 (nxt h6)
      by_cases e54 : x = 54
      · refine ra_switch (t := 1918) lc_40 hx ⟨by decide, by decide, by decide⟩ (Or.inl ⟨(54, 1878), by rw [e54]; rfl, rfl⟩) ?_
        exact op_54 hn hL h0 h6 (nxt h6)
      by_cases e55 : x = 55
      · refine ra_switch (t := 1946) lc_40 hx ⟨by decide, by decide, by decide⟩ (Or.inl ⟨(55, 1906), by rw [e55]; rfl, rfl⟩) ?_
        exact op_55 hn hL h0 h6 (nxt h6)
      by_cases e56 : x = 56
      · refine ra_switch (t := 1999) lc_40 hx ⟨by decide, by decide, by decide⟩ (Or.inl ⟨(56, 1959), by rw [e56]; rfl, rfl⟩) ?_
        exact op_56 hn hL h0 h6 (nxt h6)
      by_cases e57 : x = 57
      · refine ra_switch (t := 2012) lc_40 hx ⟨by decide, by decide, by decide⟩ (Or.inl ⟨(57, 1972), by rw [e57]; rfl, rfl⟩) ?_
        exact op_57 hn hL h0 h6 (nxt h6)
      by_cases e58 : x = 58
      · refine ra_switch (t := 2037) lc_40 hx ⟨by decide, by decide, by decide⟩ (Or.inl ⟨(58, 1997), by rw [e58]; rfl, rfl⟩) ?_
        exact op_58 hn hL h0 h6 (nxt h6)
      by_cases e59 : x = 59
      · refine ra_switch (t := 2050) lc_40 hx ⟨by decide, by decide, by decide⟩ (Or.inl ⟨(59, 2010), by rw [e59]; rfl, rfl⟩) ?_
        exact op_59 hn hL h0 h6 (nxt h6)
      by_cases e60 : x = 60
      · refine ra_switch (t := 2063) lc_40 hx ⟨by decide, by decide, by decide⟩ (Or.inl ⟨(60, 2023), by rw [e60]; rfl, rfl⟩) ?_
        exact op_60 hn hL h0 h6 (nxt h6)
      refine ra_switch (t := 2079) lc_40 hx ⟨by decide, by decide, by decide⟩ (Or.inr ⟨ra_sw_none (by simp only [List.length]; omega), rfl⟩) ?_
      exact ra_P_mono (nxt h6 σ hL) (fun _ _ h => h) (by omega)
end RL
