section
/-! the law: its loop (printed by wip/gen/law.py) -/
section RL
theorem lw_loop {n : Nat} {f : Nat → Int32} {d : Nat} {Q : ra_Q} (hn : n ≤ 3072) (hQ : ∀ s, Q (.inl (some (ra_I 1))) s) : ∀ (nn : Nat) (v4 : Int) (σ : ra_V), 0 ≤ v4 → ((n : Int) - v4).toNat < nn → v4 ≤ 3100 → LIV σ → ra_P (g_Gs n f) g_sh nn (d + 12) g_law 23 (lwL v4) [] σ Q := by
  intro nn
  induction nn with
  | zero => intro v4 σ h0 hm; exact absurd hm (Nat.not_lt_zero _)
  | succ nn ih =>
    intro v4 σ h0 hm hv hL
    have hx4 : ra_in v4 := by unfold ra_in; omega
    have nxt : v4 + 6 ≤ n → ∀ s, LIV s → ra_P (g_Gs n f) g_sh nn (d + 12) g_law 2079 (lwL v4) [] s Q := fun h6 s hs => by
      refine ra_iinc (L' := lwL (v4 + 6)) lc_2079 rfl (Nat.le_of_ble_eq_true rfl) rfl ?_
      refine ra_goto lc_2082 rfl ?_
      exact ih (v4 + 6) s (by omega) (by omega) (by omega) hs
    refine ra_load lc_23 rfl rfl rfl ?_
    refine ra_load lc_25 rfl rfl rfl ?_
    refine ra_slen lc_26 rfl ?_
    refine ra_bipush lc_27 (by decide) ?_
    refine ra_isub lc_29 ?_
    refine ra_icgt lc_30 rfl hx4 (show ra_in ((n : Int) - 6) by unfold ra_in; omega) (fun h => ?_) (fun h => ?_)
    · refine ra_iconst lc_2085 ?_
      exact ra_ireturn lc_2086 (ra_okB (Or.inr rfl)) (hQ _)
    · have h : v4 ≤ (n : Int) - 6 := h
      have h6 : v4 + 6 ≤ n := by omega
      refine ra_load lc_33 rfl rfl rfl ?_
      refine ra_load lc_34 rfl rfl rfl ?_
      refine ra_sld lc_36 rfl (show n ≤ 2147483647 by omega) h0 (show v4 < (n : Int) by omega) ?_
      refine ra_gen (fun z hz => ?_)
      refine ra_bipush lc_37 (by decide) ?_
      refine ra_iand lc_39 ?_
      refine ra_gen (fun x hx => ?_)
      by_cases e0 : x = 0
      · refine ra_switch (t := 300) lc_40 hx ⟨by decide, by decide, by decide⟩ (Or.inl ⟨(0, 260), by rw [e0]; rfl, rfl⟩) ?_
        exact op_0 hn hL h0 h6 (nxt h6)
      by_cases e1 : x = 1
      · refine ra_switch (t := 373) lc_40 hx ⟨by decide, by decide, by decide⟩ (Or.inl ⟨(1, 333), by rw [e1]; rfl, rfl⟩) ?_
        exact op_1 hn hL h0 h6 (nxt h6)
      by_cases e2 : x = 2
      · refine ra_switch (t := 398) lc_40 hx ⟨by decide, by decide, by decide⟩ (Or.inl ⟨(2, 358), by rw [e2]; rfl, rfl⟩) ?_
        exact op_2 hn hL h0 h6 (nxt h6)
      by_cases e3 : x = 3
      · refine ra_switch (t := 411) lc_40 hx ⟨by decide, by decide, by decide⟩ (Or.inl ⟨(3, 371), by rw [e3]; rfl, rfl⟩) ?_
        exact op_3 hn hL h0 h6 (nxt h6)
      by_cases e4 : x = 4
      · refine ra_switch (t := 424) lc_40 hx ⟨by decide, by decide, by decide⟩ (Or.inl ⟨(4, 384), by rw [e4]; rfl, rfl⟩) ?_
        exact op_4 hn hL h0 h6 (nxt h6)
      by_cases e5 : x = 5
      · refine ra_switch (t := 437) lc_40 hx ⟨by decide, by decide, by decide⟩ (Or.inl ⟨(5, 397), by rw [e5]; rfl, rfl⟩) ?_
        exact op_5 hn hL h0 h6 (nxt h6)
      by_cases e6 : x = 6
      · refine ra_switch (t := 465) lc_40 hx ⟨by decide, by decide, by decide⟩ (Or.inl ⟨(6, 425), by rw [e6]; rfl, rfl⟩) ?_
        exact op_6 hn hL h0 h6 (nxt h6)
      by_cases e7 : x = 7
      · refine ra_switch (t := 505) lc_40 hx ⟨by decide, by decide, by decide⟩ (Or.inl ⟨(7, 465), by rw [e7]; rfl, rfl⟩) ?_
        exact op_7 hn hL h0 h6 (nxt h6)
      by_cases e8 : x = 8
      · refine ra_switch (t := 533) lc_40 hx ⟨by decide, by decide, by decide⟩ (Or.inl ⟨(8, 493), by rw [e8]; rfl, rfl⟩) ?_
        exact op_8 hn hL h0 h6 (nxt h6)
      by_cases e9 : x = 9
      · refine ra_switch (t := 561) lc_40 hx ⟨by decide, by decide, by decide⟩ (Or.inl ⟨(9, 521), by rw [e9]; rfl, rfl⟩) ?_
        exact op_9 hn hL h0 h6 (nxt h6)
      by_cases e10 : x = 10
      · refine ra_switch (t := 601) lc_40 hx ⟨by decide, by decide, by decide⟩ (Or.inl ⟨(10, 561), by rw [e10]; rfl, rfl⟩) ?_
        exact op_10 hn hL h0 h6 (nxt h6)
      by_cases e11 : x = 11
      · refine ra_switch (t := 629) lc_40 hx ⟨by decide, by decide, by decide⟩ (Or.inl ⟨(11, 589), by rw [e11]; rfl, rfl⟩) ?_
        exact op_11 hn hL h0 h6 (nxt h6)
      by_cases e12 : x = 12
      · refine ra_switch (t := 657) lc_40 hx ⟨by decide, by decide, by decide⟩ (Or.inl ⟨(12, 617), by rw [e12]; rfl, rfl⟩) ?_
        exact op_12 hn hL h0 h6 (nxt h6)
      by_cases e13 : x = 13
      · refine ra_switch (t := 697) lc_40 hx ⟨by decide, by decide, by decide⟩ (Or.inl ⟨(13, 657), by rw [e13]; rfl, rfl⟩) ?_
        exact op_13 hn hL h0 h6 (nxt h6)
      by_cases e14 : x = 14
      · refine ra_switch (t := 710) lc_40 hx ⟨by decide, by decide, by decide⟩ (Or.inl ⟨(14, 670), by rw [e14]; rfl, rfl⟩) ?_
        exact op_14 hn hL h0 h6 (nxt h6)
      by_cases e15 : x = 15
      · refine ra_switch (t := 750) lc_40 hx ⟨by decide, by decide, by decide⟩ (Or.inl ⟨(15, 710), by rw [e15]; rfl, rfl⟩) ?_
        exact op_15 hn hL h0 h6 (nxt h6)
      by_cases e16 : x = 16
      · refine ra_switch (t := 787) lc_40 hx ⟨by decide, by decide, by decide⟩ (Or.inl ⟨(16, 747), by rw [e16]; rfl, rfl⟩) ?_
        exact op_16 hn hL h0 h6 (nxt h6)
      by_cases e17 : x = 17
      · refine ra_switch (t := 824) lc_40 hx ⟨by decide, by decide, by decide⟩ (Or.inl ⟨(17, 784), by rw [e17]; rfl, rfl⟩) ?_
        exact op_17 hn hL h0 h6 (nxt h6)
      by_cases e18 : x = 18
      · refine ra_switch (t := 888) lc_40 hx ⟨by decide, by decide, by decide⟩ (Or.inl ⟨(18, 848), by rw [e18]; rfl, rfl⟩) ?_
        exact op_18 hn hL h0 h6 (nxt h6)
      by_cases e19 : x = 19
      · refine ra_switch (t := 952) lc_40 hx ⟨by decide, by decide, by decide⟩ (Or.inl ⟨(19, 912), by rw [e19]; rfl, rfl⟩) ?_
        exact op_19 hn hL h0 h6 (nxt h6)
      by_cases e20 : x = 20
      · refine ra_switch (t := 980) lc_40 hx ⟨by decide, by decide, by decide⟩ (Or.inl ⟨(20, 940), by rw [e20]; rfl, rfl⟩) ?_
        exact op_20 hn hL h0 h6 (nxt h6)
      by_cases e21 : x = 21
      · refine ra_switch (t := 1036) lc_40 hx ⟨by decide, by decide, by decide⟩ (Or.inl ⟨(21, 996), by rw [e21]; rfl, rfl⟩) ?_
        exact op_21 hn hL h0 h6 (nxt h6)
      by_cases e22 : x = 22
      · refine ra_switch (t := 1076) lc_40 hx ⟨by decide, by decide, by decide⟩ (Or.inl ⟨(22, 1036), by rw [e22]; rfl, rfl⟩) ?_
        exact op_22 hn hL h0 h6 (nxt h6)
      by_cases e23 : x = 23
      · refine ra_switch (t := 1116) lc_40 hx ⟨by decide, by decide, by decide⟩ (Or.inl ⟨(23, 1076), by rw [e23]; rfl, rfl⟩) ?_
        exact op_23 hn hL h0 h6 (nxt h6)
      by_cases e24 : x = 24
      · refine ra_switch (t := 1156) lc_40 hx ⟨by decide, by decide, by decide⟩ (Or.inl ⟨(24, 1116), by rw [e24]; rfl, rfl⟩) ?_
        exact op_24 hn hL h0 h6 (nxt h6)
      by_cases e25 : x = 25
      · refine ra_switch (t := 1184) lc_40 hx ⟨by decide, by decide, by decide⟩ (Or.inl ⟨(25, 1144), by rw [e25]; rfl, rfl⟩) ?_
        exact op_25 hn hL h0 h6 (nxt h6)
      by_cases e26 : x = 26
      · refine ra_switch (t := 1224) lc_40 hx ⟨by decide, by decide, by decide⟩ (Or.inl ⟨(26, 1184), by rw [e26]; rfl, rfl⟩) ?_
        exact op_26 hn hL h0 h6 (nxt h6)
      by_cases e27 : x = 27
      · refine ra_switch (t := 1264) lc_40 hx ⟨by decide, by decide, by decide⟩ (Or.inl ⟨(27, 1224), by rw [e27]; rfl, rfl⟩) ?_
        exact op_27 hn hL h0 h6 (nxt h6)
      by_cases e28 : x = 28
      · refine ra_switch (t := 1304) lc_40 hx ⟨by decide, by decide, by decide⟩ (Or.inl ⟨(28, 1264), by rw [e28]; rfl, rfl⟩) ?_
        exact op_28 hn hL h0 h6 (nxt h6)
      by_cases e29 : x = 29
      · refine ra_switch (t := 1344) lc_40 hx ⟨by decide, by decide, by decide⟩ (Or.inl ⟨(29, 1304), by rw [e29]; rfl, rfl⟩) ?_
        exact op_29 hn hL h0 h6 (nxt h6)
      by_cases e30 : x = 30
      · refine ra_switch (t := 1372) lc_40 hx ⟨by decide, by decide, by decide⟩ (Or.inl ⟨(30, 1332), by rw [e30]; rfl, rfl⟩) ?_
        exact op_30 hn hL h0 h6 (nxt h6)
      by_cases e31 : x = 31
      · refine ra_switch (t := 1388) lc_40 hx ⟨by decide, by decide, by decide⟩ (Or.inl ⟨(31, 1348), by rw [e31]; rfl, rfl⟩) ?_
        exact op_31 hn hL h0 h6 (nxt h6)
      by_cases e32 : x = 32
      · refine ra_switch (t := 1404) lc_40 hx ⟨by decide, by decide, by decide⟩ (Or.inl ⟨(32, 1364), by rw [e32]; rfl, rfl⟩) ?_
        exact op_32 hn hL h0 h6 (nxt h6)
      by_cases e33 : x = 33
      · refine ra_switch (t := 1432) lc_40 hx ⟨by decide, by decide, by decide⟩ (Or.inl ⟨(33, 1392), by rw [e33]; rfl, rfl⟩) ?_
        exact op_33 hn hL h0 h6 (nxt h6)
      by_cases e34 : x = 34
      · refine ra_switch (t := 1460) lc_40 hx ⟨by decide, by decide, by decide⟩ (Or.inl ⟨(34, 1420), by rw [e34]; rfl, rfl⟩) ?_
        exact op_34 hn hL h0 h6 (nxt h6)
      by_cases e35 : x = 35
      · refine ra_switch (t := 1476) lc_40 hx ⟨by decide, by decide, by decide⟩ (Or.inl ⟨(35, 1436), by rw [e35]; rfl, rfl⟩) ?_
        exact op_35 hn hL h0 h6 (nxt h6)
      by_cases e36 : x = 36
      · refine ra_switch (t := 1489) lc_40 hx ⟨by decide, by decide, by decide⟩ (Or.inl ⟨(36, 1449), by rw [e36]; rfl, rfl⟩) ?_
        exact op_36 hn hL h0 h6 (nxt h6)
      by_cases e37 : x = 37
      · refine ra_switch (t := 1517) lc_40 hx ⟨by decide, by decide, by decide⟩ (Or.inl ⟨(37, 1477), by rw [e37]; rfl, rfl⟩) ?_
        exact op_37 hn hL h0 h6 (nxt h6)
      by_cases e38 : x = 38
      · refine ra_switch (t := 1530) lc_40 hx ⟨by decide, by decide, by decide⟩ (Or.inl ⟨(38, 1490), by rw [e38]; rfl, rfl⟩) ?_
        exact op_38 hn hL h0 h6 (nxt h6)
      by_cases e39 : x = 39
      · refine ra_switch (t := 1547) lc_40 hx ⟨by decide, by decide, by decide⟩ (Or.inl ⟨(39, 1507), by rw [e39]; rfl, rfl⟩) ?_
        exact op_39 hn hL h0 h6 (nxt h6)
      by_cases e40 : x = 40
      · refine ra_switch (t := 1562) lc_40 hx ⟨by decide, by decide, by decide⟩ (Or.inl ⟨(40, 1522), by rw [e40]; rfl, rfl⟩) ?_
        exact op_40 hn hL h0 h6 (nxt h6)
      by_cases e41 : x = 41
      · refine ra_switch (t := 1575) lc_40 hx ⟨by decide, by decide, by decide⟩ (Or.inl ⟨(41, 1535), by rw [e41]; rfl, rfl⟩) ?_
        exact op_41 hn hL h0 h6 (nxt h6)
      by_cases e42 : x = 42
      · refine ra_switch (t := 1603) lc_40 hx ⟨by decide, by decide, by decide⟩ (Or.inl ⟨(42, 1563), by rw [e42]; rfl, rfl⟩) ?_
        exact op_42 hn hL h0 h6 (nxt h6)
      by_cases e43 : x = 43
      · refine ra_switch (t := 1631) lc_40 hx ⟨by decide, by decide, by decide⟩ (Or.inl ⟨(43, 1591), by rw [e43]; rfl, rfl⟩) ?_
        exact op_43 hn hL h0 h6 (nxt h6)
      by_cases e44 : x = 44
      · refine ra_switch (t := 1659) lc_40 hx ⟨by decide, by decide, by decide⟩ (Or.inl ⟨(44, 1619), by rw [e44]; rfl, rfl⟩) ?_
        exact op_44 hn hL h0 h6 (nxt h6)
      by_cases e45 : x = 45
      · refine ra_switch (t := 1699) lc_40 hx ⟨by decide, by decide, by decide⟩ (Or.inl ⟨(45, 1659), by rw [e45]; rfl, rfl⟩) ?_
        exact op_45 hn hL h0 h6 (nxt h6)
      by_cases e46 : x = 46
      · refine ra_switch (t := 1727) lc_40 hx ⟨by decide, by decide, by decide⟩ (Or.inl ⟨(46, 1687), by rw [e46]; rfl, rfl⟩) ?_
        exact op_46 hn hL h0 h6 (nxt h6)
      by_cases e47 : x = 47
      · refine ra_switch (t := 1740) lc_40 hx ⟨by decide, by decide, by decide⟩ (Or.inl ⟨(47, 1700), by rw [e47]; rfl, rfl⟩) ?_
        exact op_47 hn hL h0 h6 (nxt h6)
      by_cases e48 : x = 48
      · refine ra_switch (t := 1753) lc_40 hx ⟨by decide, by decide, by decide⟩ (Or.inl ⟨(48, 1713), by rw [e48]; rfl, rfl⟩) ?_
        exact op_48 hn hL h0 h6 (nxt h6)
      by_cases e49 : x = 49
      · refine ra_switch (t := 1781) lc_40 hx ⟨by decide, by decide, by decide⟩ (Or.inl ⟨(49, 1741), by rw [e49]; rfl, rfl⟩) ?_
        exact op_49 hn hL h0 h6 (nxt h6)
      by_cases e50 : x = 50
      · refine ra_switch (t := 1821) lc_40 hx ⟨by decide, by decide, by decide⟩ (Or.inl ⟨(50, 1781), by rw [e50]; rfl, rfl⟩) ?_
        exact op_50 hn hL h0 h6 (nxt h6)
      by_cases e51 : x = 51
      · refine ra_switch (t := 1849) lc_40 hx ⟨by decide, by decide, by decide⟩ (Or.inl ⟨(51, 1809), by rw [e51]; rfl, rfl⟩) ?_
        exact op_51 hn hL h0 h6 (nxt h6)
      by_cases e52 : x = 52
      · refine ra_switch (t := 1877) lc_40 hx ⟨by decide, by decide, by decide⟩ (Or.inl ⟨(52, 1837), by rw [e52]; rfl, rfl⟩) ?_
        exact op_52 hn hL h0 h6 (nxt h6)
      by_cases e53 : x = 53
      · refine ra_switch (t := 1905) lc_40 hx ⟨by decide, by decide, by decide⟩ (Or.inl ⟨(53, 1865), by rw [e53]; rfl, rfl⟩) ?_
        exact op_53 hn hL h0 h6 (nxt h6)
      by_cases e54 : x = 54
      · refine ra_switch (t := 1918) lc_40 hx ⟨by decide, by decide, by decide⟩ (Or.inl ⟨(54, 1878), by rw [e54]; rfl, rfl⟩) ?_
        exact op_54 hn hL h0 h6 (nxt h6)
      by_cases e55 : x = 55
      · refine ra_switch (t := 1946) lc_40 hx ⟨by decide, by decide, by decide⟩ (Or.inl ⟨(55, 1906), by rw [e55]; rfl, rfl⟩) ?_
        exact op_55 hn hL h0 h6 (nxt h6)
      by_cases e56 : x = 56
      · refine ra_switch (t := 1999) lc_40 hx ⟨by decide, by decide, by decide⟩ (Or.inl ⟨(56, 1959), by rw [e56]; rfl, rfl⟩) ?_
        exact op_56 hn hL h0 h6 (nxt h6)
      by_cases e57 : x = 57
      · refine ra_switch (t := 2012) lc_40 hx ⟨by decide, by decide, by decide⟩ (Or.inl ⟨(57, 1972), by rw [e57]; rfl, rfl⟩) ?_
        exact op_57 hn hL h0 h6 (nxt h6)
      by_cases e58 : x = 58
      · refine ra_switch (t := 2037) lc_40 hx ⟨by decide, by decide, by decide⟩ (Or.inl ⟨(58, 1997), by rw [e58]; rfl, rfl⟩) ?_
        exact op_58 hn hL h0 h6 (nxt h6)
      by_cases e59 : x = 59
      · refine ra_switch (t := 2050) lc_40 hx ⟨by decide, by decide, by decide⟩ (Or.inl ⟨(59, 2010), by rw [e59]; rfl, rfl⟩) ?_
        exact op_59 hn hL h0 h6 (nxt h6)
      by_cases e60 : x = 60
      · refine ra_switch (t := 2063) lc_40 hx ⟨by decide, by decide, by decide⟩ (Or.inl ⟨(60, 2023), by rw [e60]; rfl, rfl⟩) ?_
        exact op_60 hn hL h0 h6 (nxt h6)
      refine ra_switch (t := 2079) lc_40 hx ⟨by decide, by decide, by decide⟩ (Or.inr ⟨ra_sw_none (by simp only [List.length]; omega), rfl⟩) ?_
      exact ra_P_mono (nxt h6 σ hL) (fun _ _ h => h) (by omega)
end RL
end
section
-- ===== PART A: goes FIRST, ahead of the names: the tables' words, and 'selects' of the private methods out of them =====
/-- a private method of a class that the tables say can be made, by its rows of tables_1 -/
def lw_okq (q : MethodName × Nat) : Prop := (q.1.cls ≠ "java/lang/invoke/MethodHandle" ∧ q.1.cls ≠ "java/lang/invoke/VarHandle") ∧ Cond.instantiable q.1.cls q.2 ∈ tables_1 ∧ Cond.privateMethod q.1 ∈ tables_1 ∧ Cond.instanceMethod q.1 ∈ tables_1
theorem lw_p0 : lw_okq (⟨"PartitionBench$Setup", "next", "()V"⟩, 12) := ⟨⟨by decide +kernel, by decide +kernel⟩, List.mem_of_getElem? (i := 240) (by decide +kernel), List.mem_of_getElem? (i := 357) (by decide +kernel), List.mem_of_getElem? (i := 358) (by decide +kernel)⟩
theorem lw_p1 : lw_okq (⟨"PartitionBench$Setup", "byteAt", "(I)I"⟩, 12) := ⟨⟨by decide +kernel, by decide +kernel⟩, List.mem_of_getElem? (i := 240) (by decide +kernel), List.mem_of_getElem? (i := 361) (by decide +kernel), List.mem_of_getElem? (i := 362) (by decide +kernel)⟩
theorem lw_p2 : lw_okq (⟨"PartitionBench$Setup", "isWord", "(Ljava/lang/String;)Z"⟩, 12) := ⟨⟨by decide +kernel, by decide +kernel⟩, List.mem_of_getElem? (i := 240) (by decide +kernel), List.mem_of_getElem? (i := 372) (by decide +kernel), List.mem_of_getElem? (i := 373) (by decide +kernel)⟩
theorem lw_p3 : lw_okq (⟨"PartitionBench$Setup", "fail", "(I)Z"⟩, 12) := ⟨⟨by decide +kernel, by decide +kernel⟩, List.mem_of_getElem? (i := 240) (by decide +kernel), List.mem_of_getElem? (i := 424) (by decide +kernel), List.mem_of_getElem? (i := 425) (by decide +kernel)⟩
theorem lw_p4 : lw_okq (⟨"PartitionBench$Setup", "number", "(II)Z"⟩, 12) := ⟨⟨by decide +kernel, by decide +kernel⟩, List.mem_of_getElem? (i := 240) (by decide +kernel), List.mem_of_getElem? (i := 428) (by decide +kernel), List.mem_of_getElem? (i := 429) (by decide +kernel)⟩
theorem lw_p5 : lw_okq (⟨"PartitionBench$Setup", "semicolon", "()Z"⟩, 12) := ⟨⟨by decide +kernel, by decide +kernel⟩, List.mem_of_getElem? (i := 240) (by decide +kernel), List.mem_of_getElem? (i := 433) (by decide +kernel), List.mem_of_getElem? (i := 434) (by decide +kernel)⟩
theorem lw_p6 : lw_okq (⟨"PartitionBench$Setup", "statement", "(LPartitionBench$Disk;)Z"⟩, 12) := ⟨⟨by decide +kernel, by decide +kernel⟩, List.mem_of_getElem? (i := 240) (by decide +kernel), List.mem_of_getElem? (i := 437) (by decide +kernel), List.mem_of_getElem? (i := 438) (by decide +kernel)⟩
theorem lw_p7 : lw_okq (⟨"PartitionBench$Setup", "partition", "(LPartitionBench$Disk;)Z"⟩, 12) := ⟨⟨by decide +kernel, by decide +kernel⟩, List.mem_of_getElem? (i := 240) (by decide +kernel), List.mem_of_getElem? (i := 442) (by decide +kernel), List.mem_of_getElem? (i := 443) (by decide +kernel)⟩
theorem lw_p8 : lw_okq (⟨"PartitionBench$Setup", "locking", "(LPartitionBench$Disk;)Z"⟩, 12) := ⟨⟨by decide +kernel, by decide +kernel⟩, List.mem_of_getElem? (i := 240) (by decide +kernel), List.mem_of_getElem? (i := 487) (by decide +kernel), List.mem_of_getElem? (i := 488) (by decide +kernel)⟩
theorem lw_p9 : lw_okq (⟨"PartitionBench$Setup", "chunking", "(LPartitionBench$Disk;)Z"⟩, 12) := ⟨⟨by decide +kernel, by decide +kernel⟩, List.mem_of_getElem? (i := 240) (by decide +kernel), List.mem_of_getElem? (i := 496) (by decide +kernel), List.mem_of_getElem? (i := 497) (by decide +kernel)⟩
theorem lw_p10 : lw_okq (⟨"PartitionBench$Setup", "layout", "(LPartitionBench$Disk;)Z"⟩, 12) := ⟨⟨by decide +kernel, by decide +kernel⟩, List.mem_of_getElem? (i := 240) (by decide +kernel), List.mem_of_getElem? (i := 500) (by decide +kernel), List.mem_of_getElem? (i := 501) (by decide +kernel)⟩
theorem lw_p11 : lw_okq (⟨"PartitionBench", "gapsNow", "()LPartitionBench$Gaps;"⟩, 8) := ⟨⟨by decide +kernel, by decide +kernel⟩, List.mem_of_getElem? (i := 24) (by decide +kernel), List.mem_of_getElem? (i := 599) (by decide +kernel), List.mem_of_getElem? (i := 600) (by decide +kernel)⟩
theorem lw_p12 : lw_okq (⟨"PartitionBench$Gaps", "note", "(II)V"⟩, 4) := ⟨⟨by decide +kernel, by decide +kernel⟩, List.mem_of_getElem? (i := 220) (by decide +kernel), List.mem_of_getElem? (i := 652) (by decide +kernel), List.mem_of_getElem? (i := 653) (by decide +kernel)⟩
theorem lw_p13 : lw_okq (⟨"java/lang/Throwable", "fillInStackTrace", "(I)Ljava/lang/Throwable;"⟩, 6) := ⟨⟨by decide +kernel, by decide +kernel⟩, List.mem_of_getElem? (i := 924) (by decide +kernel), List.mem_of_getElem? (i := 922) (by decide +kernel), List.mem_of_getElem? (i := 923) (by decide +kernel)⟩
theorem lw_p14 : lw_okq (⟨"PartitionBench", "need", "(I)LPartitionBench$Part;"⟩, 8) := ⟨⟨by decide +kernel, by decide +kernel⟩, List.mem_of_getElem? (i := 24) (by decide +kernel), List.mem_of_getElem? (i := 961) (by decide +kernel), List.mem_of_getElem? (i := 962) (by decide +kernel)⟩
theorem lw_p15 : lw_okq (⟨"PartitionBench", "needSector", "(I)V"⟩, 8) := ⟨⟨by decide +kernel, by decide +kernel⟩, List.mem_of_getElem? (i := 24) (by decide +kernel), List.mem_of_getElem? (i := 990) (by decide +kernel), List.mem_of_getElem? (i := 991) (by decide +kernel)⟩
def lw_privs_1 : List (MethodName × Nat) := [(⟨"PartitionBench$Setup", "next", "()V"⟩, 12), (⟨"PartitionBench$Setup", "byteAt", "(I)I"⟩, 12), (⟨"PartitionBench$Setup", "isWord", "(Ljava/lang/String;)Z"⟩, 12), (⟨"PartitionBench$Setup", "fail", "(I)Z"⟩, 12), (⟨"PartitionBench$Setup", "number", "(II)Z"⟩, 12), (⟨"PartitionBench$Setup", "semicolon", "()Z"⟩, 12), (⟨"PartitionBench$Setup", "statement", "(LPartitionBench$Disk;)Z"⟩, 12), (⟨"PartitionBench$Setup", "partition", "(LPartitionBench$Disk;)Z"⟩, 12), (⟨"PartitionBench$Setup", "locking", "(LPartitionBench$Disk;)Z"⟩, 12), (⟨"PartitionBench$Setup", "chunking", "(LPartitionBench$Disk;)Z"⟩, 12), (⟨"PartitionBench$Setup", "layout", "(LPartitionBench$Disk;)Z"⟩, 12), (⟨"PartitionBench", "gapsNow", "()LPartitionBench$Gaps;"⟩, 8), (⟨"PartitionBench$Gaps", "note", "(II)V"⟩, 4), (⟨"java/lang/Throwable", "fillInStackTrace", "(I)Ljava/lang/Throwable;"⟩, 6), (⟨"PartitionBench", "need", "(I)LPartitionBench$Part;"⟩, 8), (⟨"PartitionBench", "needSector", "(I)V"⟩, 8)]
theorem lw_r1 : ∀ q ∈ lw_privs_1, lw_okq q := List.forall_mem_cons.mpr ⟨lw_p0, List.forall_mem_cons.mpr ⟨lw_p1, List.forall_mem_cons.mpr ⟨lw_p2, List.forall_mem_cons.mpr ⟨lw_p3, List.forall_mem_cons.mpr ⟨lw_p4, List.forall_mem_cons.mpr ⟨lw_p5, List.forall_mem_cons.mpr ⟨lw_p6, List.forall_mem_cons.mpr ⟨lw_p7, List.forall_mem_cons.mpr ⟨lw_p8, List.forall_mem_cons.mpr ⟨lw_p9, List.forall_mem_cons.mpr ⟨lw_p10, List.forall_mem_cons.mpr ⟨lw_p11, List.forall_mem_cons.mpr ⟨lw_p12, List.forall_mem_cons.mpr ⟨lw_p13, List.forall_mem_cons.mpr ⟨lw_p14, List.forall_mem_cons.mpr ⟨lw_p15, fun _ h => absurd h List.not_mem_nil⟩⟩⟩⟩⟩⟩⟩⟩⟩⟩⟩⟩⟩⟩⟩⟩
theorem lw_p16 : lw_okq (⟨"PartitionBench", "needRule", "(I)V"⟩, 8) := ⟨⟨by decide +kernel, by decide +kernel⟩, List.mem_of_getElem? (i := 24) (by decide +kernel), List.mem_of_getElem? (i := 1066) (by decide +kernel), List.mem_of_getElem? (i := 1067) (by decide +kernel)⟩
theorem lw_p17 : lw_okq (⟨"PartitionBench$Gaps", "isBetter", "(III)Z"⟩, 4) := ⟨⟨by decide +kernel, by decide +kernel⟩, List.mem_of_getElem? (i := 220) (by decide +kernel), List.mem_of_getElem? (i := 1075) (by decide +kernel), List.mem_of_getElem? (i := 1076) (by decide +kernel)⟩
theorem lw_p18 : lw_okq (⟨"PartitionBench", "needKindAndMinimum", "(III)V"⟩, 8) := ⟨⟨by decide +kernel, by decide +kernel⟩, List.mem_of_getElem? (i := 24) (by decide +kernel), List.mem_of_getElem? (i := 1088) (by decide +kernel), List.mem_of_getElem? (i := 1089) (by decide +kernel)⟩
theorem lw_p19 : lw_okq (⟨"PartitionBench", "needNumberLeft", "()V"⟩, 8) := ⟨⟨by decide +kernel, by decide +kernel⟩, List.mem_of_getElem? (i := 24) (by decide +kernel), List.mem_of_getElem? (i := 1095) (by decide +kernel), List.mem_of_getElem? (i := 1096) (by decide +kernel)⟩
theorem lw_p20 : lw_okq (⟨"PartitionBench", "needFree", "(LPartitionBench$Part;)V"⟩, 8) := ⟨⟨by decide +kernel, by decide +kernel⟩, List.mem_of_getElem? (i := 24) (by decide +kernel), List.mem_of_getElem? (i := 1131) (by decide +kernel), List.mem_of_getElem? (i := 1132) (by decide +kernel)⟩
theorem lw_p21 : lw_okq (⟨"PartitionBench", "needSizeFor", "(LPartitionBench$Part;I)V"⟩, 8) := ⟨⟨by decide +kernel, by decide +kernel⟩, List.mem_of_getElem? (i := 24) (by decide +kernel), List.mem_of_getElem? (i := 1165) (by decide +kernel), List.mem_of_getElem? (i := 1166) (by decide +kernel)⟩
theorem lw_p22 : lw_okq (⟨"PartitionBench", "needMove", "()V"⟩, 8) := ⟨⟨by decide +kernel, by decide +kernel⟩, List.mem_of_getElem? (i := 24) (by decide +kernel), List.mem_of_getElem? (i := 1244) (by decide +kernel), List.mem_of_getElem? (i := 1245) (by decide +kernel)⟩
theorem lw_p23 : lw_okq (⟨"PartitionBench", "needNoMove", "()V"⟩, 8) := ⟨⟨by decide +kernel, by decide +kernel⟩, List.mem_of_getElem? (i := 24) (by decide +kernel), List.mem_of_getElem? (i := 1295) (by decide +kernel), List.mem_of_getElem? (i := 1296) (by decide +kernel)⟩
theorem lw_p24 : lw_okq (⟨"PartitionBenchModel", "clear", "(I)V"⟩, 26) := ⟨⟨by decide +kernel, by decide +kernel⟩, List.mem_of_getElem? (i := 1428) (by decide +kernel), List.mem_of_getElem? (i := 1434) (by decide +kernel), List.mem_of_getElem? (i := 1435) (by decide +kernel)⟩
theorem lw_p25 : lw_okq (⟨"PartitionBenchModel", "appendWord", "(I)V"⟩, 26) := ⟨⟨by decide +kernel, by decide +kernel⟩, List.mem_of_getElem? (i := 1428) (by decide +kernel), List.mem_of_getElem? (i := 1521) (by decide +kernel), List.mem_of_getElem? (i := 1522) (by decide +kernel)⟩
theorem lw_p26 : lw_okq (⟨"PartitionBenchModel", "advanceToken", "()V"⟩, 26) := ⟨⟨by decide +kernel, by decide +kernel⟩, List.mem_of_getElem? (i := 1428) (by decide +kernel), List.mem_of_getElem? (i := 1539) (by decide +kernel), List.mem_of_getElem? (i := 1540) (by decide +kernel)⟩
theorem lw_p27 : lw_okq (⟨"PartitionBenchModel", "byteAt", "(I)I"⟩, 26) := ⟨⟨by decide +kernel, by decide +kernel⟩, List.mem_of_getElem? (i := 1428) (by decide +kernel), List.mem_of_getElem? (i := 1543) (by decide +kernel), List.mem_of_getElem? (i := 1544) (by decide +kernel)⟩
theorem lw_p28 : lw_okq (⟨"PartitionBenchModel", "readText", "()Z"⟩, 26) := ⟨⟨by decide +kernel, by decide +kernel⟩, List.mem_of_getElem? (i := 1428) (by decide +kernel), List.mem_of_getElem? (i := 1551) (by decide +kernel), List.mem_of_getElem? (i := 1552) (by decide +kernel)⟩
theorem lw_p29 : lw_okq (⟨"PartitionBenchModel", "isWord", "(Ljava/lang/String;)Z"⟩, 26) := ⟨⟨by decide +kernel, by decide +kernel⟩, List.mem_of_getElem? (i := 1428) (by decide +kernel), List.mem_of_getElem? (i := 1556) (by decide +kernel), List.mem_of_getElem? (i := 1557) (by decide +kernel)⟩
theorem lw_p30 : lw_okq (⟨"PartitionBenchModel", "tokenLength", "()I"⟩, 26) := ⟨⟨by decide +kernel, by decide +kernel⟩, List.mem_of_getElem? (i := 1428) (by decide +kernel), List.mem_of_getElem? (i := 1560) (by decide +kernel), List.mem_of_getElem? (i := 1561) (by decide +kernel)⟩
theorem lw_p31 : lw_okq (⟨"PartitionBenchModel", "failsAt", "(I)Z"⟩, 26) := ⟨⟨by decide +kernel, by decide +kernel⟩, List.mem_of_getElem? (i := 1428) (by decide +kernel), List.mem_of_getElem? (i := 1566) (by decide +kernel), List.mem_of_getElem? (i := 1567) (by decide +kernel)⟩
def lw_privs_2 : List (MethodName × Nat) := [(⟨"PartitionBench", "needRule", "(I)V"⟩, 8), (⟨"PartitionBench$Gaps", "isBetter", "(III)Z"⟩, 4), (⟨"PartitionBench", "needKindAndMinimum", "(III)V"⟩, 8), (⟨"PartitionBench", "needNumberLeft", "()V"⟩, 8), (⟨"PartitionBench", "needFree", "(LPartitionBench$Part;)V"⟩, 8), (⟨"PartitionBench", "needSizeFor", "(LPartitionBench$Part;I)V"⟩, 8), (⟨"PartitionBench", "needMove", "()V"⟩, 8), (⟨"PartitionBench", "needNoMove", "()V"⟩, 8), (⟨"PartitionBenchModel", "clear", "(I)V"⟩, 26), (⟨"PartitionBenchModel", "appendWord", "(I)V"⟩, 26), (⟨"PartitionBenchModel", "advanceToken", "()V"⟩, 26), (⟨"PartitionBenchModel", "byteAt", "(I)I"⟩, 26), (⟨"PartitionBenchModel", "readText", "()Z"⟩, 26), (⟨"PartitionBenchModel", "isWord", "(Ljava/lang/String;)Z"⟩, 26), (⟨"PartitionBenchModel", "tokenLength", "()I"⟩, 26), (⟨"PartitionBenchModel", "failsAt", "(I)Z"⟩, 26)]
theorem lw_r2 : ∀ q ∈ lw_privs_2, lw_okq q := List.forall_mem_cons.mpr ⟨lw_p16, List.forall_mem_cons.mpr ⟨lw_p17, List.forall_mem_cons.mpr ⟨lw_p18, List.forall_mem_cons.mpr ⟨lw_p19, List.forall_mem_cons.mpr ⟨lw_p20, List.forall_mem_cons.mpr ⟨lw_p21, List.forall_mem_cons.mpr ⟨lw_p22, List.forall_mem_cons.mpr ⟨lw_p23, List.forall_mem_cons.mpr ⟨lw_p24, List.forall_mem_cons.mpr ⟨lw_p25, List.forall_mem_cons.mpr ⟨lw_p26, List.forall_mem_cons.mpr ⟨lw_p27, List.forall_mem_cons.mpr ⟨lw_p28, List.forall_mem_cons.mpr ⟨lw_p29, List.forall_mem_cons.mpr ⟨lw_p30, List.forall_mem_cons.mpr ⟨lw_p31, fun _ h => absurd h List.not_mem_nil⟩⟩⟩⟩⟩⟩⟩⟩⟩⟩⟩⟩⟩⟩⟩⟩
theorem lw_p32 : lw_okq (⟨"PartitionBenchModel", "takes", "(III)Z"⟩, 26) := ⟨⟨by decide +kernel, by decide +kernel⟩, List.mem_of_getElem? (i := 1428) (by decide +kernel), List.mem_of_getElem? (i := 1570) (by decide +kernel), List.mem_of_getElem? (i := 1571) (by decide +kernel)⟩
theorem lw_p33 : lw_okq (⟨"PartitionBenchModel", "isNumber", "(II)Z"⟩, 26) := ⟨⟨by decide +kernel, by decide +kernel⟩, List.mem_of_getElem? (i := 1428) (by decide +kernel), List.mem_of_getElem? (i := 1574) (by decide +kernel), List.mem_of_getElem? (i := 1575) (by decide +kernel)⟩
theorem lw_p34 : lw_okq (⟨"PartitionBenchModel", "passesSemicolon", "()Z"⟩, 26) := ⟨⟨by decide +kernel, by decide +kernel⟩, List.mem_of_getElem? (i := 1428) (by decide +kernel), List.mem_of_getElem? (i := 1578) (by decide +kernel), List.mem_of_getElem? (i := 1579) (by decide +kernel)⟩
theorem lw_p35 : lw_okq (⟨"PartitionBenchModel", "readStatement", "()Z"⟩, 26) := ⟨⟨by decide +kernel, by decide +kernel⟩, List.mem_of_getElem? (i := 1428) (by decide +kernel), List.mem_of_getElem? (i := 1582) (by decide +kernel), List.mem_of_getElem? (i := 1583) (by decide +kernel)⟩
theorem lw_p36 : lw_okq (⟨"PartitionBenchModel", "readSetting", "(IIII)Z"⟩, 26) := ⟨⟨by decide +kernel, by decide +kernel⟩, List.mem_of_getElem? (i := 1428) (by decide +kernel), List.mem_of_getElem? (i := 1587) (by decide +kernel), List.mem_of_getElem? (i := 1588) (by decide +kernel)⟩
theorem lw_p37 : lw_okq (⟨"PartitionBenchModel", "readPart", "()Z"⟩, 26) := ⟨⟨by decide +kernel, by decide +kernel⟩, List.mem_of_getElem? (i := 1428) (by decide +kernel), List.mem_of_getElem? (i := 1595) (by decide +kernel), List.mem_of_getElem? (i := 1596) (by decide +kernel)⟩
theorem lw_p38 : lw_okq (⟨"PartitionBenchModel", "isUsable", "(JJ)Z"⟩, 26) := ⟨⟨by decide +kernel, by decide +kernel⟩, List.mem_of_getElem? (i := 1428) (by decide +kernel), List.mem_of_getElem? (i := 1599) (by decide +kernel), List.mem_of_getElem? (i := 1600) (by decide +kernel)⟩
theorem lw_p39 : lw_okq (⟨"PartitionBenchModel", "isTaken", "(JJI)Z"⟩, 26) := ⟨⟨by decide +kernel, by decide +kernel⟩, List.mem_of_getElem? (i := 1428) (by decide +kernel), List.mem_of_getElem? (i := 1603) (by decide +kernel), List.mem_of_getElem? (i := 1604) (by decide +kernel)⟩
theorem lw_p40 : lw_okq (⟨"PartitionBenchModel", "of", "(II)I"⟩, 26) := ⟨⟨by decide +kernel, by decide +kernel⟩, List.mem_of_getElem? (i := 1428) (by decide +kernel), List.mem_of_getElem? (i := 1607) (by decide +kernel), List.mem_of_getElem? (i := 1608) (by decide +kernel)⟩
theorem lw_p41 : lw_okq (⟨"PartitionBenchModel", "makes", "(IIII)I"⟩, 26) := ⟨⟨by decide +kernel, by decide +kernel⟩, List.mem_of_getElem? (i := 1428) (by decide +kernel), List.mem_of_getElem? (i := 1614) (by decide +kernel), List.mem_of_getElem? (i := 1615) (by decide +kernel)⟩
theorem lw_p42 : lw_okq (⟨"PartitionBenchModel", "put", "(III)V"⟩, 26) := ⟨⟨by decide +kernel, by decide +kernel⟩, List.mem_of_getElem? (i := 1428) (by decide +kernel), List.mem_of_getElem? (i := 1618) (by decide +kernel), List.mem_of_getElem? (i := 1619) (by decide +kernel)⟩
theorem lw_p43 : lw_okq (⟨"PartitionBenchModel", "writes", "(II)V"⟩, 26) := ⟨⟨by decide +kernel, by decide +kernel⟩, List.mem_of_getElem? (i := 1428) (by decide +kernel), List.mem_of_getElem? (i := 1622) (by decide +kernel), List.mem_of_getElem? (i := 1623) (by decide +kernel)⟩
theorem lw_p44 : lw_okq (⟨"PartitionBenchModel", "numberOf", "(II)I"⟩, 26) := ⟨⟨by decide +kernel, by decide +kernel⟩, List.mem_of_getElem? (i := 1428) (by decide +kernel), List.mem_of_getElem? (i := 1626) (by decide +kernel), List.mem_of_getElem? (i := 1627) (by decide +kernel)⟩
theorem lw_p45 : lw_okq (⟨"PartitionBenchModel", "readLock", "()Z"⟩, 26) := ⟨⟨by decide +kernel, by decide +kernel⟩, List.mem_of_getElem? (i := 1428) (by decide +kernel), List.mem_of_getElem? (i := 1631) (by decide +kernel), List.mem_of_getElem? (i := 1632) (by decide +kernel)⟩
theorem lw_p46 : lw_okq (⟨"PartitionBenchModel", "partsMany", "()I"⟩, 26) := ⟨⟨by decide +kernel, by decide +kernel⟩, List.mem_of_getElem? (i := 1428) (by decide +kernel), List.mem_of_getElem? (i := 1635) (by decide +kernel), List.mem_of_getElem? (i := 1636) (by decide +kernel)⟩
theorem lw_p47 : lw_okq (⟨"PartitionBenchModel", "fails", "(ZI)Z"⟩, 26) := ⟨⟨by decide +kernel, by decide +kernel⟩, List.mem_of_getElem? (i := 1428) (by decide +kernel), List.mem_of_getElem? (i := 1652) (by decide +kernel), List.mem_of_getElem? (i := 1653) (by decide +kernel)⟩
def lw_privs_3 : List (MethodName × Nat) := [(⟨"PartitionBenchModel", "takes", "(III)Z"⟩, 26), (⟨"PartitionBenchModel", "isNumber", "(II)Z"⟩, 26), (⟨"PartitionBenchModel", "passesSemicolon", "()Z"⟩, 26), (⟨"PartitionBenchModel", "readStatement", "()Z"⟩, 26), (⟨"PartitionBenchModel", "readSetting", "(IIII)Z"⟩, 26), (⟨"PartitionBenchModel", "readPart", "()Z"⟩, 26), (⟨"PartitionBenchModel", "isUsable", "(JJ)Z"⟩, 26), (⟨"PartitionBenchModel", "isTaken", "(JJI)Z"⟩, 26), (⟨"PartitionBenchModel", "of", "(II)I"⟩, 26), (⟨"PartitionBenchModel", "makes", "(IIII)I"⟩, 26), (⟨"PartitionBenchModel", "put", "(III)V"⟩, 26), (⟨"PartitionBenchModel", "writes", "(II)V"⟩, 26), (⟨"PartitionBenchModel", "numberOf", "(II)I"⟩, 26), (⟨"PartitionBenchModel", "readLock", "()Z"⟩, 26), (⟨"PartitionBenchModel", "partsMany", "()I"⟩, 26), (⟨"PartitionBenchModel", "fails", "(ZI)Z"⟩, 26)]
theorem lw_r3 : ∀ q ∈ lw_privs_3, lw_okq q := List.forall_mem_cons.mpr ⟨lw_p32, List.forall_mem_cons.mpr ⟨lw_p33, List.forall_mem_cons.mpr ⟨lw_p34, List.forall_mem_cons.mpr ⟨lw_p35, List.forall_mem_cons.mpr ⟨lw_p36, List.forall_mem_cons.mpr ⟨lw_p37, List.forall_mem_cons.mpr ⟨lw_p38, List.forall_mem_cons.mpr ⟨lw_p39, List.forall_mem_cons.mpr ⟨lw_p40, List.forall_mem_cons.mpr ⟨lw_p41, List.forall_mem_cons.mpr ⟨lw_p42, List.forall_mem_cons.mpr ⟨lw_p43, List.forall_mem_cons.mpr ⟨lw_p44, List.forall_mem_cons.mpr ⟨lw_p45, List.forall_mem_cons.mpr ⟨lw_p46, List.forall_mem_cons.mpr ⟨lw_p47, fun _ h => absurd h List.not_mem_nil⟩⟩⟩⟩⟩⟩⟩⟩⟩⟩⟩⟩⟩⟩⟩⟩
theorem lw_p48 : lw_okq (⟨"PartitionBenchModel", "gapSectors", "()I"⟩, 26) := ⟨⟨by decide +kernel, by decide +kernel⟩, List.mem_of_getElem? (i := 1428) (by decide +kernel), List.mem_of_getElem? (i := 1656) (by decide +kernel), List.mem_of_getElem? (i := 1657) (by decide +kernel)⟩
theorem lw_p49 : lw_okq (⟨"PartitionBenchModel", "laysGaps", "()V"⟩, 26) := ⟨⟨by decide +kernel, by decide +kernel⟩, List.mem_of_getElem? (i := 1428) (by decide +kernel), List.mem_of_getElem? (i := 1660) (by decide +kernel), List.mem_of_getElem? (i := 1661) (by decide +kernel)⟩
theorem lw_p50 : lw_okq (⟨"PartitionBenchModel", "isFree", "(I)Z"⟩, 26) := ⟨⟨by decide +kernel, by decide +kernel⟩, List.mem_of_getElem? (i := 1428) (by decide +kernel), List.mem_of_getElem? (i := 1664) (by decide +kernel), List.mem_of_getElem? (i := 1665) (by decide +kernel)⟩
theorem lw_p51 : lw_okq (⟨"PartitionBenchModel", "isBusy", "(JJ)Z"⟩, 26) := ⟨⟨by decide +kernel, by decide +kernel⟩, List.mem_of_getElem? (i := 1428) (by decide +kernel), List.mem_of_getElem? (i := 1668) (by decide +kernel), List.mem_of_getElem? (i := 1669) (by decide +kernel)⟩
theorem lw_p52 : lw_okq (⟨"PartitionBenchModel", "isMoving", "()Z"⟩, 26) := ⟨⟨by decide +kernel, by decide +kernel⟩, List.mem_of_getElem? (i := 1428) (by decide +kernel), List.mem_of_getElem? (i := 1672) (by decide +kernel), List.mem_of_getElem? (i := 1673) (by decide +kernel)⟩
theorem lw_p53 : lw_okq (⟨"PartitionBenchModel", "scratchSize", "()I"⟩, 26) := ⟨⟨by decide +kernel, by decide +kernel⟩, List.mem_of_getElem? (i := 1428) (by decide +kernel), List.mem_of_getElem? (i := 1676) (by decide +kernel), List.mem_of_getElem? (i := 1677) (by decide +kernel)⟩
theorem lw_p54 : lw_okq (⟨"PartitionBenchModel", "gapsNow", "()I"⟩, 26) := ⟨⟨by decide +kernel, by decide +kernel⟩, List.mem_of_getElem? (i := 1428) (by decide +kernel), List.mem_of_getElem? (i := 1681) (by decide +kernel), List.mem_of_getElem? (i := 1682) (by decide +kernel)⟩
theorem lw_p55 : lw_okq (⟨"PartitionBenchModel", "noPart", "(II)Z"⟩, 26) := ⟨⟨by decide +kernel, by decide +kernel⟩, List.mem_of_getElem? (i := 1428) (by decide +kernel), List.mem_of_getElem? (i := 1690) (by decide +kernel), List.mem_of_getElem? (i := 1691) (by decide +kernel)⟩
theorem lw_p56 : lw_okq (⟨"PartitionBenchModel", "stands", "(I)Z"⟩, 26) := ⟨⟨by decide +kernel, by decide +kernel⟩, List.mem_of_getElem? (i := 1428) (by decide +kernel), List.mem_of_getElem? (i := 1694) (by decide +kernel), List.mem_of_getElem? (i := 1695) (by decide +kernel)⟩
theorem lw_p57 : lw_okq (⟨"PartitionBenchModel", "noSector", "(I)Z"⟩, 26) := ⟨⟨by decide +kernel, by decide +kernel⟩, List.mem_of_getElem? (i := 1428) (by decide +kernel), List.mem_of_getElem? (i := 1703) (by decide +kernel), List.mem_of_getElem? (i := 1704) (by decide +kernel)⟩
theorem lw_p58 : lw_okq (⟨"PartitionBenchModel", "ownerOf", "(I)I"⟩, 26) := ⟨⟨by decide +kernel, by decide +kernel⟩, List.mem_of_getElem? (i := 1428) (by decide +kernel), List.mem_of_getElem? (i := 1711) (by decide +kernel), List.mem_of_getElem? (i := 1712) (by decide +kernel)⟩
theorem lw_p59 : lw_okq (⟨"PartitionBenchModel", "placeOf", "(II)I"⟩, 26) := ⟨⟨by decide +kernel, by decide +kernel⟩, List.mem_of_getElem? (i := 1428) (by decide +kernel), List.mem_of_getElem? (i := 1715) (by decide +kernel), List.mem_of_getElem? (i := 1716) (by decide +kernel)⟩
theorem lw_p60 : lw_okq (⟨"PartitionBenchModel", "isMoved", "(I)Z"⟩, 26) := ⟨⟨by decide +kernel, by decide +kernel⟩, List.mem_of_getElem? (i := 1428) (by decide +kernel), List.mem_of_getElem? (i := 1719) (by decide +kernel), List.mem_of_getElem? (i := 1720) (by decide +kernel)⟩
theorem lw_p61 : lw_okq (⟨"PartitionBenchModel", "isChunkMoved", "(I)Z"⟩, 26) := ⟨⟨by decide +kernel, by decide +kernel⟩, List.mem_of_getElem? (i := 1428) (by decide +kernel), List.mem_of_getElem? (i := 1723) (by decide +kernel), List.mem_of_getElem? (i := 1724) (by decide +kernel)⟩
theorem lw_p62 : lw_okq (⟨"PartitionBenchModel", "isAscending", "()Z"⟩, 26) := ⟨⟨by decide +kernel, by decide +kernel⟩, List.mem_of_getElem? (i := 1428) (by decide +kernel), List.mem_of_getElem? (i := 1727) (by decide +kernel), List.mem_of_getElem? (i := 1728) (by decide +kernel)⟩
theorem lw_p63 : lw_okq (⟨"PartitionBenchModel", "chunks", "()I"⟩, 26) := ⟨⟨by decide +kernel, by decide +kernel⟩, List.mem_of_getElem? (i := 1428) (by decide +kernel), List.mem_of_getElem? (i := 1731) (by decide +kernel), List.mem_of_getElem? (i := 1732) (by decide +kernel)⟩
def lw_privs_4 : List (MethodName × Nat) := [(⟨"PartitionBenchModel", "gapSectors", "()I"⟩, 26), (⟨"PartitionBenchModel", "laysGaps", "()V"⟩, 26), (⟨"PartitionBenchModel", "isFree", "(I)Z"⟩, 26), (⟨"PartitionBenchModel", "isBusy", "(JJ)Z"⟩, 26), (⟨"PartitionBenchModel", "isMoving", "()Z"⟩, 26), (⟨"PartitionBenchModel", "scratchSize", "()I"⟩, 26), (⟨"PartitionBenchModel", "gapsNow", "()I"⟩, 26), (⟨"PartitionBenchModel", "noPart", "(II)Z"⟩, 26), (⟨"PartitionBenchModel", "stands", "(I)Z"⟩, 26), (⟨"PartitionBenchModel", "noSector", "(I)Z"⟩, 26), (⟨"PartitionBenchModel", "ownerOf", "(I)I"⟩, 26), (⟨"PartitionBenchModel", "placeOf", "(II)I"⟩, 26), (⟨"PartitionBenchModel", "isMoved", "(I)Z"⟩, 26), (⟨"PartitionBenchModel", "isChunkMoved", "(I)Z"⟩, 26), (⟨"PartitionBenchModel", "isAscending", "()Z"⟩, 26), (⟨"PartitionBenchModel", "chunks", "()I"⟩, 26)]
theorem lw_r4 : ∀ q ∈ lw_privs_4, lw_okq q := List.forall_mem_cons.mpr ⟨lw_p48, List.forall_mem_cons.mpr ⟨lw_p49, List.forall_mem_cons.mpr ⟨lw_p50, List.forall_mem_cons.mpr ⟨lw_p51, List.forall_mem_cons.mpr ⟨lw_p52, List.forall_mem_cons.mpr ⟨lw_p53, List.forall_mem_cons.mpr ⟨lw_p54, List.forall_mem_cons.mpr ⟨lw_p55, List.forall_mem_cons.mpr ⟨lw_p56, List.forall_mem_cons.mpr ⟨lw_p57, List.forall_mem_cons.mpr ⟨lw_p58, List.forall_mem_cons.mpr ⟨lw_p59, List.forall_mem_cons.mpr ⟨lw_p60, List.forall_mem_cons.mpr ⟨lw_p61, List.forall_mem_cons.mpr ⟨lw_p62, List.forall_mem_cons.mpr ⟨lw_p63, fun _ h => absurd h List.not_mem_nil⟩⟩⟩⟩⟩⟩⟩⟩⟩⟩⟩⟩⟩⟩⟩⟩
theorem lw_p64 : lw_okq (⟨"PartitionBenchModel", "nextChunk", "()I"⟩, 26) := ⟨⟨by decide +kernel, by decide +kernel⟩, List.mem_of_getElem? (i := 1428) (by decide +kernel), List.mem_of_getElem? (i := 1738) (by decide +kernel), List.mem_of_getElem? (i := 1739) (by decide +kernel)⟩
theorem lw_p65 : lw_okq (⟨"PartitionBenchModel", "firstBlock", "()I"⟩, 26) := ⟨⟨by decide +kernel, by decide +kernel⟩, List.mem_of_getElem? (i := 1428) (by decide +kernel), List.mem_of_getElem? (i := 1742) (by decide +kernel), List.mem_of_getElem? (i := 1743) (by decide +kernel)⟩
theorem lw_p66 : lw_okq (⟨"PartitionBenchModel", "whole", "(I)Z"⟩, 26) := ⟨⟨by decide +kernel, by decide +kernel⟩, List.mem_of_getElem? (i := 1428) (by decide +kernel), List.mem_of_getElem? (i := 1754) (by decide +kernel), List.mem_of_getElem? (i := 1755) (by decide +kernel)⟩
theorem lw_p67 : lw_okq (⟨"PartitionBenchModel", "standsAt", "(I)I"⟩, 26) := ⟨⟨by decide +kernel, by decide +kernel⟩, List.mem_of_getElem? (i := 1428) (by decide +kernel), List.mem_of_getElem? (i := 1766) (by decide +kernel), List.mem_of_getElem? (i := 1767) (by decide +kernel)⟩
theorem lw_p68 : lw_okq (⟨"PartitionBenchModel", "nextBy", "(I)I"⟩, 26) := ⟨⟨by decide +kernel, by decide +kernel⟩, List.mem_of_getElem? (i := 1428) (by decide +kernel), List.mem_of_getElem? (i := 1770) (by decide +kernel), List.mem_of_getElem? (i := 1771) (by decide +kernel)⟩
theorem lw_p69 : lw_okq (⟨"PartitionBenchModel", "roomSize", "(I)I"⟩, 26) := ⟨⟨by decide +kernel, by decide +kernel⟩, List.mem_of_getElem? (i := 1428) (by decide +kernel), List.mem_of_getElem? (i := 1783) (by decide +kernel), List.mem_of_getElem? (i := 1784) (by decide +kernel)⟩
theorem lw_p70 : lw_okq (⟨"PartitionBenchModel", "roomStart", "(I)I"⟩, 26) := ⟨⟨by decide +kernel, by decide +kernel⟩, List.mem_of_getElem? (i := 1428) (by decide +kernel), List.mem_of_getElem? (i := 1787) (by decide +kernel), List.mem_of_getElem? (i := 1788) (by decide +kernel)⟩
theorem lw_p71 : lw_okq (⟨"PartitionBenchModel", "greatestGap", "()I"⟩, 26) := ⟨⟨by decide +kernel, by decide +kernel⟩, List.mem_of_getElem? (i := 1428) (by decide +kernel), List.mem_of_getElem? (i := 1796) (by decide +kernel), List.mem_of_getElem? (i := 1797) (by decide +kernel)⟩
theorem lw_p72 : lw_okq (⟨"PartitionBenchModel", "fits", "(II)I"⟩, 26) := ⟨⟨by decide +kernel, by decide +kernel⟩, List.mem_of_getElem? (i := 1428) (by decide +kernel), List.mem_of_getElem? (i := 1809) (by decide +kernel), List.mem_of_getElem? (i := 1810) (by decide +kernel)⟩
theorem lw_p73 : lw_okq (⟨"PartitionBenchModel", "whyNot", "(II)I"⟩, 26) := ⟨⟨by decide +kernel, by decide +kernel⟩, List.mem_of_getElem? (i := 1428) (by decide +kernel), List.mem_of_getElem? (i := 1817) (by decide +kernel), List.mem_of_getElem? (i := 1818) (by decide +kernel)⟩
theorem lw_p74 : lw_okq (⟨"PartitionBenchModel", "sizes", "()I"⟩, 26) := ⟨⟨by decide +kernel, by decide +kernel⟩, List.mem_of_getElem? (i := 1428) (by decide +kernel), List.mem_of_getElem? (i := 1837) (by decide +kernel), List.mem_of_getElem? (i := 1838) (by decide +kernel)⟩
theorem lw_p75 : lw_okq (⟨"PartitionBenchModel", "slackOf", "(I)I"⟩, 26) := ⟨⟨by decide +kernel, by decide +kernel⟩, List.mem_of_getElem? (i := 1428) (by decide +kernel), List.mem_of_getElem? (i := 1845) (by decide +kernel), List.mem_of_getElem? (i := 1846) (by decide +kernel)⟩
theorem lw_p76 : lw_okq (⟨"PartitionBenchModel", "isFixed", "(I)Z"⟩, 26) := ⟨⟨by decide +kernel, by decide +kernel⟩, List.mem_of_getElem? (i := 1428) (by decide +kernel), List.mem_of_getElem? (i := 1849) (by decide +kernel), List.mem_of_getElem? (i := 1850) (by decide +kernel)⟩
theorem lw_p77 : lw_okq (⟨"PartitionBenchModel", "remembers", "()V"⟩, 26) := ⟨⟨by decide +kernel, by decide +kernel⟩, List.mem_of_getElem? (i := 1428) (by decide +kernel), List.mem_of_getElem? (i := 1865) (by decide +kernel), List.mem_of_getElem? (i := 1866) (by decide +kernel)⟩
theorem lw_p78 : lw_okq (⟨"PartitionBenchModel", "whyNotResized", "(II)I"⟩, 26) := ⟨⟨by decide +kernel, by decide +kernel⟩, List.mem_of_getElem? (i := 1428) (by decide +kernel), List.mem_of_getElem? (i := 1885) (by decide +kernel), List.mem_of_getElem? (i := 1886) (by decide +kernel)⟩
theorem lw_p79 : lw_okq (⟨"PartitionBenchModel", "whyNotSized", "(II)I"⟩, 26) := ⟨⟨by decide +kernel, by decide +kernel⟩, List.mem_of_getElem? (i := 1428) (by decide +kernel), List.mem_of_getElem? (i := 1889) (by decide +kernel), List.mem_of_getElem? (i := 1890) (by decide +kernel)⟩
def lw_privs_5 : List (MethodName × Nat) := [(⟨"PartitionBenchModel", "nextChunk", "()I"⟩, 26), (⟨"PartitionBenchModel", "firstBlock", "()I"⟩, 26), (⟨"PartitionBenchModel", "whole", "(I)Z"⟩, 26), (⟨"PartitionBenchModel", "standsAt", "(I)I"⟩, 26), (⟨"PartitionBenchModel", "nextBy", "(I)I"⟩, 26), (⟨"PartitionBenchModel", "roomSize", "(I)I"⟩, 26), (⟨"PartitionBenchModel", "roomStart", "(I)I"⟩, 26), (⟨"PartitionBenchModel", "greatestGap", "()I"⟩, 26), (⟨"PartitionBenchModel", "fits", "(II)I"⟩, 26), (⟨"PartitionBenchModel", "whyNot", "(II)I"⟩, 26), (⟨"PartitionBenchModel", "sizes", "()I"⟩, 26), (⟨"PartitionBenchModel", "slackOf", "(I)I"⟩, 26), (⟨"PartitionBenchModel", "isFixed", "(I)Z"⟩, 26), (⟨"PartitionBenchModel", "remembers", "()V"⟩, 26), (⟨"PartitionBenchModel", "whyNotResized", "(II)I"⟩, 26), (⟨"PartitionBenchModel", "whyNotSized", "(II)I"⟩, 26)]
theorem lw_r5 : ∀ q ∈ lw_privs_5, lw_okq q := List.forall_mem_cons.mpr ⟨lw_p64, List.forall_mem_cons.mpr ⟨lw_p65, List.forall_mem_cons.mpr ⟨lw_p66, List.forall_mem_cons.mpr ⟨lw_p67, List.forall_mem_cons.mpr ⟨lw_p68, List.forall_mem_cons.mpr ⟨lw_p69, List.forall_mem_cons.mpr ⟨lw_p70, List.forall_mem_cons.mpr ⟨lw_p71, List.forall_mem_cons.mpr ⟨lw_p72, List.forall_mem_cons.mpr ⟨lw_p73, List.forall_mem_cons.mpr ⟨lw_p74, List.forall_mem_cons.mpr ⟨lw_p75, List.forall_mem_cons.mpr ⟨lw_p76, List.forall_mem_cons.mpr ⟨lw_p77, List.forall_mem_cons.mpr ⟨lw_p78, List.forall_mem_cons.mpr ⟨lw_p79, fun _ h => absurd h List.not_mem_nil⟩⟩⟩⟩⟩⟩⟩⟩⟩⟩⟩⟩⟩⟩⟩⟩
theorem lw_p80 : lw_okq (⟨"PartitionBenchModel", "resizes", "(II)V"⟩, 26) := ⟨⟨by decide +kernel, by decide +kernel⟩, List.mem_of_getElem? (i := 1428) (by decide +kernel), List.mem_of_getElem? (i := 1897) (by decide +kernel), List.mem_of_getElem? (i := 1898) (by decide +kernel)⟩
theorem lw_p81 : lw_okq (⟨"PartitionBenchModel", "canJoin", "(I)Z"⟩, 26) := ⟨⟨by decide +kernel, by decide +kernel⟩, List.mem_of_getElem? (i := 1428) (by decide +kernel), List.mem_of_getElem? (i := 1921) (by decide +kernel), List.mem_of_getElem? (i := 1922) (by decide +kernel)⟩
theorem lw_p82 : lw_okq (⟨"PartitionBenchModel", "neighbour", "(I)I"⟩, 26) := ⟨⟨by decide +kernel, by decide +kernel⟩, List.mem_of_getElem? (i := 1428) (by decide +kernel), List.mem_of_getElem? (i := 1925) (by decide +kernel), List.mem_of_getElem? (i := 1926) (by decide +kernel)⟩
theorem lw_p83 : lw_okq (⟨"PartitionBenchModel", "whyNotMoved", "(II)I"⟩, 26) := ⟨⟨by decide +kernel, by decide +kernel⟩, List.mem_of_getElem? (i := 1428) (by decide +kernel), List.mem_of_getElem? (i := 1947) (by decide +kernel), List.mem_of_getElem? (i := 1948) (by decide +kernel)⟩
theorem lw_p84 : lw_okq (⟨"PartitionBenchModel", "scratchFor", "(III)I"⟩, 26) := ⟨⟨by decide +kernel, by decide +kernel⟩, List.mem_of_getElem? (i := 1428) (by decide +kernel), List.mem_of_getElem? (i := 1954) (by decide +kernel), List.mem_of_getElem? (i := 1955) (by decide +kernel)⟩
theorem lw_p85 : lw_okq (⟨"PartitionBenchModel", "stepsBy", "(II)I"⟩, 26) := ⟨⟨by decide +kernel, by decide +kernel⟩, List.mem_of_getElem? (i := 1428) (by decide +kernel), List.mem_of_getElem? (i := 1962) (by decide +kernel), List.mem_of_getElem? (i := 1963) (by decide +kernel)⟩
theorem lw_p86 : lw_okq (⟨"PartitionBenchModel", "starts", "(II)V"⟩, 26) := ⟨⟨by decide +kernel, by decide +kernel⟩, List.mem_of_getElem? (i := 1428) (by decide +kernel), List.mem_of_getElem? (i := 1973) (by decide +kernel), List.mem_of_getElem? (i := 1974) (by decide +kernel)⟩
theorem lw_p87 : lw_okq (⟨"PartitionBenchModel", "stepsLeft", "()I"⟩, 26) := ⟨⟨by decide +kernel, by decide +kernel⟩, List.mem_of_getElem? (i := 1428) (by decide +kernel), List.mem_of_getElem? (i := 1977) (by decide +kernel), List.mem_of_getElem? (i := 1978) (by decide +kernel)⟩
theorem lw_p88 : lw_okq (⟨"PartitionBenchModel", "distance", "()I"⟩, 26) := ⟨⟨by decide +kernel, by decide +kernel⟩, List.mem_of_getElem? (i := 1428) (by decide +kernel), List.mem_of_getElem? (i := 1981) (by decide +kernel), List.mem_of_getElem? (i := 1982) (by decide +kernel)⟩
theorem lw_p89 : lw_okq (⟨"PartitionBenchModel", "runs", "(I)I"⟩, 26) := ⟨⟨by decide +kernel, by decide +kernel⟩, List.mem_of_getElem? (i := 1428) (by decide +kernel), List.mem_of_getElem? (i := 1990) (by decide +kernel), List.mem_of_getElem? (i := 1991) (by decide +kernel)⟩
theorem lw_p90 : lw_okq (⟨"PartitionBenchModel", "step", "()V"⟩, 26) := ⟨⟨by decide +kernel, by decide +kernel⟩, List.mem_of_getElem? (i := 1428) (by decide +kernel), List.mem_of_getElem? (i := 1994) (by decide +kernel), List.mem_of_getElem? (i := 1995) (by decide +kernel)⟩
theorem lw_p91 : lw_okq (⟨"PartitionBenchModel", "stepKind", "()I"⟩, 26) := ⟨⟨by decide +kernel, by decide +kernel⟩, List.mem_of_getElem? (i := 1428) (by decide +kernel), List.mem_of_getElem? (i := 1998) (by decide +kernel), List.mem_of_getElem? (i := 1999) (by decide +kernel)⟩
theorem lw_p92 : lw_okq (⟨"PartitionBenchModel", "blocksNext", "()I"⟩, 26) := ⟨⟨by decide +kernel, by decide +kernel⟩, List.mem_of_getElem? (i := 1428) (by decide +kernel), List.mem_of_getElem? (i := 2002) (by decide +kernel), List.mem_of_getElem? (i := 2003) (by decide +kernel)⟩
theorem lw_p93 : lw_okq (⟨"PartitionBenchModel", "copiesBlocks", "(I)V"⟩, 26) := ⟨⟨by decide +kernel, by decide +kernel⟩, List.mem_of_getElem? (i := 1428) (by decide +kernel), List.mem_of_getElem? (i := 2006) (by decide +kernel), List.mem_of_getElem? (i := 2007) (by decide +kernel)⟩
theorem lw_p94 : lw_okq (⟨"PartitionBenchModel", "targetOf", "(I)I"⟩, 26) := ⟨⟨by decide +kernel, by decide +kernel⟩, List.mem_of_getElem? (i := 1428) (by decide +kernel), List.mem_of_getElem? (i := 2010) (by decide +kernel), List.mem_of_getElem? (i := 2011) (by decide +kernel)⟩
theorem lw_p95 : lw_okq (⟨"PartitionBenchModel", "sourceOf", "(I)I"⟩, 26) := ⟨⟨by decide +kernel, by decide +kernel⟩, List.mem_of_getElem? (i := 1428) (by decide +kernel), List.mem_of_getElem? (i := 2014) (by decide +kernel), List.mem_of_getElem? (i := 2015) (by decide +kernel)⟩
def lw_privs_6 : List (MethodName × Nat) := [(⟨"PartitionBenchModel", "resizes", "(II)V"⟩, 26), (⟨"PartitionBenchModel", "canJoin", "(I)Z"⟩, 26), (⟨"PartitionBenchModel", "neighbour", "(I)I"⟩, 26), (⟨"PartitionBenchModel", "whyNotMoved", "(II)I"⟩, 26), (⟨"PartitionBenchModel", "scratchFor", "(III)I"⟩, 26), (⟨"PartitionBenchModel", "stepsBy", "(II)I"⟩, 26), (⟨"PartitionBenchModel", "starts", "(II)V"⟩, 26), (⟨"PartitionBenchModel", "stepsLeft", "()I"⟩, 26), (⟨"PartitionBenchModel", "distance", "()I"⟩, 26), (⟨"PartitionBenchModel", "runs", "(I)I"⟩, 26), (⟨"PartitionBenchModel", "step", "()V"⟩, 26), (⟨"PartitionBenchModel", "stepKind", "()I"⟩, 26), (⟨"PartitionBenchModel", "blocksNext", "()I"⟩, 26), (⟨"PartitionBenchModel", "copiesBlocks", "(I)V"⟩, 26), (⟨"PartitionBenchModel", "targetOf", "(I)I"⟩, 26), (⟨"PartitionBenchModel", "sourceOf", "(I)I"⟩, 26)]
theorem lw_r6 : ∀ q ∈ lw_privs_6, lw_okq q := List.forall_mem_cons.mpr ⟨lw_p80, List.forall_mem_cons.mpr ⟨lw_p81, List.forall_mem_cons.mpr ⟨lw_p82, List.forall_mem_cons.mpr ⟨lw_p83, List.forall_mem_cons.mpr ⟨lw_p84, List.forall_mem_cons.mpr ⟨lw_p85, List.forall_mem_cons.mpr ⟨lw_p86, List.forall_mem_cons.mpr ⟨lw_p87, List.forall_mem_cons.mpr ⟨lw_p88, List.forall_mem_cons.mpr ⟨lw_p89, List.forall_mem_cons.mpr ⟨lw_p90, List.forall_mem_cons.mpr ⟨lw_p91, List.forall_mem_cons.mpr ⟨lw_p92, List.forall_mem_cons.mpr ⟨lw_p93, List.forall_mem_cons.mpr ⟨lw_p94, List.forall_mem_cons.mpr ⟨lw_p95, fun _ h => absurd h List.not_mem_nil⟩⟩⟩⟩⟩⟩⟩⟩⟩⟩⟩⟩⟩⟩⟩⟩
theorem lw_p96 : lw_okq (⟨"PartitionBenchModel", "leftOf", "(I)I"⟩, 26) := ⟨⟨by decide +kernel, by decide +kernel⟩, List.mem_of_getElem? (i := 1428) (by decide +kernel), List.mem_of_getElem? (i := 2051) (by decide +kernel), List.mem_of_getElem? (i := 2052) (by decide +kernel)⟩
theorem lw_p97 : lw_okq (⟨"PartitionBenchModel", "rightOf", "(I)I"⟩, 26) := ⟨⟨by decide +kernel, by decide +kernel⟩, List.mem_of_getElem? (i := 1428) (by decide +kernel), List.mem_of_getElem? (i := 2059) (by decide +kernel), List.mem_of_getElem? (i := 2060) (by decide +kernel)⟩
theorem lw_p98 : lw_okq (⟨"PartitionBenchModel", "compacts", "()I"⟩, 26) := ⟨⟨by decide +kernel, by decide +kernel⟩, List.mem_of_getElem? (i := 1428) (by decide +kernel), List.mem_of_getElem? (i := 2067) (by decide +kernel), List.mem_of_getElem? (i := 2068) (by decide +kernel)⟩
theorem lw_p99 : lw_okq (⟨"PartitionBenchModel", "begins", "()V"⟩, 26) := ⟨⟨by decide +kernel, by decide +kernel⟩, List.mem_of_getElem? (i := 1428) (by decide +kernel), List.mem_of_getElem? (i := 2075) (by decide +kernel), List.mem_of_getElem? (i := 2076) (by decide +kernel)⟩
theorem lw_p100 : lw_okq (⟨"PartitionBenchModel", "ends", "()V"⟩, 26) := ⟨⟨by decide +kernel, by decide +kernel⟩, List.mem_of_getElem? (i := 1428) (by decide +kernel), List.mem_of_getElem? (i := 2079) (by decide +kernel), List.mem_of_getElem? (i := 2080) (by decide +kernel)⟩
theorem lw_p101 : lw_okq (⟨"PartitionBenchModel", "mostRoom", "()I"⟩, 26) := ⟨⟨by decide +kernel, by decide +kernel⟩, List.mem_of_getElem? (i := 1428) (by decide +kernel), List.mem_of_getElem? (i := 2088) (by decide +kernel), List.mem_of_getElem? (i := 2089) (by decide +kernel)⟩
theorem lw_p102 : lw_okq (⟨"PartitionBenchModel", "brings", "(III)Z"⟩, 26) := ⟨⟨by decide +kernel, by decide +kernel⟩, List.mem_of_getElem? (i := 1428) (by decide +kernel), List.mem_of_getElem? (i := 2092) (by decide +kernel), List.mem_of_getElem? (i := 2093) (by decide +kernel)⟩
theorem lw_p103 : lw_okq (⟨"PartitionBenchModel", "write", "(I)V"⟩, 26) := ⟨⟨by decide +kernel, by decide +kernel⟩, List.mem_of_getElem? (i := 1428) (by decide +kernel), List.mem_of_getElem? (i := 2104) (by decide +kernel), List.mem_of_getElem? (i := 2105) (by decide +kernel)⟩
theorem lw_p104 : lw_okq (⟨"PartitionBenchModel", "writePart", "(I)V"⟩, 26) := ⟨⟨by decide +kernel, by decide +kernel⟩, List.mem_of_getElem? (i := 1428) (by decide +kernel), List.mem_of_getElem? (i := 2108) (by decide +kernel), List.mem_of_getElem? (i := 2109) (by decide +kernel)⟩
theorem lw_p105 : lw_okq (⟨"PartitionBenchModel", "writeNumber", "(I)V"⟩, 26) := ⟨⟨by decide +kernel, by decide +kernel⟩, List.mem_of_getElem? (i := 1428) (by decide +kernel), List.mem_of_getElem? (i := 2112) (by decide +kernel), List.mem_of_getElem? (i := 2113) (by decide +kernel)⟩
def lw_privs_7 : List (MethodName × Nat) := [(⟨"PartitionBenchModel", "leftOf", "(I)I"⟩, 26), (⟨"PartitionBenchModel", "rightOf", "(I)I"⟩, 26), (⟨"PartitionBenchModel", "compacts", "()I"⟩, 26), (⟨"PartitionBenchModel", "begins", "()V"⟩, 26), (⟨"PartitionBenchModel", "ends", "()V"⟩, 26), (⟨"PartitionBenchModel", "mostRoom", "()I"⟩, 26), (⟨"PartitionBenchModel", "brings", "(III)Z"⟩, 26), (⟨"PartitionBenchModel", "write", "(I)V"⟩, 26), (⟨"PartitionBenchModel", "writePart", "(I)V"⟩, 26), (⟨"PartitionBenchModel", "writeNumber", "(I)V"⟩, 26)]
theorem lw_r7 : ∀ q ∈ lw_privs_7, lw_okq q := List.forall_mem_cons.mpr ⟨lw_p96, List.forall_mem_cons.mpr ⟨lw_p97, List.forall_mem_cons.mpr ⟨lw_p98, List.forall_mem_cons.mpr ⟨lw_p99, List.forall_mem_cons.mpr ⟨lw_p100, List.forall_mem_cons.mpr ⟨lw_p101, List.forall_mem_cons.mpr ⟨lw_p102, List.forall_mem_cons.mpr ⟨lw_p103, List.forall_mem_cons.mpr ⟨lw_p104, List.forall_mem_cons.mpr ⟨lw_p105, fun _ h => absurd h List.not_mem_nil⟩⟩⟩⟩⟩⟩⟩⟩⟩⟩
def lw_privs : List (MethodName × Nat) := lw_privs_1 ++ (lw_privs_2 ++ (lw_privs_3 ++ (lw_privs_4 ++ (lw_privs_5 ++ (lw_privs_6 ++ (lw_privs_7))))))
def lw_tbl : List Cond := k2_sels lw_privs ++ tables_1
theorem lw_privs_ok : ∀ q ∈ lw_privs, lw_okq q := by
  show ∀ q ∈ lw_privs_1 ++ (lw_privs_2 ++ (lw_privs_3 ++ (lw_privs_4 ++ (lw_privs_5 ++ (lw_privs_6 ++ (lw_privs_7)))))), lw_okq q
  exact List.forall_mem_append.mpr ⟨lw_r1, List.forall_mem_append.mpr ⟨lw_r2, List.forall_mem_append.mpr ⟨lw_r3, List.forall_mem_append.mpr ⟨lw_r4, List.forall_mem_append.mpr ⟨lw_r5, List.forall_mem_append.mpr ⟨lw_r6, lw_r7⟩⟩⟩⟩⟩⟩
/-- the streams that the claim lets the run draw from -/
abbrev lw_cs : List Choice := [Jvm.Choice.named "NaN.bits"]
theorem lw_bits : nanBits ∈ lw_cs := by first | decide | exact List.mem_cons_self | simp [lw_cs, nanBits]
-- ===== end of PART A; then your names; then what follows =====
end
section
/-! RI: what a program must show of its tables, checked -/
section RIQ
section RIQ1
variable {ALL : List Jvm.Cond} {STR : List (String × Nat × String)} {G : ri_Tb}
/-- the words that a link asks for -/
def ri_nd (STR : List (String × Nat × String)) (G : ri_Tb) (own : String) (idx : Nat) (q : ri_Lk) : Option (List Jvm.Cond) := match q with
  | (0, a, b, _) => match (ri_cls G)[a]? with
    | some (_, T, N) => if b < N then some [.fieldLink own idx (T b).1 (T b).2.1 (T b).2.2.1] else none
    | none => none
  | (1, a, b, tx) => match (ri_cls G)[a]? with
    | some (_, T, N) => if b < N then some [.fieldLinkNest own idx (T b).1 (T b).2.1 (T b).2.2.1 tx] else none
    | none => none
  | (4, a, _, _) => match (ri_cls G)[a]? with
    | some (C, _, N) => some [.classLink own idx C, .instantiable C N, .initialized C]
    | none => none
  | (6, a, _, _) => match (ri_aty G)[a]? with
    | some (.object C) => some [.classLink own (idx - 100000) C, .arrayOver (.object C)]
    | _ => none
  | (8, a, b, _) => some [.constant own idx (Int32.ofNat a - Int32.ofNat b)]
  | (5, _, _, E) => if Bundle.fit E = true then some [.classLink own idx E, .initialized E] else none
  | (9, _, _, tx) => if (own, idx, tx) ∈ STR then some [] else none
  | (14, a, b, _) => some [.constantLong own idx (Int64.ofNat a - Int64.ofNat b)]
  | (13, _, _, E) => if (["java/lang/RuntimeException", "java/lang/Exception"].all (fun n => Bundle.fit n) && (vx_atS own idx E ["java/lang/RuntimeException", "java/lang/Exception"]).all vx_ot) = true then some (vx_atS own idx E ["java/lang/RuntimeException", "java/lang/Exception"]) else none
  | (15, _, _, E) => if (ri_atX own idx E 13 ri_rx "java/lang/RuntimeException" ["java/lang/Exception"]).all vx_ot = true then some (ri_atX own idx E 13 ri_rx "java/lang/RuntimeException" ["java/lang/Exception"]) else none
  | (20, mi, n, _) => match (ri_mts G)[mi]? with
    | some M2 => if (parseMethodDescriptor (ri_nm M2).desc).map (fun d => d.parameters.length) = some n then some [.methodLink own idx (ri_nm M2), .instanceMethod (ri_nm M2), .selects (ri_nm M2).cls (ri_nm M2) (ri_nm M2)] else none
    | none => none
  | (21, mi, n, _) => match (ri_mts G)[mi]? with
    | some M2 => if (parseMethodDescriptor (ri_nm M2).desc).map (fun d => d.parameters.length) = some n then some [.methodLink own idx (ri_nm M2), .static (ri_nm M2)] else none
    | none => none
  | (22, mi, n, _) => match (ri_mts G)[mi]? with
    | some M2 => if (parseMethodDescriptor (ri_nm M2).desc).map (fun d => d.parameters.length) = some n ∧ (ri_nm M2).name = "<init>" ∧ ri_rt M2 = none then some [.methodLink own idx (ri_nm M2), .instanceMethod (ri_nm M2)] else none
    | none => none
  | (30, mi, n, tx) => match (ri_mts G)[mi]? with
    | some M2 => if (parseMethodDescriptor (ri_nm M2).desc).map (fun d => d.parameters.length) = some n then some [.methodLinkNest own idx (ri_nm M2) tx, .instanceMethod (ri_nm M2), .selects (ri_nm M2).cls (ri_nm M2) (ri_nm M2)] else none
    | none => none
  | (31, mi, n, tx) => match (ri_mts G)[mi]? with
    | some M2 => if (parseMethodDescriptor (ri_nm M2).desc).map (fun d => d.parameters.length) = some n then some [.methodLinkNest own idx (ri_nm M2) tx, .static (ri_nm M2)] else none
    | none => none
  | (32, mi, n, tx) => match (ri_mts G)[mi]? with
    | some M2 => if (parseMethodDescriptor (ri_nm M2).desc).map (fun d => d.parameters.length) = some n ∧ (ri_nm M2).name = "<init>" ∧ ri_rt M2 = none then some [.methodLinkNest own idx (ri_nm M2) tx, .instanceMethod (ri_nm M2)] else none
    | none => none
  | (7, _, _, _) => some [.methodLink own idx objectInit, .instanceMethod objectInit, .code objectInit ⟨#[0xb1]⟩ 1 none]
  | (10, _, _, _) => some [.methodLink own idx Lib.Math.max.name, .static Lib.Math.max.name, .initialized "java/lang/Math", .code Lib.Math.max.name Lib.Math.max.code 2 (some .int)]
  | (11, _, _, _) => some [.methodLink own idx Lib.Math.min.name, .static Lib.Math.min.name, .initialized "java/lang/Math", .code Lib.Math.min.name Lib.Math.min.code 2 (some .int)]
  | (12, _, _, _) => some [.methodLink own idx arraycopyName, .native arraycopyName, .static arraycopyName, .initialized "java/lang/System"]
  | (16, _, _, _) => some (.methodLink own idx sx_y7 :: sx_W)
  | (17, _, _, _) => some (.methodLink own idx sx_y6 :: sx_W)
  | _ => none
set_option maxHeartbeats 4000000 in
theorem ri_nd_s {own : String} {idx : Nat} {q : ri_Lk} {ws : List Jvm.Cond} (h : ri_nd STR G own idx q = some ws) (hw : ∀ w ∈ ws, w ∈ ALL) : ri_link ALL STR G own idx q := by
  have i0 : ∀ {a : Jvm.Cond} {l : List Jvm.Cond}, a ∈ a :: l := List.mem_cons_self
  have i1 : ∀ {a b : Jvm.Cond} {l : List Jvm.Cond}, b ∈ a :: b :: l := List.mem_cons_of_mem _ List.mem_cons_self
  have i2 : ∀ {a b c : Jvm.Cond} {l : List Jvm.Cond}, c ∈ a :: b :: c :: l := List.mem_cons_of_mem _ (List.mem_cons_of_mem _ List.mem_cons_self)
  have i3 : ∀ {a b c d : Jvm.Cond} {l : List Jvm.Cond}, d ∈ a :: b :: c :: d :: l := List.mem_cons_of_mem _ (List.mem_cons_of_mem _ (List.mem_cons_of_mem _ List.mem_cons_self))
  unfold ri_nd at h
  split at h
  · split at h
    · next C T N e => split at h
                      · next hb => cases h; exact ⟨C, T, N, e, hb, hw _ i0⟩
                      · cases h
    · cases h
  · split at h
    · next C T N e => split at h
                      · next hb => cases h; exact ⟨C, T, N, e, hb, hw _ i0⟩
                      · cases h
    · cases h
  · split at h
    · next C T N e => cases h; exact ⟨C, T, N, e, hw _ i0, hw _ i1, hw _ i2⟩
    · cases h
  · split at h
    · next C e => cases h; exact ⟨C, e, hw _ i0, hw _ i1⟩
    · cases h
  · cases h; exact hw _ i0
  · split at h
    · next hf => cases h; exact ⟨hw _ i0, hw _ i1, hf⟩
    · cases h
  · split at h
    · next hf => exact hf
    · cases h
  · cases h; exact hw _ i0
  · split at h
    · next hf =>
      cases h
      rw [Bool.and_eq_true, List.all_eq_true, List.all_eq_true] at hf
      exact ⟨_, by decide, fun n hn => hf.1 n hn, fun w hq => ⟨hw w hq, hf.2 w hq⟩⟩
    · cases h
  · split at h
    · next hf =>
      cases h
      rw [List.all_eq_true] at hf
      exact fun w hq => ⟨hw w hq, hf w hq⟩
    · cases h
  · split at h
    · next M2 e => split at h
                   · next hf => cases h; exact ⟨M2, e, hf, hw _ i0, hw _ i1, hw _ i2⟩
                   · cases h
    · cases h
  · split at h
    · next M2 e => split at h
                   · next hf => cases h; exact ⟨M2, e, hf, hw _ i0, hw _ i1⟩
                   · cases h
    · cases h
  · split at h
    · next M2 e => split at h
                   · next hf => cases h; exact ⟨M2, e, hf.1, hw _ i0, hw _ i1, hf.2.1, hf.2.2⟩
                   · cases h
    · cases h
  · split at h
    · next M2 e => split at h
                   · next hf => cases h; exact ⟨M2, e, hf, hw _ i0, hw _ i1, hw _ i2⟩
                   · cases h
    · cases h
  · split at h
    · next M2 e => split at h
                   · next hf => cases h; exact ⟨M2, e, hf, hw _ i0, hw _ i1⟩
                   · cases h
    · cases h
  · split at h
    · next M2 e => split at h
                   · next hf => cases h; exact ⟨M2, e, hf.1, hw _ i0, hw _ i1, hf.2.1, hf.2.2⟩
                   · cases h
    · cases h
  · cases h; exact ⟨hw _ i0, hw _ i1, hw _ i2⟩
  · cases h; exact ⟨hw _ i0, hw _ i1, hw _ i2, hw _ i3⟩
  · cases h; exact ⟨hw _ i0, hw _ i1, hw _ i2, hw _ i3⟩
  · cases h; exact ⟨hw _ i0, hw _ i1, hw _ i2, hw _ i3⟩
  · cases h; exact ⟨hw _ List.mem_cons_self, fun w h9 => hw w (List.mem_cons_of_mem _ h9)⟩
  · cases h; exact ⟨hw _ List.mem_cons_self, fun w h9 => hw w (List.mem_cons_of_mem _ h9)⟩
  · cases h
/-- a word at its place: the number of its list, its place there -/
def ri_hs (T : List (List Jvm.Cond)) (w : Jvm.Cond) (h : Nat × Nat) : Bool := match T[h.1]? with
  | some l => match l[h.2]? with
    | some z => decide (z = w) && ri_warm w
    | none => false
  | none => false
theorem ri_hs_s {T : List (List Jvm.Cond)} {w : Jvm.Cond} {h : Nat × Nat} (e : ri_hs T w h = true) : w ∈ T.flatten.filter ri_warm := by
  unfold ri_hs at e
  split at e
  · next l hl =>
    split at e
    · next z hz =>
      rw [Bool.and_eq_true, decide_eq_true_iff] at e
      obtain ⟨rfl, e2⟩ := e
      exact List.mem_filter.mpr ⟨List.mem_flatten.mpr ⟨l, List.mem_of_getElem? hl, List.mem_of_getElem? hz⟩, e2⟩
    · cases e
  · cases e
def ri_hsW (T : List (List Jvm.Cond)) : List Jvm.Cond → List (Nat × Nat) → Bool
  | [], _ => true
  | w :: l, h :: r => ri_hs T w h && ri_hsW T l r
  | _ :: _, [] => false
theorem ri_hsW_s {T : List (List Jvm.Cond)} : ∀ (ws : List Jvm.Cond) (hs : List (Nat × Nat)), ri_hsW T ws hs = true → ∀ w ∈ ws, w ∈ T.flatten.filter ri_warm
  | [], _, _, w, hw => by cases hw
  | a :: l, h :: r, e, w, hw => by
    simp only [ri_hsW, Bool.and_eq_true] at e
    rcases List.mem_cons.mp hw with rfl | hw
    · exact ri_hs_s e.1
    · exact ri_hsW_s l r e.2 w hw
  | _ :: _, [], e, _, _ => by cases e
def ri_hsL (T : List (List Jvm.Cond)) (STR : List (String × Nat × String)) (G : ri_Tb) (own : String) : List (Nat × ri_Lk) → List (List (Nat × Nat)) → Bool
  | [], _ => true
  | q :: l, h :: r => (match ri_nd STR G own q.1 q.2 with
    | some ws => ri_hsW T ws h
    | none => false) && ri_hsL T STR G own l r
  | _ :: _, [] => false
theorem ri_hsL_s {T : List (List Jvm.Cond)} {own : String} : ∀ (ls : List (Nat × ri_Lk)) (hs : List (List (Nat × Nat))), ri_hsL T STR G own ls hs = true → ∀ q ∈ ls, ri_link (T.flatten.filter ri_warm) STR G own q.1 q.2
  | [], _, _, q, hq => by cases hq
  | a :: l, h :: r, e, q, hq => by
    simp only [ri_hsL, Bool.and_eq_true] at e
    rcases List.mem_cons.mp hq with rfl | hq
    · have e1 := e.1
      split at e1
      · next ws hws => exact ri_nd_s hws (ri_hsW_s _ _ e1)
      · cases e1
    · exact ri_hsL_s l r e.2 q hq
  | _ :: _, [], e, _, _ => by cases e
/-- where a word stands -/
def ri_place (T : List (List Jvm.Cond)) (w : Jvm.Cond) : Nat × Nat := match T.findIdx? (fun l => l.any (fun z => decide (z = w))) with
  | some i => (i, ((T[i]?.getD []).findIdx? (fun z => decide (z = w))).getD 99999)
  | none => (999, 999)
end RIQ1
end RIQ
/-! RI: the tables of kinds of objects and of methods, checked -/
section RIQ2
variable {STR : List (String × Nat × String)} {G : ri_Tb} {T0 : List (List Jvm.Cond)}
def ri_clB (T0 : List (List Jvm.Cond)) (r : vw_C) (tys : List FieldType) (h : List (Nat × Nat)) : Bool :=
  tys.length == r.2.2 && ((List.range r.2.2).all (fun k => decide (parseFieldDescriptor (r.2.1 k).2.2.1 = tys[k]?)) && ((List.range r.2.2).all (fun a => (List.range r.2.2).all (fun b => a == b || decide ((r.2.1 a).2.1 ≠ (r.2.1 b).2.1))) && ri_hsW T0 (u_ws r.1 r.2.1 r.2.2) h))
theorem ri_clB_s {r : vw_C} {tys : List FieldType} {h : List (Nat × Nat)} (e : ri_clB T0 r tys h = true) : tys.length = r.2.2 ∧ (∀ k, k < r.2.2 → parseFieldDescriptor (r.2.1 k).2.2.1 = tys[k]?) ∧ (∀ a, a < r.2.2 → ∀ b, b < r.2.2 → a ≠ b → (r.2.1 a).2.1 ≠ (r.2.1 b).2.1) ∧ ∀ w ∈ u_ws r.1 r.2.1 r.2.2, w ∈ T0.flatten.filter ri_warm := by
  simp only [ri_clB, Bool.and_eq_true, beq_iff_eq, List.all_eq_true, List.mem_range, decide_eq_true_iff, Bool.or_eq_true] at e
  obtain ⟨e1, e2, e3, e4⟩ := e
  exact ⟨e1, e2, fun a ha b hb hab => (e3 a ha b hb).resolve_left hab, ri_hsW_s _ _ e4⟩
def ri_clL (T0 : List (List Jvm.Cond)) : List vw_C → List (List FieldType) → List (List (Nat × Nat)) → Bool
  | [], _, _ => true
  | r :: l, t :: ts, h :: hs => ri_clB T0 r t h && ri_clL T0 l ts hs
  | _, _, _ => false
theorem ri_clL_s : ∀ (cl : List vw_C) (ts : List (List FieldType)) (hs : List (List (Nat × Nat))), ri_clL T0 cl ts hs = true → ∀ (ci : Nat) (r : vw_C), cl[ci]? = some r → ∃ tys : List FieldType, ts[ci]? = some tys ∧ tys.length = r.2.2 ∧ (∀ k, k < r.2.2 → parseFieldDescriptor (r.2.1 k).2.2.1 = tys[k]?) ∧ (∀ a, a < r.2.2 → ∀ b, b < r.2.2 → a ≠ b → (r.2.1 a).2.1 ≠ (r.2.1 b).2.1) ∧ ∀ w ∈ u_ws r.1 r.2.1 r.2.2, w ∈ T0.flatten.filter ri_warm
  | [], _, _, _, ci, r, hr => by simp at hr
  | r0 :: l, t :: ts, h :: hs, e, ci, r, hr => by
    simp only [ri_clL, Bool.and_eq_true] at e
    cases ci with
    | zero =>
      rw [List.getElem?_cons_zero] at hr
      cases hr
      exact ⟨t, rfl, ri_clB_s e.1⟩
    | succ ci =>
      rw [List.getElem?_cons_succ] at hr
      obtain ⟨tys, h1, h2⟩ := ri_clL_s l ts hs e.2 ci r hr
      exact ⟨tys, by rw [List.getElem?_cons_succ]; exact h1, h2⟩
  | _ :: _, [], _, e, _, _, _ => by simp [ri_clL] at e
  | _ :: _, _ :: _, [], e, _, _, _ => by simp [ri_clL] at e
theorem ri_clOK_s {hs : List (List (Nat × Nat))} (e : ri_clL T0 (ri_cls G) (ri_fts G) hs = true) : ri_clOK (T0.flatten.filter ri_warm) G := fun ci C T N hr => ri_clL_s _ _ _ e ci (C, T, N) hr
/-- a method's own words, its decoded code -/
def ri_moB (T0 : List (List Jvm.Cond)) (M : ri_Mt) (h : List (Nat × Nat)) : Bool := decide (ri_own M = (ri_nm M).cls) && (ri_hsW T0 [ri_hw M, .initialized (ri_nm M).cls] h && (goodWord (ri_hw M) && (Bundle.fit (ri_nm M).cls && Nat.ble (ri_mx M) 11)))
def ri_moL (T0 : List (List Jvm.Cond)) : List ri_Mt → List (List (Nat × Nat)) → Bool
  | [], _ => true
  | M :: l, h :: hs => ri_moB T0 M h && ri_moL T0 l hs
  | _, _ => false
def ri_mo (T0 : List (List Jvm.Cond)) (M : ri_Mt) : Prop := (ri_own M = (ri_nm M).cls ∧ ri_hw M ∈ T0.flatten.filter ri_warm ∧ goodWord (ri_hw M) = true ∧ Jvm.Cond.initialized (ri_nm M).cls ∈ T0.flatten.filter ri_warm ∧ Bundle.fit (ri_nm M).cls = true) ∧ 19 + ri_mx M ≤ 30
theorem ri_moL_s : ∀ (l : List ri_Mt) (hs : List (List (Nat × Nat))), ri_moL T0 l hs = true → ∀ M ∈ l, ri_mo T0 M
  | [], _, _, M, hM => by cases hM
  | a :: l, h :: hs, e, M, hM => by
    simp only [ri_moL, Bool.and_eq_true] at e
    rcases List.mem_cons.mp hM with rfl | hM
    · have e1 := e.1
      simp only [ri_moB, Bool.and_eq_true, decide_eq_true_iff] at e1
      obtain ⟨a1, a2, a3, a4, a5⟩ := e1
      have a6 := ri_hsW_s _ _ a2
      have a7 := Nat.le_of_ble_eq_true a5
      exact ⟨⟨a1, a6 _ List.mem_cons_self, a3, a6 _ (List.mem_cons_of_mem _ List.mem_cons_self), a4⟩, by omega⟩
    · exact ri_moL_s l hs e.2 M hM
  | _ :: _, [], e, _, _ => by simp [ri_moL] at e
def ri_deB (M : ri_Mt) : Bool := (List.range (ri_co M).length).all (fun pc => match (ri_co M)[pc]? with
  | some (some (i, len)) => decide (decode (ri_by M) pc = .ok (i, len))
  | _ => true)
theorem ri_deB_s {M : ri_Mt} (e : ri_deB M = true) : ∀ pc i len, (ri_co M)[pc]? = some (some (i, len)) → decode (ri_by M) pc = .ok (i, len) := by
  intro pc i len h
  have h1 := (List.all_eq_true.mp e) pc (List.mem_range.mpr (List.getElem?_eq_some_iff.mp h).1)
  rw [h] at h1
  exact decide_eq_true_iff.mp h1
end RIQ2
end
section
/-! where the words of the program stand, and the checks of its links (printed by wip/gen/tb3.py) -/
def g_TT : List (List Jvm.Cond) := [tables_1_1, tables_1_2, tables_1_3, tables_1_4, tables_1_5, tables_1_6, tables_1_7, tables_1_8, tables_1_9, k2_sels lw_privs]
abbrev g_ALL : List Jvm.Cond := g_TT.flatten.filter ri_warm
def g_h_0 : List (List (Nat × Nat)) := [[(0, 36), (0, 29), (0, 30)], [(0, 143)], [(0, 37), (0, 92), (0, 4)], [(0, 144)], [(0, 39), (0, 40), (0, 3)], [(0, 41), (0, 42)], [(0, 146)], [(0, 148)], [(0, 93), (0, 94)], [(0, 149)], [(0, 151)], [(0, 155)], [(0, 159)], [(0, 162)], [(0, 165)], [(0, 166)], [(0, 168)], [(0, 170)], [(1, 63), (1, 64), (1, 65)], [(0, 106)], [(2, 30), (2, 31), (2, 32)], [(2, 34), (2, 35), (2, 36)], [(2, 38), (2, 40), (2, 39), (0, 14)], [(1, 209), (1, 210), (1, 211)], [(0, 103)], [(0, 46)], [(0, 99)], [(0, 118)], [(2, 81), (2, 82), (2, 83)], [(2, 161), (1, 214), (1, 215)], [(1, 225), (1, 226), (1, 227)], [(2, 230), (1, 222), (1, 223)], [(2, 131), (2, 132), (2, 133)], [(2, 135), (2, 136), (2, 137)], [(2, 162), (2, 163), (2, 164)], [(2, 166), (2, 167), (2, 168)], [(2, 170), (2, 155), (0, 15), (2, 156)], [(2, 225), (2, 226), (2, 227)], [(2, 229), (1, 218), (1, 219)], [(2, 231), (2, 147), (2, 148)], [(4, 193), (4, 194), (4, 195)], [(0, 111)], [(3, 75), (3, 76), (3, 77)], [(3, 14), (2, 140), (2, 141)], [(3, 79), (3, 80), (3, 81)], [(3, 84), (3, 85), (3, 86)], [(3, 83), (3, 52)], [(3, 88), (3, 89), (3, 90)], [(3, 92), (2, 144)], [(1, 237), (1, 238), (1, 239)], [(2, 1), (2, 2), (2, 3)], [(2, 98), (2, 99), (2, 100)], [(3, 15), (2, 11), (2, 12)], [(3, 16), (3, 17), (3, 18)], [(0, 55)], [(3, 20), (3, 21), (3, 22)], [(0, 52)], [(0, 70)], [(0, 64)], [(3, 24), (3, 25), (3, 26)], [(2, 94), (2, 95), (2, 96)], [(2, 110), (2, 111), (2, 112)], [(3, 10), (3, 11), (3, 12)], [(0, 114)], [(0, 122)], [(0, 125)], [(1, 233), (1, 234), (1, 235)], [(3, 71), (3, 72), (3, 73)], [(5, 15), (5, 16)], [(0, 49)], [(0, 58)], [(0, 61)], [(0, 67)], [(3, 101), (3, 102), (3, 103)], [(3, 105), (3, 56), (3, 57)], [(3, 106), (3, 43), (3, 44)], [(3, 107), (3, 34), (3, 35)], [(3, 108), (3, 109), (3, 110)], [(3, 112), (3, 47), (3, 48)], [(3, 113), (3, 114), (3, 115)], [(3, 67), (3, 68), (3, 69)], [(3, 93), (3, 94), (3, 95)], [(3, 97), (3, 98), (3, 99)], [(5, 115), (2, 184), (0, 15), (2, 185)], [(5, 116), (2, 207)], [(0, 37), (0, 38)]]
def g_h_1 : List (List (Nat × Nat)) := [[(0, 224), (0, 29), (0, 30)], [(0, 225)], [(0, 226)], [(0, 227)], [(0, 158)], [(0, 229)], [(0, 152)], [(2, 126), (1, 214), (1, 215)], [(2, 127), (2, 128), (2, 129)], [(2, 157), (2, 158), (2, 159)], [(2, 171), (2, 173), (9, 12)], [(2, 202), (2, 203), (2, 204)], [(4, 97), (2, 210)], [(2, 179), (2, 180), (2, 181)], [(2, 206), (2, 207)], [(2, 198), (2, 199), (2, 200)], [(2, 183), (2, 184), (0, 15), (2, 185)], [(5, 209), (2, 144)], [(4, 114), (4, 116), (9, 17)], [(4, 118), (4, 94), (4, 95)]]
def g_h_2 : List (List (Nat × Nat)) := [[(0, 204), (0, 29), (0, 30)], [(0, 205), (0, 32), (0, 2)], [(0, 208)], [(0, 207), (0, 34)], [(0, 209)], [(3, 0), (2, 27), (2, 28)], [(0, 210)], [(3, 1), (2, 155), (0, 15), (2, 156)], [(0, 205), (0, 206)]]
def g_h_3 : List (List (Nat × Nat)) := [[(0, 44), (0, 29), (0, 30)], [(0, 45)], [(0, 63)], [(0, 48)], [(0, 51)], [(0, 54)], [(0, 57)], [(0, 60)], [(0, 66)], [(0, 69)], [(2, 106), (2, 107), (2, 108)], [(3, 37), (3, 38), (3, 39)], [(3, 50), (3, 34), (3, 35)], [(3, 51), (3, 52)], [(3, 54), (3, 25), (3, 26)], [(3, 46), (3, 47), (3, 48)], [(2, 102), (2, 103), (2, 104)], [(2, 139), (2, 140), (2, 141)], [(5, 34), (5, 19)], [(2, 154), (2, 155), (0, 15), (2, 156)], [(2, 143), (2, 144)], [(2, 150), (2, 151), (2, 152)], [(2, 146), (2, 147), (2, 148)]]
def g_h_4 : List (List (Nat × Nat)) := [[(1, 50), (0, 29), (0, 30)], [(1, 51)], [(1, 52)], [(3, 135), (3, 123), (3, 124)], [(0, 98)], [(3, 131), (3, 132), (3, 133)], [(0, 102)], [(0, 107)], [(0, 116)]]
def g_h_5 : List (List (Nat × Nat)) := [[(0, 96), (0, 29), (0, 30)], [(0, 97)], [(0, 101)], [(0, 105)], [(0, 109)], [(0, 112)], [(0, 115)], [(0, 120)], [(0, 123)]]
def g_h_6 : List (List (Nat × Nat)) := [[(1, 4), (0, 29), (0, 30)], [(1, 5)], [(1, 8)], [(1, 10)], [(1, 6)], [(1, 12)], [(1, 16)], [(1, 17)], [(1, 18)], [(1, 19)], [(1, 116), (1, 118), (9, 0)], [], [(1, 131), (1, 133), (9, 2)], [(1, 183), (1, 185), (9, 3)], [(1, 187), (1, 189), (9, 4)], [(1, 15)], [(1, 191), (1, 60), (1, 61)], [(1, 192), (1, 194), (9, 5)], [(1, 13)], [(1, 196), (1, 198), (9, 6)], [], [(1, 201), (1, 203), (9, 7)], [], [(2, 6), (2, 8), (9, 8)], [], [(2, 15), (2, 17), (9, 9)], [(2, 19), (2, 21), (9, 10)], [], [], [], [(1, 205), (1, 206), (1, 207)], [(0, 153)], [(0, 156)], [(0, 160)], [(0, 163)], [(1, 213), (1, 214), (1, 215)], [(1, 217), (1, 218), (1, 219)], [(1, 221), (1, 222), (1, 223)], [(1, 229), (1, 230), (1, 231)], [(2, 10), (2, 11), (2, 12)], [(0, 119)], [(1, 14)], [(1, 120), (1, 122), (9, 1)], [(1, 124), (1, 125)], [(1, 127), (1, 128)], [(1, 135), (1, 142), (1, 152), (1, 163), (1, 158), (1, 155), (1, 148), (1, 138), (0, 10), (0, 11), (0, 12), (1, 140), (1, 141), (1, 150), (1, 151), (1, 146), (1, 147), (1, 136), (1, 137), (1, 162), (1, 157), (1, 154), (1, 139), (1, 149), (1, 153), (1, 156), (1, 161), (8, 228), (8, 229), (1, 143), (1, 159)], [(1, 145), (1, 142), (1, 152), (1, 163), (1, 158), (1, 155), (1, 148), (1, 138), (0, 10), (0, 11), (0, 12), (1, 140), (1, 141), (1, 150), (1, 151), (1, 146), (1, 147), (1, 136), (1, 137), (1, 162), (1, 157), (1, 154), (1, 139), (1, 149), (1, 153), (1, 156), (1, 161), (8, 228), (8, 229), (1, 143), (1, 159)]]
def g_h_7 : List (List (Nat × Nat)) := [[(0, 28), (0, 29), (0, 30)], [(0, 31), (0, 32), (0, 2)], [(0, 33), (0, 34)], [(1, 67)], [(1, 68)], [(1, 69)], [(0, 199), (0, 200), (0, 5)], [(0, 201), (0, 202)], [(1, 71)], [(0, 219), (0, 220), (0, 6)], [(0, 221), (0, 222)], [(1, 72)], [(0, 239), (1, 0), (0, 7)], [(1, 1), (1, 2)], [(1, 73)], [(1, 45), (1, 46), (0, 8)], [(1, 47), (1, 48)], [(1, 74)], [(1, 59), (1, 60), (1, 61)], [(1, 96), (1, 97), (1, 98)], [(1, 100), (1, 101), (1, 102)], [(1, 7)], [(1, 112), (1, 113), (1, 114)], [(2, 26), (2, 27), (2, 28)], [(2, 41), (2, 42), (2, 43)], [(1, 70)], [(2, 45), (2, 46), (2, 47)], [(2, 49), (1, 206), (1, 207)], [(1, 9)], [(1, 11)], [(0, 150)], [(0, 154)], [(0, 157)], [(0, 161)], [(0, 164)], [(2, 118), (2, 120), (9, 11)], [(2, 190), (2, 191), (2, 192)], [(0, 228)], [(0, 167)], [(0, 169)], [(0, 171)], [(0, 211)], [(3, 164), (0, 19)], [], [(0, 16), (3, 186), (3, 195), (3, 200), (3, 203), (3, 205), (3, 187), (3, 188), (0, 29), (0, 30), (3, 189), (3, 194), (3, 201), (3, 221), (3, 176), (3, 222), (3, 178), (3, 223), (3, 180), (3, 190), (3, 192), (3, 182), (3, 217), (3, 218), (3, 220), (3, 182), (3, 208), (3, 209), (3, 210), (3, 211), (3, 168), (3, 211), (3, 212), (3, 213), (3, 214), (3, 170), (3, 214), (3, 215), (3, 216), (3, 217), (3, 172), (3, 207), (3, 165), (3, 166), (3, 173), (3, 174), (3, 175), (3, 177), (3, 179), (3, 181), (3, 185), (3, 184), (3, 183)], [(4, 0), (4, 2), (9, 14)], [(0, 104)], [(0, 108)], [(0, 110)], [(0, 113)], [(0, 117)], [(0, 121)], [(0, 124)], [(4, 29), (4, 31), (9, 15)], [(4, 49), (2, 111), (2, 112)], [(4, 57), (3, 11), (3, 12)], [(4, 33), (0, 21)], [], [(0, 16), (3, 186), (3, 195), (3, 200), (3, 203), (3, 205), (3, 187), (3, 188), (0, 29), (0, 30), (3, 189), (3, 194), (3, 201), (3, 221), (3, 176), (3, 222), (3, 178), (3, 223), (3, 180), (3, 190), (3, 192), (3, 182), (3, 217), (3, 218), (3, 220), (3, 182), (4, 44), (4, 45), (4, 46), (3, 211), (3, 168), (3, 211), (3, 212), (3, 213), (3, 214), (3, 170), (3, 214), (3, 215), (3, 216), (3, 217), (3, 172), (4, 43), (4, 34), (4, 35), (4, 36), (3, 198), (4, 37), (4, 38), (4, 39), (4, 40), (3, 185), (3, 184), (4, 41)], [(4, 66), (2, 95), (2, 96)], [(2, 90), (2, 91), (2, 92)], [], [(3, 121), (2, 167), (2, 168)], [(0, 100)], [(2, 63), (1, 222), (1, 223)], [(2, 68), (1, 214), (1, 215)], [(2, 69), (2, 70), (2, 71)], [(0, 145)], [(2, 77), (2, 78), (2, 79)], [], [(2, 89), (1, 210), (1, 211)], [(5, 143), (5, 144), (5, 145)], [], [(4, 90), (2, 203), (2, 204)], [(4, 91), (2, 180), (2, 181)], [(4, 92), (2, 199), (2, 200)], [(4, 93), (4, 94), (4, 95)], [(2, 175), (2, 176), (2, 177)], [(4, 105), (4, 107), (9, 16)], [(4, 110), (4, 111), (4, 112)], [(2, 194), (2, 195), (2, 196)], [(5, 205), (5, 206), (5, 207)], [(2, 221), (2, 222), (2, 223)], [(4, 127), (4, 129), (9, 18)], [], [(4, 134), (4, 136), (9, 19)], [(2, 236), (2, 237), (2, 238)], [(4, 154), (1, 230), (1, 231)], [(4, 138), (0, 22)], [], [(0, 16), (3, 186), (3, 195), (3, 200), (3, 203), (3, 205), (3, 187), (3, 188), (0, 29), (0, 30), (3, 189), (3, 194), (3, 201), (3, 221), (3, 176), (3, 222), (3, 178), (3, 223), (3, 180), (3, 190), (3, 192), (3, 182), (3, 217), (3, 218), (3, 220), (3, 182), (4, 149), (4, 150), (4, 151), (3, 211), (3, 168), (3, 211), (3, 212), (3, 213), (3, 214), (3, 170), (3, 214), (3, 215), (3, 216), (3, 217), (3, 172), (4, 148), (4, 139), (4, 140), (4, 141), (3, 197), (4, 142), (4, 143), (4, 144), (4, 145), (3, 185), (3, 184), (4, 146)], [(4, 170), (4, 172), (9, 20)], [(4, 189), (4, 190), (4, 191)], [(4, 204), (4, 206), (9, 21)], [(4, 209), (4, 210), (4, 211)], [(2, 209), (2, 210)], [], [(4, 227), (4, 194), (4, 195)], [], [], [(5, 154), (1, 218), (1, 219)], [], [(5, 163), (2, 132), (2, 133)], [], [], [(3, 6), (3, 7), (3, 8)], [(5, 3), (3, 72), (3, 73)], [(5, 11), (5, 12), (5, 13)], [(5, 86), (3, 68), (3, 69)], [(5, 187), (5, 188), (5, 189)], [], [(5, 29), (3, 94), (3, 95)], [(0, 147)], [(5, 30), (5, 31), (5, 32)], [], [(5, 43), (5, 45), (9, 22)], [(5, 48), (3, 98), (3, 99)], [(5, 56), (5, 57), (5, 58)], [(0, 71)], [], [(5, 68), (5, 69), (5, 70)], [(3, 32), (2, 140), (2, 141)], [(0, 47)], [(0, 53)], [(0, 56)], [(0, 65)], [(0, 59)], [(0, 62)], [(0, 68)], [], [(5, 132), (5, 133), (5, 134)], [(3, 33), (3, 34), (3, 35)], [(0, 50)], [(5, 217), (3, 47), (3, 48)], [(5, 218), (2, 107), (2, 108)], [(3, 41), (3, 25), (3, 26)], [(3, 42), (3, 43), (3, 44)], [(3, 55), (3, 56), (3, 57)], [(5, 94), (5, 96), (9, 23)], [(3, 63), (3, 64), (3, 65)], [(5, 107), (5, 108), (5, 109)], [(5, 111), (5, 112), (5, 113)], [(3, 122), (3, 123), (3, 124)], [(3, 126), (2, 82), (2, 83)], [(3, 127), (3, 128), (3, 129)], [(1, 53)], [(3, 140), (3, 141), (3, 142)], [(3, 148), (3, 149), (3, 150)], [], [(2, 122), (2, 123), (2, 124)], [(4, 4), (2, 11), (2, 12)], [(4, 5), (0, 20)], [], [(0, 16), (3, 186), (3, 195), (3, 200), (3, 203), (3, 205), (3, 187), (3, 188), (0, 29), (0, 30), (3, 189), (3, 194), (3, 201), (3, 221), (3, 176), (3, 222), (3, 178), (3, 223), (3, 180), (3, 190), (3, 192), (3, 182), (3, 217), (3, 218), (3, 220), (3, 182), (4, 16), (4, 17), (4, 18), (3, 211), (3, 168), (3, 211), (3, 212), (3, 213), (3, 214), (3, 170), (3, 214), (3, 215), (3, 216), (3, 217), (3, 172), (4, 15), (4, 6), (4, 7), (4, 8), (3, 199), (4, 9), (4, 10), (4, 11), (4, 12), (3, 185), (3, 184), (4, 13)], [], [], [], [], [], [], [], [(2, 212), (2, 184), (0, 15), (2, 185)], [(5, 18), (5, 19)], [(0, 31), (0, 206)]]
def g_h_8 : List (List (Nat × Nat)) := [[(5, 232), (0, 29), (0, 30)], [(5, 237)], [(5, 238)], [(5, 239)], [(6, 0)], [(6, 1)], [(6, 5)], [(6, 6)], [(6, 8)], [(6, 11)], [(6, 19)], [(6, 20)], [(6, 21)], [(5, 233), (5, 235), (9, 24)], [(6, 4)], [(6, 2)], [(6, 95), (6, 96)], [(7, 17)], [(6, 88), (6, 89)], [(6, 166), (6, 168), (9, 40)], [(7, 38), (7, 40), (9, 60)], [(6, 185), (6, 187), (9, 44)], [(6, 177), (6, 179), (9, 42)], [(6, 181), (6, 183), (9, 43)], [(6, 170), (6, 171)], [(6, 239), (2, 155), (0, 15), (2, 156)], [(6, 231), (6, 233), (9, 52)], [(6, 235), (6, 237), (9, 53)], [(6, 158), (6, 160), (9, 38)], [(6, 162), (6, 164), (9, 39)], [(6, 227), (6, 229), (9, 51)], [(6, 7)], [(6, 223), (6, 225), (9, 50)], [(7, 54), (7, 55)], [(7, 106), (7, 108), (9, 70)], [(7, 110), (2, 184), (0, 15), (2, 185)], [(6, 219), (6, 221), (9, 49)], [(7, 102), (7, 104), (9, 69)], [(8, 30), (8, 31)], [(8, 33), (8, 35), (9, 84)], [(8, 45), (8, 46)], [(7, 46), (7, 48), (9, 62)], [(7, 50), (7, 52), (9, 63)], [(7, 57), (7, 59), (9, 64)], [(7, 61), (7, 63), (9, 65)], [(8, 60), (8, 62), (9, 88)], [(8, 81), (8, 83), (9, 92)], [(8, 77), (8, 79), (9, 91)], [(8, 89), (8, 91), (9, 94)], [(8, 93), (8, 95), (9, 95)], [(8, 85), (8, 87), (9, 93)], [(8, 73), (8, 75), (9, 90)], [(7, 42), (7, 44), (9, 61)], [(8, 26), (8, 28), (9, 83)], [(6, 9)], [(6, 80), (6, 82), (9, 25)], [(6, 14)], [(6, 102), (6, 104), (9, 27)], [(6, 15)], [(6, 16)], [(6, 17)], [(6, 106)], [(6, 107)], [(6, 108)], [(6, 109)], [(6, 12)], [(6, 13)], [(6, 119), (6, 121), (9, 30)], [(6, 123), (1, 142), (1, 152), (1, 163), (1, 158), (1, 155), (1, 148), (1, 138), (0, 10), (0, 11), (0, 12), (1, 140), (1, 141), (1, 150), (1, 151), (1, 146), (1, 147), (1, 136), (1, 137), (1, 162), (1, 157), (1, 154), (1, 139), (1, 149), (1, 153), (1, 156), (1, 161), (8, 228), (8, 229), (1, 143), (1, 159)], [(6, 124), (1, 142), (1, 152), (1, 163), (1, 158), (1, 155), (1, 148), (1, 138), (0, 10), (0, 11), (0, 12), (1, 140), (1, 141), (1, 150), (1, 151), (1, 146), (1, 147), (1, 136), (1, 137), (1, 162), (1, 157), (1, 154), (1, 139), (1, 149), (1, 153), (1, 156), (1, 161), (8, 228), (8, 229), (1, 143), (1, 159)], [(6, 125), (6, 127), (9, 31)], [(6, 133), (6, 135), (9, 33)], [(6, 98), (6, 100), (9, 26)], [(6, 18)], [(6, 129), (6, 131), (9, 32)], [(6, 173), (6, 175), (9, 41)], [], [(6, 115), (6, 117), (9, 29)], [(6, 146), (6, 148), (9, 36)], [], [], [], [], [(6, 154), (6, 156), (9, 37)], [], [(6, 190), (6, 192), (9, 45)], [], [(6, 137), (6, 139), (9, 34)], [(6, 141), (6, 143), (9, 35)], [(6, 110), (6, 112), (9, 28)], [(6, 10)], [(6, 3)], [(6, 194), (6, 196), (9, 46)], [(6, 210)], [(6, 211), (6, 213), (9, 47)], [(6, 215), (6, 217), (9, 48)], [(7, 0), (7, 2), (9, 54)], [(7, 13), (7, 15), (9, 56)], [(7, 8)], [(7, 9), (7, 11), (9, 55)], [(7, 22), (7, 24), (9, 57)], [(7, 34), (7, 36), (9, 59)], [(7, 30), (7, 32), (9, 58)], [(7, 73), (7, 75), (9, 66)], [(7, 89), (7, 91), (9, 68)], [(7, 85), (7, 87), (9, 67)], [(7, 101)], [(7, 115), (7, 117), (9, 71)], [(7, 127)], [(7, 128), (7, 130), (9, 72)], [(7, 136), (7, 138), (9, 73)], [(7, 156), (7, 158), (9, 74)], [(7, 168), (7, 170), (9, 76)], [(7, 164), (7, 166), (9, 75)], [(7, 176)], [(7, 181), (7, 182)], [(7, 184), (7, 186), (9, 77)], [(7, 208), (7, 210), (9, 79)], [(7, 204), (7, 206), (9, 78)], [(7, 216), (7, 218), (9, 80)], [(8, 4), (8, 6), (9, 82)], [(8, 0), (8, 2), (9, 81)], [(8, 20)], [(8, 21)], [(8, 41), (8, 43), (9, 85)], [(8, 52), (8, 54), (9, 86)], [(8, 56), (8, 58), (9, 87)], [(8, 68)], [(8, 69), (8, 71), (9, 89)], [(8, 109)], [(8, 130), (8, 132), (9, 96)], [(8, 138), (8, 140), (9, 97)], [(8, 146), (8, 148), (9, 98)], [(8, 154), (8, 156), (9, 99)], [(8, 158), (8, 160), (9, 100)], [(8, 166)], [(8, 167), (8, 169), (9, 101)], [(8, 171), (8, 173), (9, 102)], [(6, 22)], [(8, 183), (8, 185), (9, 103)], [(8, 187), (8, 189), (9, 104)], [(8, 191), (8, 193), (9, 105)]]
def g_h_9 : List (List (Nat × Nat)) := [[(3, 160), (3, 161), (3, 162)], [(0, 23), (0, 24), (0, 1)], [(3, 159), (0, 19)], [(3, 236), (3, 237), (3, 238)], [(3, 235), (0, 20)], [(4, 25), (4, 26), (4, 27)], [(4, 24), (0, 21)], [(4, 53), (4, 54), (4, 55)], [(4, 61), (4, 62), (4, 63)], [(4, 70), (4, 71), (4, 72)], [(4, 77), (4, 78), (4, 79)], [(4, 85), (4, 86), (4, 87)], [(4, 101), (4, 102), (4, 103)], [(4, 123), (4, 124), (4, 125)], [(4, 122), (0, 22)], [(4, 158), (4, 159), (4, 160)], [(4, 166), (4, 167), (4, 168)], [(4, 178), (4, 179), (4, 180)], [(4, 185), (4, 186), (4, 187)], [(4, 200), (4, 201), (4, 202)], [(4, 216), (4, 217), (4, 218)], [(4, 223), (4, 224), (4, 225)], [(4, 231), (4, 232), (4, 233)], [(4, 239), (5, 0), (5, 1)], [(5, 7), (5, 8), (5, 9)], [(5, 24), (5, 25), (5, 26)], [(5, 38), (5, 39), (5, 40)], [(5, 52), (5, 53), (5, 54)], [(5, 63), (5, 64), (5, 65)], [(5, 75), (5, 76), (5, 77)], [(5, 82), (5, 83), (5, 84)], [(5, 90), (5, 91), (5, 92)], [(5, 102), (5, 103), (5, 104)], [(5, 120), (5, 121), (5, 122)], [(5, 127), (5, 128), (5, 129)], [(5, 139), (5, 140), (5, 141)], [(5, 150), (5, 151), (5, 152)], [(5, 159), (5, 160), (5, 161)], [(5, 169), (5, 170), (5, 171)], [(5, 176), (5, 177), (5, 178)], [(5, 183), (5, 184), (5, 185)], [(5, 194), (5, 195), (5, 196)], [(5, 201), (5, 202), (5, 203)], [(5, 213), (5, 214), (5, 215)], [(5, 222), (5, 223), (5, 224)], [(0, 25), (0, 26)], [(5, 227), (5, 228), (0, 9)], [(5, 229), (5, 230)], [(1, 92), (1, 93), (1, 94)], [(6, 76), (6, 77), (6, 78)], [(1, 104), (1, 105), (1, 106)], [(6, 84), (6, 85), (6, 86)], [(1, 108), (1, 109), (1, 110)], [(6, 91), (6, 92), (6, 93)], [(2, 51), (2, 52), (2, 53)], [(6, 198), (6, 199), (6, 200)], [(2, 55), (2, 56), (2, 57)], [(6, 202), (6, 203), (6, 204)], [(3, 156), (3, 157)], [(6, 206), (6, 207), (6, 208)], [(3, 232), (3, 233)], [(7, 4), (7, 5), (7, 6)], [(4, 21), (4, 22)], [(7, 18), (7, 19), (7, 20)], [(4, 50), (4, 51)], [(7, 26), (7, 27), (7, 28)], [(4, 58), (4, 59)], [(7, 65), (7, 66), (7, 67)], [(4, 67), (4, 68)], [(7, 69), (7, 70), (7, 71)], [(4, 74), (4, 75)], [(7, 81), (7, 82), (7, 83)], [(4, 82), (4, 83)], [(7, 97), (7, 98), (7, 99)], [(2, 114), (2, 115), (2, 116)], [(7, 111), (7, 112), (7, 113)], [(4, 98), (4, 99)], [(7, 123), (7, 124), (7, 125)], [(2, 217), (2, 218), (2, 219)], [(7, 132), (7, 133), (7, 134)], [(2, 59), (2, 60), (2, 61)], [(7, 140), (7, 141), (7, 142)], [(4, 119), (4, 120)], [(7, 177), (7, 178), (7, 179)], [(4, 155), (4, 156)], [(7, 188), (7, 189), (7, 190)], [(4, 163), (4, 164)], [(7, 192), (7, 193), (7, 194)], [(4, 175), (4, 176)], [(7, 196), (7, 197), (7, 198)], [(4, 182), (4, 183)], [(7, 200), (7, 201), (7, 202)], [(4, 197), (4, 198)], [(7, 212), (7, 213), (7, 214)], [(4, 213), (4, 214)], [(7, 224), (7, 225), (7, 226)], [(4, 220), (4, 221)], [(7, 228), (7, 229), (7, 230)], [(4, 228), (4, 229)], [(8, 16), (8, 17), (8, 18)], [(4, 236), (4, 237)], [(8, 22), (8, 23), (8, 24)], [(5, 4), (5, 5)], [(8, 37), (8, 38), (8, 39)], [(5, 21), (5, 22)], [(8, 48), (8, 49), (8, 50)], [(5, 35), (5, 36)], [(8, 64), (8, 65), (8, 66)], [(5, 49), (5, 50)], [(8, 97), (8, 98), (8, 99)], [(5, 60), (5, 61)], [(8, 101), (8, 102), (8, 103)], [(5, 72), (5, 73)], [(8, 105), (8, 106), (8, 107)], [(5, 79), (5, 80)], [(8, 126), (8, 127), (8, 128)], [(5, 87), (5, 88)], [(8, 142), (8, 143), (8, 144)], [(3, 59), (3, 60), (3, 61)], [(8, 150), (8, 151), (8, 152)], [(5, 99), (5, 100)], [(8, 162), (8, 163), (8, 164)], [(2, 186), (2, 187), (2, 188)], [(7, 144), (7, 145), (7, 146)], [(2, 213), (2, 214), (2, 215)], [(7, 148), (7, 149), (7, 150)], [(2, 64), (2, 65), (2, 66)], [(7, 152), (7, 153), (7, 154)], [(2, 73), (2, 74), (2, 75)], [(7, 160), (7, 161), (7, 162)], [(5, 117), (5, 118)], [(7, 172), (7, 173), (7, 174)], [(5, 124), (5, 125)], [(8, 110), (8, 111), (8, 112)], [(5, 136), (5, 137)], [(8, 122), (8, 123), (8, 124)], [(5, 147), (5, 148)], [(7, 232), (7, 233), (7, 234)], [(5, 156), (5, 157)], [(7, 236), (7, 237), (7, 238)], [(2, 232), (2, 233), (2, 234)], [(8, 8), (8, 9), (8, 10)], [(3, 2), (3, 3), (3, 4)], [(8, 12), (8, 13), (8, 14)], [(5, 166), (5, 167)], [(7, 220), (7, 221), (7, 222)], [(5, 173), (5, 174)], [(8, 175), (8, 176), (8, 177)], [(5, 180), (5, 181)], [(8, 134), (8, 135), (8, 136)], [(5, 191), (5, 192)], [(7, 93), (7, 94), (7, 95)], [(5, 198), (5, 199)], [(7, 119), (7, 120), (7, 121)], [(2, 85), (2, 86), (2, 87)], [(7, 77), (7, 78), (7, 79)], [(5, 210), (5, 211)], [(8, 114), (8, 115), (8, 116)], [(3, 28), (3, 29), (3, 30)], [(8, 118), (8, 119), (8, 120)], [(3, 117), (3, 118), (3, 119)], [(8, 179), (8, 180), (8, 181)], [(3, 136), (3, 137), (3, 138)], [(8, 195), (8, 196), (8, 197)], [(3, 144), (3, 145), (3, 146)], [(8, 199), (8, 200), (8, 201)], [(3, 152), (3, 153), (3, 154)], [(8, 203), (8, 204), (8, 205)], [(5, 219), (5, 220)], [(8, 207), (8, 208), (8, 209)]]
theorem tb_l0 : ri_hsL g_TT g_STR g_G RX0 g_cp_0 g_h_0 = true := by decide +kernel
theorem tb_l1 : ri_hsL g_TT g_STR g_G RX1 g_cp_1 g_h_1 = true := by decide +kernel
theorem tb_l2 : ri_hsL g_TT g_STR g_G RX2 g_cp_2 g_h_2 = true := by decide +kernel
theorem tb_l3 : ri_hsL g_TT g_STR g_G RX3 g_cp_3 g_h_3 = true := by decide +kernel
theorem tb_l4 : ri_hsL g_TT g_STR g_G RX4 g_cp_4 g_h_4 = true := by decide +kernel
theorem tb_l5 : ri_hsL g_TT g_STR g_G RX5 g_cp_5 g_h_5 = true := by decide +kernel
theorem tb_l6 : ri_hsL g_TT g_STR g_G RX6 g_cp_6 g_h_6 = true := by decide +kernel
theorem tb_l7 : ri_hsL g_TT g_STR g_G RX7 g_cp_7 g_h_7 = true := by decide +kernel
theorem tb_l8 : ri_hsL g_TT g_STR g_G RX8 g_cp_8 g_h_8 = true := by decide +kernel
theorem tb_l9 : ri_hsL g_TT g_STR g_G RL g_cp_9 g_h_9 = true := by decide +kernel
end
section
/-! kinds of objects, methods: checked (printed by wip/gen/tb3.py) -/
def g_hm_0 : List (List (Nat × Nat)) := [[(0, 35), (0, 2)], [(1, 62), (0, 2)], [(2, 29), (0, 2)], [(2, 13), (0, 2)], [(1, 208), (0, 2)], [(2, 72), (0, 2)], [(2, 169), (0, 2)], [(2, 84), (0, 2)], [(2, 80), (0, 2)], [(1, 216), (0, 2)], [(2, 228), (0, 2)], [(1, 220), (0, 2)], [(1, 224), (0, 2)], [(3, 78), (0, 2)], [(2, 130), (0, 2)], [(2, 160), (0, 2)], [(2, 224), (0, 2)], [(4, 192), (0, 2)], [(4, 196), (0, 2)], [(3, 74), (0, 2)], [(3, 82), (0, 2)], [(3, 87), (0, 2)], [(3, 91), (0, 2)], [(2, 113), (0, 2)], [(2, 4), (0, 2)], [(1, 236), (0, 2)], [(2, 97), (0, 2)], [(3, 13), (0, 2)], [(3, 19), (0, 2)], [(3, 23), (0, 2)], [(2, 93), (0, 2)], [(5, 146), (0, 2)], [(3, 9), (0, 2)], [(1, 232), (0, 2)], [(4, 212), (0, 2)], [(5, 14), (0, 2)], [(3, 96), (0, 2)], [(3, 100), (0, 2)], [(3, 104), (0, 2)], [(5, 59), (0, 2)]]
def g_hm_1 : List (List (Nat × Nat)) := [[(3, 111), (0, 2)], [(3, 116), (0, 2)], [(5, 71), (0, 2)], [(3, 70), (0, 2)], [(5, 190), (0, 2)], [(3, 66), (0, 2)], [(5, 114), (0, 2)], [(0, 223), (0, 6)], [(2, 125), (0, 6)], [(2, 174), (0, 6)], [(2, 205), (0, 6)], [(2, 182), (0, 6)], [(4, 96), (0, 6)], [(2, 201), (0, 6)], [(2, 193), (0, 6)], [(2, 197), (0, 6)], [(2, 178), (0, 6)], [(5, 110), (0, 6)], [(5, 208), (0, 6)], [(4, 113), (0, 6)], [(4, 117), (0, 6)], [(0, 203), (0, 5)], [(2, 239), (0, 5)], [(3, 151), (0, 5)], [(2, 44), (0, 5)], [(0, 43), (0, 3)], [(2, 33), (0, 3)], [(2, 142), (0, 3)], [(1, 66), (0, 3)], [(3, 40), (0, 3)], [(2, 105), (0, 3)], [(2, 109), (0, 3)], [(3, 27), (0, 3)], [(3, 36), (0, 3)], [(3, 49), (0, 3)], [(3, 58), (0, 3)], [(3, 45), (0, 3)], [(2, 101), (0, 3)], [(5, 135), (0, 3)], [(5, 33), (0, 3)]]
def g_hm_2 : List (List (Nat × Nat)) := [[(2, 153), (0, 3)], [(2, 149), (0, 3)], [(2, 138), (0, 3)], [(2, 165), (0, 3)], [(1, 49), (0, 8)], [(2, 48), (0, 8)], [(3, 125), (0, 8)], [(3, 134), (0, 8)], [(3, 130), (0, 8)], [(3, 143), (0, 8)], [(0, 95), (0, 4)], [(2, 37), (0, 4)], [(1, 212), (0, 4)], [(2, 134), (0, 4)], [(2, 0), (0, 4)], [(1, 228), (0, 4)], [(1, 3), (0, 7)], [(1, 99), (0, 7)], [(1, 103), (0, 7)], [(1, 115), (0, 7)], [(1, 199), (0, 7)], [(2, 22), (0, 7)], [(2, 18), (0, 7)], [(1, 204), (0, 7)], [(2, 9), (0, 7)], [(1, 195), (0, 7)], [(1, 190), (0, 7)], [(1, 186), (0, 7)], [(1, 123), (0, 7)], [(1, 126), (0, 7)], [(1, 129), (0, 7)], [(1, 119), (0, 7)], [(1, 134), (0, 7)], [(0, 27), (0, 1)], [(1, 95), (0, 1)], [(1, 107), (0, 1)], [(1, 111), (0, 1)], [(2, 54), (0, 1)], [(2, 58), (0, 1)], [(3, 163), (0, 1)]]
def g_hm_3 : List (List (Nat × Nat)) := [[(3, 239), (0, 1)], [(4, 28), (0, 1)], [(4, 56), (0, 1)], [(4, 64), (0, 1)], [(4, 73), (0, 1)], [(4, 80), (0, 1)], [(5, 197), (0, 1)], [(2, 62), (0, 1)], [(2, 67), (0, 1)], [(2, 76), (0, 1)], [(5, 123), (0, 1)], [(5, 142), (0, 1)], [(2, 88), (0, 1)], [(4, 88), (0, 1)], [(2, 117), (0, 1)], [(4, 104), (0, 1)], [(2, 189), (0, 1)], [(2, 216), (0, 1)], [(5, 204), (0, 1)], [(2, 220), (0, 1)], [(4, 126), (0, 1)], [(4, 161), (0, 1)], [(4, 169), (0, 1)], [(4, 181), (0, 1)], [(4, 188), (0, 1)], [(4, 203), (0, 1)], [(5, 172), (0, 1)], [(4, 219), (0, 1)], [(4, 226), (0, 1)], [(4, 234), (0, 1)], [(5, 153), (0, 1)], [(5, 162), (0, 1)], [(2, 235), (0, 1)], [(3, 5), (0, 1)], [(5, 2), (0, 1)], [(5, 10), (0, 1)], [(5, 179), (0, 1)], [(5, 85), (0, 1)], [(5, 186), (0, 1)], [(5, 27), (0, 1)]]
def g_hm_4 : List (List (Nat × Nat)) := [[(5, 41), (0, 1)], [(5, 55), (0, 1)], [(5, 66), (0, 1)], [(5, 78), (0, 1)], [(5, 130), (0, 1)], [(5, 216), (0, 1)], [(3, 31), (0, 1)], [(5, 93), (0, 1)], [(3, 62), (0, 1)], [(5, 105), (0, 1)], [(3, 120), (0, 1)], [(3, 139), (0, 1)], [(3, 147), (0, 1)], [(3, 155), (0, 1)], [(5, 225), (0, 1)], [(2, 121), (0, 1)], [(4, 3), (0, 1)], [(4, 32), (0, 1)], [(4, 130), (0, 1)], [(4, 108), (0, 1)], [(4, 137), (0, 1)], [(4, 173), (0, 1)], [(4, 207), (0, 1)], [(5, 46), (0, 1)], [(5, 97), (0, 1)], [(2, 145), (0, 1)], [(2, 211), (0, 1)], [(2, 208), (0, 1)], [(3, 53), (0, 1)], [(5, 20), (0, 1)], [(5, 17), (0, 1)], [(5, 231), (0, 9)], [(6, 90), (0, 9)], [(6, 214), (0, 9)], [(6, 97), (0, 9)], [(5, 236), (0, 9)], [(7, 187), (0, 9)], [(8, 157), (0, 9)], [(8, 161), (0, 9)], [(6, 169), (0, 9)]]
def g_hm_5 : List (List (Nat × Nat)) := [[(6, 180), (0, 9)], [(7, 16), (0, 9)], [(6, 197), (0, 9)], [(6, 234), (0, 9)], [(7, 41), (0, 9)], [(7, 171), (0, 9)], [(7, 56), (0, 9)], [(6, 188), (0, 9)], [(6, 184), (0, 9)], [(6, 176), (0, 9)], [(6, 161), (0, 9)], [(6, 172), (0, 9)], [(6, 165), (0, 9)], [(6, 238), (0, 9)], [(6, 230), (0, 9)], [(7, 139), (0, 9)], [(6, 226), (0, 9)], [(6, 222), (0, 9)], [(7, 109), (0, 9)], [(7, 105), (0, 9)], [(8, 170), (0, 9)], [(7, 131), (0, 9)], [(8, 36), (0, 9)], [(8, 29), (0, 9)], [(8, 32), (0, 9)], [(8, 47), (0, 9)], [(8, 44), (0, 9)], [(7, 53), (0, 9)], [(8, 63), (0, 9)], [(7, 49), (0, 9)], [(7, 45), (0, 9)], [(7, 60), (0, 9)], [(7, 64), (0, 9)], [(8, 84), (0, 9)], [(8, 59), (0, 9)], [(8, 80), (0, 9)], [(8, 96), (0, 9)], [(8, 92), (0, 9)], [(8, 88), (0, 9)], [(8, 55), (0, 9)]]
def g_hm_6 : List (List (Nat × Nat)) := [[(8, 76), (0, 9)], [(8, 72), (0, 9)], [(7, 37), (0, 9)], [(8, 133), (0, 9)], [(8, 141), (0, 9)], [(6, 83), (0, 9)], [(6, 79), (0, 9)], [(6, 87), (0, 9)], [(6, 105), (0, 9)], [(6, 101), (0, 9)], [(6, 122), (0, 9)], [(6, 128), (0, 9)], [(6, 118), (0, 9)], [(6, 136), (0, 9)], [(6, 132), (0, 9)], [(6, 149), (0, 9)], [(6, 157), (0, 9)], [(6, 193), (0, 9)], [(6, 144), (0, 9)], [(6, 140), (0, 9)], [(6, 113), (0, 9)], [(6, 94), (0, 9)], [(6, 201), (0, 9)], [(6, 205), (0, 9)], [(6, 218), (0, 9)], [(7, 3), (0, 9)], [(6, 209), (0, 9)], [(7, 12), (0, 9)], [(7, 7), (0, 9)], [(7, 25), (0, 9)], [(7, 21), (0, 9)], [(7, 33), (0, 9)], [(7, 29), (0, 9)], [(7, 68), (0, 9)], [(7, 76), (0, 9)], [(7, 72), (0, 9)], [(7, 80), (0, 9)], [(7, 92), (0, 9)], [(7, 88), (0, 9)], [(7, 84), (0, 9)]]
def g_hm_7 : List (List (Nat × Nat)) := [[(7, 96), (0, 9)], [(7, 100), (0, 9)], [(7, 118), (0, 9)], [(7, 114), (0, 9)], [(7, 122), (0, 9)], [(7, 126), (0, 9)], [(7, 135), (0, 9)], [(7, 143), (0, 9)], [(7, 147), (0, 9)], [(7, 151), (0, 9)], [(7, 159), (0, 9)], [(7, 155), (0, 9)], [(7, 167), (0, 9)], [(7, 163), (0, 9)], [(7, 175), (0, 9)], [(7, 183), (0, 9)], [(7, 180), (0, 9)], [(7, 191), (0, 9)], [(7, 195), (0, 9)], [(7, 199), (0, 9)], [(7, 211), (0, 9)], [(7, 207), (0, 9)], [(7, 203), (0, 9)], [(7, 219), (0, 9)], [(7, 215), (0, 9)], [(7, 223), (0, 9)], [(7, 227), (0, 9)], [(7, 231), (0, 9)], [(7, 235), (0, 9)], [(8, 7), (0, 9)], [(8, 3), (0, 9)], [(7, 239), (0, 9)], [(8, 11), (0, 9)], [(8, 15), (0, 9)], [(8, 19), (0, 9)], [(8, 25), (0, 9)], [(8, 40), (0, 9)], [(8, 51), (0, 9)], [(8, 67), (0, 9)], [(8, 100), (0, 9)]]
def g_hm_8 : List (List (Nat × Nat)) := [[(8, 104), (0, 9)], [(8, 108), (0, 9)], [(8, 113), (0, 9)], [(8, 117), (0, 9)], [(8, 121), (0, 9)], [(8, 125), (0, 9)], [(8, 129), (0, 9)], [(8, 137), (0, 9)], [(8, 149), (0, 9)], [(8, 145), (0, 9)], [(8, 153), (0, 9)], [(8, 165), (0, 9)], [(8, 174), (0, 9)], [(8, 178), (0, 9)], [(8, 186), (0, 9)], [(8, 194), (0, 9)], [(8, 182), (0, 9)], [(8, 190), (0, 9)], [(8, 198), (0, 9)], [(8, 202), (0, 9)], [(8, 206), (0, 9)], [(8, 210), (0, 9)], [(3, 158), (0, 0)], [(3, 234), (0, 0)], [(4, 23), (0, 0)], [(4, 52), (0, 0)], [(4, 60), (0, 0)], [(4, 69), (0, 0)], [(4, 76), (0, 0)], [(4, 84), (0, 0)], [(4, 100), (0, 0)], [(4, 121), (0, 0)], [(4, 157), (0, 0)], [(4, 165), (0, 0)], [(4, 177), (0, 0)], [(4, 184), (0, 0)], [(4, 199), (0, 0)], [(4, 215), (0, 0)], [(4, 222), (0, 0)], [(4, 230), (0, 0)]]
def g_hm_9 : List (List (Nat × Nat)) := [[(4, 238), (0, 0)], [(5, 6), (0, 0)], [(5, 23), (0, 0)], [(5, 37), (0, 0)], [(5, 51), (0, 0)], [(5, 62), (0, 0)], [(5, 74), (0, 0)], [(5, 81), (0, 0)], [(5, 89), (0, 0)], [(5, 101), (0, 0)], [(5, 119), (0, 0)], [(5, 126), (0, 0)], [(5, 138), (0, 0)], [(5, 149), (0, 0)], [(5, 158), (0, 0)], [(5, 168), (0, 0)], [(5, 175), (0, 0)], [(5, 182), (0, 0)], [(5, 193), (0, 0)], [(5, 200), (0, 0)], [(5, 212), (0, 0)], [(5, 221), (0, 0)]]
def g_hc : List (List (Nat × Nat)) := [[(0, 172), (0, 174), (0, 176), (0, 178), (0, 180), (0, 182), (0, 184), (0, 186), (0, 188), (0, 190), (0, 192), (0, 194), (0, 196)], [(0, 230), (0, 232), (0, 234), (0, 236)], [(0, 212), (0, 214), (0, 216)], [(0, 72), (0, 74), (0, 76), (0, 78), (0, 80), (0, 82), (0, 84), (0, 86), (0, 88)], [(1, 54), (1, 56)], [(0, 126), (0, 128), (0, 130), (0, 132), (0, 134), (0, 136), (0, 138), (0, 140)], [(1, 20), (1, 22), (1, 24), (1, 26), (1, 28), (1, 30), (1, 32), (1, 34), (1, 36), (1, 38), (1, 40), (1, 42)], [(1, 75), (1, 77), (1, 79), (1, 81), (1, 83), (1, 85), (1, 87), (1, 89)], [(6, 23), (6, 25), (6, 27), (6, 29), (6, 31), (6, 33), (6, 35), (6, 37), (6, 39), (6, 41), (6, 43), (6, 45), (6, 47), (6, 49), (6, 51), (6, 53), (6, 55), (6, 57), (6, 59), (6, 61), (6, 63), (6, 65), (6, 67), (6, 69), (6, 71), (6, 73)]]
theorem tb_cl : ri_clL g_TT g_cls g_fts g_hc = true := by decide +kernel
theorem tb_m0 : ri_moL g_TT g_mts_0 g_hm_0 = true := by decide +kernel
theorem tb_m1 : ri_moL g_TT g_mts_1 g_hm_1 = true := by decide +kernel
theorem tb_m2 : ri_moL g_TT g_mts_2 g_hm_2 = true := by decide +kernel
theorem tb_m3 : ri_moL g_TT g_mts_3 g_hm_3 = true := by decide +kernel
theorem tb_m4 : ri_moL g_TT g_mts_4 g_hm_4 = true := by decide +kernel
theorem tb_m5 : ri_moL g_TT g_mts_5 g_hm_5 = true := by decide +kernel
theorem tb_m6 : ri_moL g_TT g_mts_6 g_hm_6 = true := by decide +kernel
theorem tb_m7 : ri_moL g_TT g_mts_7 g_hm_7 = true := by decide +kernel
theorem tb_m8 : ri_moL g_TT g_mts_8 g_hm_8 = true := by decide +kernel
theorem tb_m9 : ri_moL g_TT g_mts_9 g_hm_9 = true := by decide +kernel
theorem tb_ac : ∀ t : ArrayType, ri_isI (newarray.typeOf t) = true → Jvm.Cond.arrayClass (newarray.typeOf t) ∈ g_ALL := by
  intro t h
  cases t <;> first | exact ri_hs_s (T := g_TT) (h := (0, 91)) (by decide +kernel) | exact ri_hs_s (T := g_TT) (h := (8, 211)) (by decide +kernel) | cases h
theorem tb_nc : ∀ q ∈ g_nc, q.2.2 = true → Jvm.Cond.castable q.1 q.2.1 ∈ g_ALL := by
  have h : ri_hsW g_TT ((g_nc.filter (fun q => q.2.2)).map (fun q => Jvm.Cond.castable q.1 q.2.1)) [(3, 166), (4, 140), (4, 35), (4, 7)] = true := by decide +kernel
  intro q hq h1
  exact ri_hsW_s _ _ h _ (List.mem_map.mpr ⟨q, List.mem_filter.mpr ⟨hq, h1⟩, rfl⟩)
end
