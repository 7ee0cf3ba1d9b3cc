/-! the methods by their numbers; what a call of one wants of its tables -/
section CT
variable {n : Nat} {f : Nat → Int32} {M : ri_Mt} {i : Instr} {kd idx : Nat} {tx : String} {rest : List Jvm.Term}
theorem gl_0 : g_mts_0.length = 40 := rfl
theorem gl_1 : g_mts_1.length = 40 := rfl
theorem gl_2 : g_mts_2.length = 40 := rfl
theorem gl_3 : g_mts_3.length = 40 := rfl
theorem gl_4 : g_mts_4.length = 40 := rfl
theorem gl_5 : g_mts_5.length = 40 := rfl
theorem gl_6 : g_mts_6.length = 40 := rfl
theorem gl_7 : g_mts_7.length = 40 := rfl
theorem gl_8 : g_mts_8.length = 40 := rfl
theorem gl_9 : g_mts_9.length = 23 := rfl
theorem mtc_0 (j : Nat) (hj : j < 40) : g_mts[0 + j]? = g_mts_0[j]? := by
  unfold g_mts
  rw [List.getElem?_append_left (by simp only [List.length_append, gl_0, gl_1, gl_2, gl_3, gl_4, gl_5, gl_6, gl_7, gl_8, gl_9]; omega)]
  rw [List.getElem?_append_left (by simp only [List.length_append, gl_0, gl_1, gl_2, gl_3, gl_4, gl_5, gl_6, gl_7, gl_8, gl_9]; omega)]
  rw [List.getElem?_append_left (by simp only [List.length_append, gl_0, gl_1, gl_2, gl_3, gl_4, gl_5, gl_6, gl_7, gl_8, gl_9]; omega)]
  rw [List.getElem?_append_left (by simp only [List.length_append, gl_0, gl_1, gl_2, gl_3, gl_4, gl_5, gl_6, gl_7, gl_8, gl_9]; omega)]
  rw [List.getElem?_append_left (by simp only [List.length_append, gl_0, gl_1, gl_2, gl_3, gl_4, gl_5, gl_6, gl_7, gl_8, gl_9]; omega)]
  rw [List.getElem?_append_left (by simp only [List.length_append, gl_0, gl_1, gl_2, gl_3, gl_4, gl_5, gl_6, gl_7, gl_8, gl_9]; omega)]
  rw [List.getElem?_append_left (by simp only [List.length_append, gl_0, gl_1, gl_2, gl_3, gl_4, gl_5, gl_6, gl_7, gl_8, gl_9]; omega)]
  rw [List.getElem?_append_left (by simp only [List.length_append, gl_0, gl_1, gl_2, gl_3, gl_4, gl_5, gl_6, gl_7, gl_8, gl_9]; omega)]
  rw [List.getElem?_append_left (by simp only [List.length_append, gl_0, gl_1, gl_2, gl_3, gl_4, gl_5, gl_6, gl_7, gl_8, gl_9]; omega)]
  rw [Nat.zero_add]
theorem mtc_1 (j : Nat) (hj : j < 40) : g_mts[40 + j]? = g_mts_1[j]? := by
  unfold g_mts
  rw [List.getElem?_append_left (by simp only [List.length_append, gl_0, gl_1, gl_2, gl_3, gl_4, gl_5, gl_6, gl_7, gl_8, gl_9]; omega)]
  rw [List.getElem?_append_left (by simp only [List.length_append, gl_0, gl_1, gl_2, gl_3, gl_4, gl_5, gl_6, gl_7, gl_8, gl_9]; omega)]
  rw [List.getElem?_append_left (by simp only [List.length_append, gl_0, gl_1, gl_2, gl_3, gl_4, gl_5, gl_6, gl_7, gl_8, gl_9]; omega)]
  rw [List.getElem?_append_left (by simp only [List.length_append, gl_0, gl_1, gl_2, gl_3, gl_4, gl_5, gl_6, gl_7, gl_8, gl_9]; omega)]
  rw [List.getElem?_append_left (by simp only [List.length_append, gl_0, gl_1, gl_2, gl_3, gl_4, gl_5, gl_6, gl_7, gl_8, gl_9]; omega)]
  rw [List.getElem?_append_left (by simp only [List.length_append, gl_0, gl_1, gl_2, gl_3, gl_4, gl_5, gl_6, gl_7, gl_8, gl_9]; omega)]
  rw [List.getElem?_append_left (by simp only [List.length_append, gl_0, gl_1, gl_2, gl_3, gl_4, gl_5, gl_6, gl_7, gl_8, gl_9]; omega)]
  rw [List.getElem?_append_left (by simp only [List.length_append, gl_0, gl_1, gl_2, gl_3, gl_4, gl_5, gl_6, gl_7, gl_8, gl_9]; omega)]
  rw [List.getElem?_append_right (by simp only [List.length_append, gl_0, gl_1, gl_2, gl_3, gl_4, gl_5, gl_6, gl_7, gl_8, gl_9]; omega)]
  simp only [List.length_append, gl_0, gl_1, gl_2, gl_3, gl_4, gl_5, gl_6, gl_7, gl_8, gl_9]
  have e : ∀ z, z = j → g_mts_1[z]? = g_mts_1[j]? := fun z h => by rw [h]
  exact e _ (by omega)
theorem mtc_2 (j : Nat) (hj : j < 40) : g_mts[80 + j]? = g_mts_2[j]? := by
  unfold g_mts
  rw [List.getElem?_append_left (by simp only [List.length_append, gl_0, gl_1, gl_2, gl_3, gl_4, gl_5, gl_6, gl_7, gl_8, gl_9]; omega)]
  rw [List.getElem?_append_left (by simp only [List.length_append, gl_0, gl_1, gl_2, gl_3, gl_4, gl_5, gl_6, gl_7, gl_8, gl_9]; omega)]
  rw [List.getElem?_append_left (by simp only [List.length_append, gl_0, gl_1, gl_2, gl_3, gl_4, gl_5, gl_6, gl_7, gl_8, gl_9]; omega)]
  rw [List.getElem?_append_left (by simp only [List.length_append, gl_0, gl_1, gl_2, gl_3, gl_4, gl_5, gl_6, gl_7, gl_8, gl_9]; omega)]
  rw [List.getElem?_append_left (by simp only [List.length_append, gl_0, gl_1, gl_2, gl_3, gl_4, gl_5, gl_6, gl_7, gl_8, gl_9]; omega)]
  rw [List.getElem?_append_left (by simp only [List.length_append, gl_0, gl_1, gl_2, gl_3, gl_4, gl_5, gl_6, gl_7, gl_8, gl_9]; omega)]
  rw [List.getElem?_append_left (by simp only [List.length_append, gl_0, gl_1, gl_2, gl_3, gl_4, gl_5, gl_6, gl_7, gl_8, gl_9]; omega)]
  rw [List.getElem?_append_right (by simp only [List.length_append, gl_0, gl_1, gl_2, gl_3, gl_4, gl_5, gl_6, gl_7, gl_8, gl_9]; omega)]
  simp only [List.length_append, gl_0, gl_1, gl_2, gl_3, gl_4, gl_5, gl_6, gl_7, gl_8, gl_9]
  have e : ∀ z, z = j → g_mts_2[z]? = g_mts_2[j]? := fun z h => by rw [h]
  exact e _ (by omega)
theorem mtc_3 (j : Nat) (hj : j < 40) : g_mts[120 + j]? = g_mts_3[j]? := by
  unfold g_mts
  rw [List.getElem?_append_left (by simp only [List.length_append, gl_0, gl_1, gl_2, gl_3, gl_4, gl_5, gl_6, gl_7, gl_8, gl_9]; omega)]
  rw [List.getElem?_append_left (by simp only [List.length_append, gl_0, gl_1, gl_2, gl_3, gl_4, gl_5, gl_6, gl_7, gl_8, gl_9]; omega)]
  rw [List.getElem?_append_left (by simp only [List.length_append, gl_0, gl_1, gl_2, gl_3, gl_4, gl_5, gl_6, gl_7, gl_8, gl_9]; omega)]
  rw [List.getElem?_append_left (by simp only [List.length_append, gl_0, gl_1, gl_2, gl_3, gl_4, gl_5, gl_6, gl_7, gl_8, gl_9]; omega)]
  rw [List.getElem?_append_left (by simp only [List.length_append, gl_0, gl_1, gl_2, gl_3, gl_4, gl_5, gl_6, gl_7, gl_8, gl_9]; omega)]
  rw [List.getElem?_append_left (by simp only [List.length_append, gl_0, gl_1, gl_2, gl_3, gl_4, gl_5, gl_6, gl_7, gl_8, gl_9]; omega)]
  rw [List.getElem?_append_right (by simp only [List.length_append, gl_0, gl_1, gl_2, gl_3, gl_4, gl_5, gl_6, gl_7, gl_8, gl_9]; omega)]
  simp only [List.length_append, gl_0, gl_1, gl_2, gl_3, gl_4, gl_5, gl_6, gl_7, gl_8, gl_9]
  have e : ∀ z, z = j → g_mts_3[z]? = g_mts_3[j]? := fun z h => by rw [h]
  exact e _ (by omega)
theorem mtc_4 (j : Nat) (hj : j < 40) : g_mts[160 + j]? = g_mts_4[j]? := by
  unfold g_mts
  rw [List.getElem?_append_left (by simp only [List.length_append, gl_0, gl_1, gl_2, gl_3, gl_4, gl_5, gl_6, gl_7, gl_8, gl_9]; omega)]
  rw [List.getElem?_append_left (by simp only [List.length_append, gl_0, gl_1, gl_2, gl_3, gl_4, gl_5, gl_6, gl_7, gl_8, gl_9]; omega)]
  rw [List.getElem?_append_left (by simp only [List.length_append, gl_0, gl_1, gl_2, gl_3, gl_4, gl_5, gl_6, gl_7, gl_8, gl_9]; omega)]
  rw [List.getElem?_append_left (by simp only [List.length_append, gl_0, gl_1, gl_2, gl_3, gl_4, gl_5, gl_6, gl_7, gl_8, gl_9]; omega)]
  rw [List.getElem?_append_left (by simp only [List.length_append, gl_0, gl_1, gl_2, gl_3, gl_4, gl_5, gl_6, gl_7, gl_8, gl_9]; omega)]
  rw [List.getElem?_append_right (by simp only [List.length_append, gl_0, gl_1, gl_2, gl_3, gl_4, gl_5, gl_6, gl_7, gl_8, gl_9]; omega)]
  simp only [List.length_append, gl_0, gl_1, gl_2, gl_3, gl_4, gl_5, gl_6, gl_7, gl_8, gl_9]
  have e : ∀ z, z = j → g_mts_4[z]? = g_mts_4[j]? := fun z h => by rw [h]
  exact e _ (by omega)
theorem mtc_5 (j : Nat) (hj : j < 40) : g_mts[200 + j]? = g_mts_5[j]? := by
  unfold g_mts
  rw [List.getElem?_append_left (by simp only [List.length_append, gl_0, gl_1, gl_2, gl_3, gl_4, gl_5, gl_6, gl_7, gl_8, gl_9]; omega)]
  rw [List.getElem?_append_left (by simp only [List.length_append, gl_0, gl_1, gl_2, gl_3, gl_4, gl_5, gl_6, gl_7, gl_8, gl_9]; omega)]
  rw [List.getElem?_append_left (by simp only [List.length_append, gl_0, gl_1, gl_2, gl_3, gl_4, gl_5, gl_6, gl_7, gl_8, gl_9]; omega)]
  rw [List.getElem?_append_left (by simp only [List.length_append, gl_0, gl_1, gl_2, gl_3, gl_4, gl_5, gl_6, gl_7, gl_8, gl_9]; omega)]
  rw [List.getElem?_append_right (by simp only [List.length_append, gl_0, gl_1, gl_2, gl_3, gl_4, gl_5, gl_6, gl_7, gl_8, gl_9]; omega)]
  simp only [List.length_append, gl_0, gl_1, gl_2, gl_3, gl_4, gl_5, gl_6, gl_7, gl_8, gl_9]
  have e : ∀ z, z = j → g_mts_5[z]? = g_mts_5[j]? := fun z h => by rw [h]
  exact e _ (by omega)
theorem mtc_6 (j : Nat) (hj : j < 40) : g_mts[240 + j]? = g_mts_6[j]? := by
  unfold g_mts
  rw [List.getElem?_append_left (by simp only [List.length_append, gl_0, gl_1, gl_2, gl_3, gl_4, gl_5, gl_6, gl_7, gl_8, gl_9]; omega)]
  rw [List.getElem?_append_left (by simp only [List.length_append, gl_0, gl_1, gl_2, gl_3, gl_4, gl_5, gl_6, gl_7, gl_8, gl_9]; omega)]
  rw [List.getElem?_append_left (by simp only [List.length_append, gl_0, gl_1, gl_2, gl_3, gl_4, gl_5, gl_6, gl_7, gl_8, gl_9]; omega)]
  rw [List.getElem?_append_right (by simp only [List.length_append, gl_0, gl_1, gl_2, gl_3, gl_4, gl_5, gl_6, gl_7, gl_8, gl_9]; omega)]
  simp only [List.length_append, gl_0, gl_1, gl_2, gl_3, gl_4, gl_5, gl_6, gl_7, gl_8, gl_9]
  have e : ∀ z, z = j → g_mts_6[z]? = g_mts_6[j]? := fun z h => by rw [h]
  exact e _ (by omega)
theorem mtc_7 (j : Nat) (hj : j < 40) : g_mts[280 + j]? = g_mts_7[j]? := by
  unfold g_mts
  rw [List.getElem?_append_left (by simp only [List.length_append, gl_0, gl_1, gl_2, gl_3, gl_4, gl_5, gl_6, gl_7, gl_8, gl_9]; omega)]
  rw [List.getElem?_append_left (by simp only [List.length_append, gl_0, gl_1, gl_2, gl_3, gl_4, gl_5, gl_6, gl_7, gl_8, gl_9]; omega)]
  rw [List.getElem?_append_right (by simp only [List.length_append, gl_0, gl_1, gl_2, gl_3, gl_4, gl_5, gl_6, gl_7, gl_8, gl_9]; omega)]
  simp only [List.length_append, gl_0, gl_1, gl_2, gl_3, gl_4, gl_5, gl_6, gl_7, gl_8, gl_9]
  have e : ∀ z, z = j → g_mts_7[z]? = g_mts_7[j]? := fun z h => by rw [h]
  exact e _ (by omega)
theorem mtc_8 (j : Nat) (hj : j < 40) : g_mts[320 + j]? = g_mts_8[j]? := by
  unfold g_mts
  rw [List.getElem?_append_left (by simp only [List.length_append, gl_0, gl_1, gl_2, gl_3, gl_4, gl_5, gl_6, gl_7, gl_8, gl_9]; omega)]
  rw [List.getElem?_append_right (by simp only [List.length_append, gl_0, gl_1, gl_2, gl_3, gl_4, gl_5, gl_6, gl_7, gl_8, gl_9]; omega)]
  simp only [List.length_append, gl_0, gl_1, gl_2, gl_3, gl_4, gl_5, gl_6, gl_7, gl_8, gl_9]
  have e : ∀ z, z = j → g_mts_8[z]? = g_mts_8[j]? := fun z h => by rw [h]
  exact e _ (by omega)
theorem mtc_9 (j : Nat) (hj : j < 23) : g_mts[360 + j]? = g_mts_9[j]? := by
  unfold g_mts
  rw [List.getElem?_append_right (by simp only [List.length_append, gl_0, gl_1, gl_2, gl_3, gl_4, gl_5, gl_6, gl_7, gl_8, gl_9]; omega)]
  simp only [List.length_append, gl_0, gl_1, gl_2, gl_3, gl_4, gl_5, gl_6, gl_7, gl_8, gl_9]
  have e : ∀ z, z = j → g_mts_9[z]? = g_mts_9[j]? := fun z h => by rw [h]
  exact e _ (by omega)
theorem mt_0 : g_mts[0]? = some g_m_X0_init := mtc_0 0 (by decide)
theorem mt_1 : g_mts[1]? = some g_m_X0_clear := mtc_0 1 (by decide)
theorem mt_2 : g_mts[2]? = some g_m_X0_copyFrom := mtc_0 2 (by decide)
theorem mt_3 : g_mts[3]? = some g_m_X0_find := mtc_0 3 (by decide)
theorem mt_4 : g_mts[4]? = some g_m_X0_standing := mtc_0 4 (by decide)
theorem mt_5 : g_mts[5]? = some g_m_X0_takenByParts := mtc_0 5 (by decide)
theorem mt_6 : g_mts[6]? = some g_m_X0_nextBehind := mtc_0 6 (by decide)
theorem mt_7 : g_mts[7]? = some g_m_X0_isMoved := mtc_0 7 (by decide)
theorem mt_8 : g_mts[8]? = some g_m_X0_isFree := mtc_0 8 (by decide)
theorem mt_9 : g_mts[9]? = some g_m_X0_usableEnd := mtc_0 9 (by decide)
theorem mt_10 : g_mts[10]? = some g_m_X0_isUsable := mtc_0 10 (by decide)
theorem mt_11 : g_mts[11]? = some g_m_X0_isAligned := mtc_0 11 (by decide)
theorem mt_12 : g_mts[12]? = some g_m_X0_meeting := mtc_0 12 (by decide)
theorem mt_13 : g_mts[13]? = some g_m_X0_meetingOthers := mtc_0 13 (by decide)
theorem mt_14 : g_mts[14]? = some g_m_X0_endOfTaken := mtc_0 14 (by decide)
theorem mt_15 : g_mts[15]? = some g_m_X0_nextTaken := mtc_0 15 (by decide)
theorem mt_16 : g_mts[16]? = some g_m_X0_whyNotTake := mtc_0 16 (by decide)
theorem mt_17 : g_mts[17]? = some g_m_X0_whyNotSize := mtc_0 17 (by decide)
theorem mt_18 : g_mts[18]? = some g_m_X0_whyNoRoomFor := mtc_0 18 (by decide)
theorem mt_19 : g_mts[19]? = some g_m_X0_whyNotMove := mtc_0 19 (by decide)
theorem mt_20 : g_mts[20]? = some g_m_X0_needsScratch := mtc_0 20 (by decide)
theorem mt_21 : g_mts[21]? = some g_m_X0_scratchFor := mtc_0 21 (by decide)
theorem mt_22 : g_mts[22]? = some g_m_X0_startInTheWay := mtc_0 22 (by decide)
theorem mt_23 : g_mts[23]? = some g_m_X0_numberAt := mtc_0 23 (by decide)
theorem mt_24 : g_mts[24]? = some g_m_X0_write := mtc_0 24 (by decide)
theorem mt_25 : g_mts[25]? = some g_m_X0_writeBlocks := mtc_0 25 (by decide)
theorem mt_26 : g_mts[26]? = some g_m_X0_placeOf := mtc_0 26 (by decide)
theorem mt_27 : g_mts[27]? = some g_m_X0_holderOf := mtc_0 27 (by decide)
theorem mt_28 : g_mts[28]? = some g_m_X0_hasPlace := mtc_0 28 (by decide)
theorem mt_29 : g_mts[29]? = some g_m_X0_isPlaceOf := mtc_0 29 (by decide)
theorem mt_30 : g_mts[30]? = some g_m_X0_keepsWhole := mtc_0 30 (by decide)
theorem mt_31 : g_mts[31]? = some g_m_X0_leftOverOf := mtc_0 31 (by decide)
theorem mt_32 : g_mts[32]? = some g_m_X0_wipeOut := mtc_0 32 (by decide)
theorem mt_33 : g_mts[33]? = some g_m_X0_make := mtc_0 33 (by decide)
theorem mt_34 : g_mts[34]? = some g_m_X0_giveSize := mtc_0 34 (by decide)
theorem mt_35 : g_mts[35]? = some g_m_X0_stepsOrNone := mtc_0 35 (by decide)
theorem mt_36 : g_mts[36]? = some g_m_X0_beginMove := mtc_0 36 (by decide)
theorem mt_37 : g_mts[37]? = some g_m_X0_doSteps := mtc_0 37 (by decide)
theorem mt_38 : g_mts[38]? = some g_m_X0_doStep := mtc_0 38 (by decide)
theorem mt_39 : g_mts[39]? = some g_m_X0_tearStep := mtc_0 39 (by decide)
theorem mt_40 : g_mts[40]? = some g_m_X0_copySectors := mtc_1 0 (by decide)
theorem mt_41 : g_mts[41]? = some g_m_X0_endMove := mtc_1 1 (by decide)
theorem mt_42 : g_mts[42]? = some g_m_X0_turnMove := mtc_1 2 (by decide)
theorem mt_43 : g_mts[43]? = some g_m_X0_leastStart := mtc_1 3 (by decide)
theorem mt_44 : g_mts[44]? = some g_m_X0_greatestStart := mtc_1 4 (by decide)
theorem mt_45 : g_mts[45]? = some g_m_X0_packLeft := mtc_1 5 (by decide)
theorem mt_46 : g_mts[46]? = some g_m_X0_bringsRoom := mtc_1 6 (by decide)
theorem mt_47 : g_mts[47]? = some g_m_X1_init := mtc_1 7 (by decide)
theorem mt_48 : g_mts[48]? = some g_m_X1_find := mtc_1 8 (by decide)
theorem mt_49 : g_mts[49]? = some g_m_X1_note := mtc_1 9 (by decide)
theorem mt_50 : g_mts[50]? = some g_m_X1_start := mtc_1 10 (by decide)
theorem mt_51 : g_mts[51]? = some g_m_X1_size := mtc_1 11 (by decide)
theorem mt_52 : g_mts[52]? = some g_m_X1_roomStart := mtc_1 12 (by decide)
theorem mt_53 : g_mts[53]? = some g_m_X1_room := mtc_1 13 (by decide)
theorem mt_54 : g_mts[54]? = some g_m_X1_sectors := mtc_1 14 (by decide)
theorem mt_55 : g_mts[55]? = some g_m_X1_sectorsOfRooms := mtc_1 15 (by decide)
theorem mt_56 : g_mts[56]? = some g_m_X1_largest := mtc_1 16 (by decide)
theorem mt_57 : g_mts[57]? = some g_m_X1_mostRoom := mtc_1 17 (by decide)
theorem mt_58 : g_mts[58]? = some g_m_X1_holding := mtc_1 18 (by decide)
theorem mt_59 : g_mts[59]? = some g_m_X1_startFor := mtc_1 19 (by decide)
theorem mt_60 : g_mts[60]? = some g_m_X1_isBetter := mtc_1 20 (by decide)
theorem mt_61 : g_mts[61]? = some g_m_X2_init := mtc_1 21 (by decide)
theorem mt_62 : g_mts[62]? = some g_m_X2_note := mtc_1 22 (by decide)
theorem mt_63 : g_mts[63]? = some g_m_X2_takeBack := mtc_1 23 (by decide)
theorem mt_64 : g_mts[64]? = some g_m_X2_forget := mtc_1 24 (by decide)
theorem mt_65 : g_mts[65]? = some g_m_X3_init := mtc_1 25 (by decide)
theorem mt_66 : g_mts[66]? = some g_m_X3_copyFrom := mtc_1 26 (by decide)
theorem mt_67 : g_mts[67]? = some g_m_X3_isOn := mtc_1 27 (by decide)
theorem mt_68 : g_mts[68]? = some g_m_X3_stop := mtc_1 28 (by decide)
theorem mt_69 : g_mts[69]? = some g_m_X3_lengthOf := mtc_1 29 (by decide)
theorem mt_70 : g_mts[70]? = some g_m_X3_isMovedChunk := mtc_1 30 (by decide)
theorem mt_71 : g_mts[71]? = some g_m_X3_nextChunk := mtc_1 31 (by decide)
theorem mt_72 : g_mts[72]? = some g_m_X3_firstBlock := mtc_1 32 (by decide)
theorem mt_73 : g_mts[73]? = some g_m_X3_stepLength := mtc_1 33 (by decide)
theorem mt_74 : g_mts[74]? = some g_m_X3_stepKind := mtc_1 34 (by decide)
theorem mt_75 : g_mts[75]? = some g_m_X3_stepSource := mtc_1 35 (by decide)
theorem mt_76 : g_mts[76]? = some g_m_X3_stepTarget := mtc_1 36 (by decide)
theorem mt_77 : g_mts[77]? = some g_m_X3_placeOfBlock := mtc_1 37 (by decide)
theorem mt_78 : g_mts[78]? = some g_m_X3_blocksMoved := mtc_1 38 (by decide)
theorem mt_79 : g_mts[79]? = some g_m_X3_stepsLeft := mtc_1 39 (by decide)
theorem mt_80 : g_mts[80]? = some g_m_X3_scratchSize := mtc_2 0 (by decide)
theorem mt_81 : g_mts[81]? = some g_m_X3_keepsBusy := mtc_2 1 (by decide)
theorem mt_82 : g_mts[82]? = some g_m_X3_endOfBusy := mtc_2 2 (by decide)
theorem mt_83 : g_mts[83]? = some g_m_X3_nextBusy := mtc_2 3 (by decide)
theorem mt_84 : g_mts[84]? = some g_m_X4_init := mtc_2 4 (by decide)
theorem mt_85 : g_mts[85]? = some g_m_X4_empty := mtc_2 5 (by decide)
theorem mt_86 : g_mts[86]? = some g_m_X4_putSign := mtc_2 6 (by decide)
theorem mt_87 : g_mts[87]? = some g_m_X4_putNumber := mtc_2 7 (by decide)
theorem mt_88 : g_mts[88]? = some g_m_X4_putPart := mtc_2 8 (by decide)
theorem mt_89 : g_mts[89]? = some g_m_X4_byteAt := mtc_2 9 (by decide)
theorem mt_90 : g_mts[90]? = some g_m_X5_init := mtc_2 10 (by decide)
theorem mt_91 : g_mts[91]? = some g_m_X5_copyFrom := mtc_2 11 (by decide)
theorem mt_92 : g_mts[92]? = some g_m_X5_stands := mtc_2 12 (by decide)
theorem mt_93 : g_mts[93]? = some g_m_X5_end := mtc_2 13 (by decide)
theorem mt_94 : g_mts[94]? = some g_m_X5_numberOf := mtc_2 14 (by decide)
theorem mt_95 : g_mts[95]? = some g_m_X5_meetsArea := mtc_2 15 (by decide)
theorem mt_96 : g_mts[96]? = some g_m_X6_init := mtc_2 16 (by decide)
theorem mt_97 : g_mts[97]? = some g_m_X6_hasRoomFor := mtc_2 17 (by decide)
theorem mt_98 : g_mts[98]? = some g_m_X6_putBytes := mtc_2 18 (by decide)
theorem mt_99 : g_mts[99]? = some g_m_X6_parseInto := mtc_2 19 (by decide)
theorem mt_100 : g_mts[100]? = some g_m_X6_statement := mtc_2 20 (by decide)
theorem mt_101 : g_mts[101]? = some g_m_X6_layout := mtc_2 21 (by decide)
theorem mt_102 : g_mts[102]? = some g_m_X6_chunking := mtc_2 22 (by decide)
theorem mt_103 : g_mts[103]? = some g_m_X6_partition := mtc_2 23 (by decide)
theorem mt_104 : g_mts[104]? = some g_m_X6_locking := mtc_2 24 (by decide)
theorem mt_105 : g_mts[105]? = some g_m_X6_semicolon := mtc_2 25 (by decide)
theorem mt_106 : g_mts[106]? = some g_m_X6_number := mtc_2 26 (by decide)
theorem mt_107 : g_mts[107]? = some g_m_X6_fail := mtc_2 27 (by decide)
theorem mt_108 : g_mts[108]? = some g_m_X6_byteAt := mtc_2 28 (by decide)
theorem mt_109 : g_mts[109]? = some g_m_X6_isLetter := mtc_2 29 (by decide)
theorem mt_110 : g_mts[110]? = some g_m_X6_isDigit := mtc_2 30 (by decide)
theorem mt_111 : g_mts[111]? = some g_m_X6_next := mtc_2 31 (by decide)
theorem mt_112 : g_mts[112]? = some g_m_X6_isWord := mtc_2 32 (by decide)
theorem mt_113 : g_mts[113]? = some g_m_X7_init := mtc_2 33 (by decide)
theorem mt_114 : g_mts[114]? = some g_m_X7_appendInput := mtc_2 34 (by decide)
theorem mt_115 : g_mts[115]? = some g_m_X7_truncateInput := mtc_2 35 (by decide)
theorem mt_116 : g_mts[116]? = some g_m_X7_loadDisk := mtc_2 36 (by decide)
theorem mt_117 : g_mts[117]? = some g_m_X7_errorCode := mtc_2 37 (by decide)
theorem mt_118 : g_mts[118]? = some g_m_X7_errorOffset := mtc_2 38 (by decide)
theorem mt_119 : g_mts[119]? = some g_m_X7_count := mtc_2 39 (by decide)
theorem mt_120 : g_mts[120]? = some g_m_X7_part := mtc_3 0 (by decide)
theorem mt_121 : g_mts[121]? = some g_m_X7_sector := mtc_3 1 (by decide)
theorem mt_122 : g_mts[122]? = some g_m_X7_owner := mtc_3 2 (by decide)
theorem mt_123 : g_mts[123]? = some g_m_X7_place := mtc_3 3 (by decide)
theorem mt_124 : g_mts[124]? = some g_m_X7_isWhole := mtc_3 4 (by decide)
theorem mt_125 : g_mts[125]? = some g_m_X7_byStart := mtc_3 5 (by decide)
theorem mt_126 : g_mts[126]? = some g_m_X7_behind := mtc_3 6 (by decide)
theorem mt_127 : g_mts[127]? = some g_m_X7_overlapped := mtc_3 7 (by decide)
theorem mt_128 : g_mts[128]? = some g_m_X7_used := mtc_3 8 (by decide)
theorem mt_129 : g_mts[129]? = some g_m_X7_slack := mtc_3 9 (by decide)
theorem mt_130 : g_mts[130]? = some g_m_X7_ofKind := mtc_3 10 (by decide)
theorem mt_131 : g_mts[131]? = some g_m_X7_copies := mtc_3 11 (by decide)
theorem mt_132 : g_mts[132]? = some g_m_X7_verify := mtc_3 12 (by decide)
theorem mt_133 : g_mts[133]? = some g_m_X7_gap := mtc_3 13 (by decide)
theorem mt_134 : g_mts[134]? = some g_m_X7_largestGap := mtc_3 14 (by decide)
theorem mt_135 : g_mts[135]? = some g_m_X7_fit := mtc_3 15 (by decide)
theorem mt_136 : g_mts[136]? = some g_m_X7_waste := mtc_3 16 (by decide)
theorem mt_137 : g_mts[137]? = some g_m_X7_scatter := mtc_3 17 (by decide)
theorem mt_138 : g_mts[138]? = some g_m_X7_gapAt := mtc_3 18 (by decide)
theorem mt_139 : g_mts[139]? = some g_m_X7_reason := mtc_3 19 (by decide)
theorem mt_140 : g_mts[140]? = some g_m_X7_add := mtc_3 20 (by decide)
theorem mt_141 : g_mts[141]? = some g_m_X7_addBy := mtc_3 21 (by decide)
theorem mt_142 : g_mts[142]? = some g_m_X7_remove := mtc_3 22 (by decide)
theorem mt_143 : g_mts[143]? = some g_m_X7_lock := mtc_3 23 (by decide)
theorem mt_144 : g_mts[144]? = some g_m_X7_resizeReason := mtc_3 24 (by decide)
theorem mt_145 : g_mts[145]? = some g_m_X7_resize := mtc_3 25 (by decide)
theorem mt_146 : g_mts[146]? = some g_m_X7_roundUp := mtc_3 26 (by decide)
theorem mt_147 : g_mts[147]? = some g_m_X7_setMinimum := mtc_3 27 (by decide)
theorem mt_148 : g_mts[148]? = some g_m_X7_growsTo := mtc_3 28 (by decide)
theorem mt_149 : g_mts[149]? = some g_m_X7_set := mtc_3 29 (by decide)
theorem mt_150 : g_mts[150]? = some g_m_X7_split := mtc_3 30 (by decide)
theorem mt_151 : g_mts[151]? = some g_m_X7_join := mtc_3 31 (by decide)
theorem mt_152 : g_mts[152]? = some g_m_X7_shrinkAll := mtc_3 32 (by decide)
theorem mt_153 : g_mts[153]? = some g_m_X7_wipe := mtc_3 33 (by decide)
theorem mt_154 : g_mts[154]? = some g_m_X7_moveReason := mtc_3 34 (by decide)
theorem mt_155 : g_mts[155]? = some g_m_X7_stepsFor := mtc_3 35 (by decide)
theorem mt_156 : g_mts[156]? = some g_m_X7_bestChunk := mtc_3 36 (by decide)
theorem mt_157 : g_mts[157]? = some g_m_X7_leftmost := mtc_3 37 (by decide)
theorem mt_158 : g_mts[158]? = some g_m_X7_rightmost := mtc_3 38 (by decide)
theorem mt_159 : g_mts[159]? = some g_m_X7_begin := mtc_3 39 (by decide)
theorem mt_160 : g_mts[160]? = some g_m_X7_run := mtc_4 0 (by decide)
theorem mt_161 : g_mts[161]? = some g_m_X7_tear := mtc_4 1 (by decide)
theorem mt_162 : g_mts[162]? = some g_m_X7_turnBack := mtc_4 2 (by decide)
theorem mt_163 : g_mts[163]? = some g_m_X7_move := mtc_4 3 (by decide)
theorem mt_164 : g_mts[164]? = some g_m_X7_blocksAt := mtc_4 4 (by decide)
theorem mt_165 : g_mts[165]? = some g_m_X7_nextStep := mtc_4 5 (by decide)
theorem mt_166 : g_mts[166]? = some g_m_X7_stepSector := mtc_4 6 (by decide)
theorem mt_167 : g_mts[167]? = some g_m_X7_compact := mtc_4 7 (by decide)
theorem mt_168 : g_mts[168]? = some g_m_X7_compactSteps := mtc_4 8 (by decide)
theorem mt_169 : g_mts[169]? = some g_m_X7_cheapestMove := mtc_4 9 (by decide)
theorem mt_170 : g_mts[170]? = some g_m_X7_printDisk := mtc_4 10 (by decide)
theorem mt_171 : g_mts[171]? = some g_m_X7_outputByte := mtc_4 11 (by decide)
theorem mt_172 : g_mts[172]? = some g_m_X7_undo := mtc_4 12 (by decide)
theorem mt_173 : g_mts[173]? = some g_m_X7_saveState := mtc_4 13 (by decide)
theorem mt_174 : g_mts[174]? = some g_m_X7_restoreState := mtc_4 14 (by decide)
theorem mt_175 : g_mts[175]? = some g_m_X7_gapsNow := mtc_4 15 (by decide)
theorem mt_176 : g_mts[176]? = some g_m_X7_need := mtc_4 16 (by decide)
theorem mt_177 : g_mts[177]? = some g_m_X7_needSector := mtc_4 17 (by decide)
theorem mt_178 : g_mts[178]? = some g_m_X7_needKindAndMinimum := mtc_4 18 (by decide)
theorem mt_179 : g_mts[179]? = some g_m_X7_needRule := mtc_4 19 (by decide)
theorem mt_180 : g_mts[180]? = some g_m_X7_needNumberLeft := mtc_4 20 (by decide)
theorem mt_181 : g_mts[181]? = some g_m_X7_needFree := mtc_4 21 (by decide)
theorem mt_182 : g_mts[182]? = some g_m_X7_needSizeFor := mtc_4 22 (by decide)
theorem mt_183 : g_mts[183]? = some g_m_X7_needMove := mtc_4 23 (by decide)
theorem mt_184 : g_mts[184]? = some g_m_X7_needNoMove := mtc_4 24 (by decide)
theorem mt_185 : g_mts[185]? = some g_m_X7_meet := mtc_4 25 (by decide)
theorem mt_186 : g_mts[186]? = some g_m_X7_roundedUp := mtc_4 26 (by decide)
theorem mt_187 : g_mts[187]? = some g_m_X7_roomBetween := mtc_4 27 (by decide)
theorem mt_188 : g_mts[188]? = some g_m_X7_distanceOf := mtc_4 28 (by decide)
theorem mt_189 : g_mts[189]? = some g_m_X7_stepsOfChunk := mtc_4 29 (by decide)
theorem mt_190 : g_mts[190]? = some g_m_X7_stepsOfMove := mtc_4 30 (by decide)
theorem mt_191 : g_mts[191]? = some g_m_X8_init := mtc_4 31 (by decide)
theorem mt_192 : g_mts[192]? = some g_m_X8_thrown := mtc_4 32 (by decide)
theorem mt_193 : g_mts[193]? = some g_m_X8_inRange := mtc_4 33 (by decide)
theorem mt_194 : g_mts[194]? = some g_m_X8_fails := mtc_4 34 (by decide)
theorem mt_195 : g_mts[195]? = some g_m_X8_copies := mtc_4 35 (by decide)
theorem mt_196 : g_mts[196]? = some g_m_X8_clear := mtc_4 36 (by decide)
theorem mt_197 : g_mts[197]? = some g_m_X8_remembers := mtc_4 37 (by decide)
theorem mt_198 : g_mts[198]? = some g_m_X8_begins := mtc_4 38 (by decide)
theorem mt_199 : g_mts[199]? = some g_m_X8_ends := mtc_4 39 (by decide)
theorem mt_200 : g_mts[200]? = some g_m_X8_of := mtc_5 0 (by decide)
theorem mt_201 : g_mts[201]? = some g_m_X8_put := mtc_5 1 (by decide)
theorem mt_202 : g_mts[202]? = some g_m_X8_stands := mtc_5 2 (by decide)
theorem mt_203 : g_mts[203]? = some g_m_X8_partsMany := mtc_5 3 (by decide)
theorem mt_204 : g_mts[204]? = some g_m_X8_isMoving := mtc_5 4 (by decide)
theorem mt_205 : g_mts[205]? = some g_m_X8_isMoved := mtc_5 5 (by decide)
theorem mt_206 : g_mts[206]? = some g_m_X8_isFixed := mtc_5 6 (by decide)
theorem mt_207 : g_mts[207]? = some g_m_X8_up := mtc_5 7 (by decide)
theorem mt_208 : g_mts[208]? = some g_m_X8_numberOf := mtc_5 8 (by decide)
theorem mt_209 : g_mts[209]? = some g_m_X8_writes := mtc_5 9 (by decide)
theorem mt_210 : g_mts[210]? = some g_m_X8_makes := mtc_5 10 (by decide)
theorem mt_211 : g_mts[211]? = some g_m_X8_isUsable := mtc_5 11 (by decide)
theorem mt_212 : g_mts[212]? = some g_m_X8_meet := mtc_5 12 (by decide)
theorem mt_213 : g_mts[213]? = some g_m_X8_isTaken := mtc_5 13 (by decide)
theorem mt_214 : g_mts[214]? = some g_m_X8_scratchSize := mtc_5 14 (by decide)
theorem mt_215 : g_mts[215]? = some g_m_X8_isBusy := mtc_5 15 (by decide)
theorem mt_216 : g_mts[216]? = some g_m_X8_whyNot := mtc_5 16 (by decide)
theorem mt_217 : g_mts[217]? = some g_m_X8_isFree := mtc_5 17 (by decide)
theorem mt_218 : g_mts[218]? = some g_m_X8_laysGaps := mtc_5 18 (by decide)
theorem mt_219 : g_mts[219]? = some g_m_X8_roomStart := mtc_5 19 (by decide)
theorem mt_220 : g_mts[220]? = some g_m_X8_roomSize := mtc_5 20 (by decide)
theorem mt_221 : g_mts[221]? = some g_m_X8_mostRoom := mtc_5 21 (by decide)
theorem mt_222 : g_mts[222]? = some g_m_X8_fits := mtc_5 22 (by decide)
theorem mt_223 : g_mts[223]? = some g_m_X8_scratchFor := mtc_5 23 (by decide)
theorem mt_224 : g_mts[224]? = some g_m_X8_whyNotMoved := mtc_5 24 (by decide)
theorem mt_225 : g_mts[225]? = some g_m_X8_far := mtc_5 25 (by decide)
theorem mt_226 : g_mts[226]? = some g_m_X8_stepsOf := mtc_5 26 (by decide)
theorem mt_227 : g_mts[227]? = some g_m_X8_stepsBy := mtc_5 27 (by decide)
theorem mt_228 : g_mts[228]? = some g_m_X8_chunks := mtc_5 28 (by decide)
theorem mt_229 : g_mts[229]? = some g_m_X8_distance := mtc_5 29 (by decide)
theorem mt_230 : g_mts[230]? = some g_m_X8_isAscending := mtc_5 30 (by decide)
theorem mt_231 : g_mts[231]? = some g_m_X8_isChunkMoved := mtc_5 31 (by decide)
theorem mt_232 : g_mts[232]? = some g_m_X8_nextChunk := mtc_5 32 (by decide)
theorem mt_233 : g_mts[233]? = some g_m_X8_firstBlock := mtc_5 33 (by decide)
theorem mt_234 : g_mts[234]? = some g_m_X8_blocksNext := mtc_5 34 (by decide)
theorem mt_235 : g_mts[235]? = some g_m_X8_stepsLeft := mtc_5 35 (by decide)
theorem mt_236 : g_mts[236]? = some g_m_X8_stepKind := mtc_5 36 (by decide)
theorem mt_237 : g_mts[237]? = some g_m_X8_sourceOf := mtc_5 37 (by decide)
theorem mt_238 : g_mts[238]? = some g_m_X8_targetOf := mtc_5 38 (by decide)
theorem mt_239 : g_mts[239]? = some g_m_X8_copiesBlocks := mtc_5 39 (by decide)
theorem mt_240 : g_mts[240]? = some g_m_X8_starts := mtc_6 0 (by decide)
theorem mt_241 : g_mts[241]? = some g_m_X8_step := mtc_6 1 (by decide)
theorem mt_242 : g_mts[242]? = some g_m_X8_runs := mtc_6 2 (by decide)
theorem mt_243 : g_mts[243]? = some g_m_X8_placeOf := mtc_6 3 (by decide)
theorem mt_244 : g_mts[244]? = some g_m_X8_leftOf := mtc_6 4 (by decide)
theorem mt_245 : g_mts[245]? = some g_m_X8_rightOf := mtc_6 5 (by decide)
theorem mt_246 : g_mts[246]? = some g_m_X8_appendWord := mtc_6 6 (by decide)
theorem mt_247 : g_mts[247]? = some g_m_X8_appendInput := mtc_6 7 (by decide)
theorem mt_248 : g_mts[248]? = some g_m_X8_truncateInput := mtc_6 8 (by decide)
theorem mt_249 : g_mts[249]? = some g_m_X8_byteAt := mtc_6 9 (by decide)
theorem mt_250 : g_mts[250]? = some g_m_X8_advanceToken := mtc_6 10 (by decide)
theorem mt_251 : g_mts[251]? = some g_m_X8_tokenLength := mtc_6 11 (by decide)
theorem mt_252 : g_mts[252]? = some g_m_X8_failsAt := mtc_6 12 (by decide)
theorem mt_253 : g_mts[253]? = some g_m_X8_isWord := mtc_6 13 (by decide)
theorem mt_254 : g_mts[254]? = some g_m_X8_isNumber := mtc_6 14 (by decide)
theorem mt_255 : g_mts[255]? = some g_m_X8_takes := mtc_6 15 (by decide)
theorem mt_256 : g_mts[256]? = some g_m_X8_readSetting := mtc_6 16 (by decide)
theorem mt_257 : g_mts[257]? = some g_m_X8_readPart := mtc_6 17 (by decide)
theorem mt_258 : g_mts[258]? = some g_m_X8_readLock := mtc_6 18 (by decide)
theorem mt_259 : g_mts[259]? = some g_m_X8_readStatement := mtc_6 19 (by decide)
theorem mt_260 : g_mts[260]? = some g_m_X8_passesSemicolon := mtc_6 20 (by decide)
theorem mt_261 : g_mts[261]? = some g_m_X8_readText := mtc_6 21 (by decide)
theorem mt_262 : g_mts[262]? = some g_m_X8_loadDisk := mtc_6 22 (by decide)
theorem mt_263 : g_mts[263]? = some g_m_X8_errorCode := mtc_6 23 (by decide)
theorem mt_264 : g_mts[264]? = some g_m_X8_errorOffset := mtc_6 24 (by decide)
theorem mt_265 : g_mts[265]? = some g_m_X8_gapSectors := mtc_6 25 (by decide)
theorem mt_266 : g_mts[266]? = some g_m_X8_gapsNow := mtc_6 26 (by decide)
theorem mt_267 : g_mts[267]? = some g_m_X8_count := mtc_6 27 (by decide)
theorem mt_268 : g_mts[268]? = some g_m_X8_noPart := mtc_6 28 (by decide)
theorem mt_269 : g_mts[269]? = some g_m_X8_part := mtc_6 29 (by decide)
theorem mt_270 : g_mts[270]? = some g_m_X8_noSector := mtc_6 30 (by decide)
theorem mt_271 : g_mts[271]? = some g_m_X8_sector := mtc_6 31 (by decide)
theorem mt_272 : g_mts[272]? = some g_m_X8_ownerOf := mtc_6 32 (by decide)
theorem mt_273 : g_mts[273]? = some g_m_X8_owner := mtc_6 33 (by decide)
theorem mt_274 : g_mts[274]? = some g_m_X8_place := mtc_6 34 (by decide)
theorem mt_275 : g_mts[275]? = some g_m_X8_whole := mtc_6 35 (by decide)
theorem mt_276 : g_mts[276]? = some g_m_X8_isWhole := mtc_6 36 (by decide)
theorem mt_277 : g_mts[277]? = some g_m_X8_verify := mtc_6 37 (by decide)
theorem mt_278 : g_mts[278]? = some g_m_X8_nextBy := mtc_6 38 (by decide)
theorem mt_279 : g_mts[279]? = some g_m_X8_standsAt := mtc_6 39 (by decide)
theorem mt_280 : g_mts[280]? = some g_m_X8_byStart := mtc_7 0 (by decide)
theorem mt_281 : g_mts[281]? = some g_m_X8_behind := mtc_7 1 (by decide)
theorem mt_282 : g_mts[282]? = some g_m_X8_gap := mtc_7 2 (by decide)
theorem mt_283 : g_mts[283]? = some g_m_X8_greatestGap := mtc_7 3 (by decide)
theorem mt_284 : g_mts[284]? = some g_m_X8_largestGap := mtc_7 4 (by decide)
theorem mt_285 : g_mts[285]? = some g_m_X8_gapAt := mtc_7 5 (by decide)
theorem mt_286 : g_mts[286]? = some g_m_X8_fit := mtc_7 6 (by decide)
theorem mt_287 : g_mts[287]? = some g_m_X8_reason := mtc_7 7 (by decide)
theorem mt_288 : g_mts[288]? = some g_m_X8_overlapped := mtc_7 8 (by decide)
theorem mt_289 : g_mts[289]? = some g_m_X8_waste := mtc_7 9 (by decide)
theorem mt_290 : g_mts[290]? = some g_m_X8_scatter := mtc_7 10 (by decide)
theorem mt_291 : g_mts[291]? = some g_m_X8_sizes := mtc_7 11 (by decide)
theorem mt_292 : g_mts[292]? = some g_m_X8_used := mtc_7 12 (by decide)
theorem mt_293 : g_mts[293]? = some g_m_X8_slackOf := mtc_7 13 (by decide)
theorem mt_294 : g_mts[294]? = some g_m_X8_slack := mtc_7 14 (by decide)
theorem mt_295 : g_mts[295]? = some g_m_X8_ofKind := mtc_7 15 (by decide)
theorem mt_296 : g_mts[296]? = some g_m_X8_isTold := mtc_7 16 (by decide)
theorem mt_297 : g_mts[297]? = some g_m_X8_add := mtc_7 17 (by decide)
theorem mt_298 : g_mts[298]? = some g_m_X8_addBy := mtc_7 18 (by decide)
theorem mt_299 : g_mts[299]? = some g_m_X8_remove := mtc_7 19 (by decide)
theorem mt_300 : g_mts[300]? = some g_m_X8_lock := mtc_7 20 (by decide)
theorem mt_301 : g_mts[301]? = some g_m_X8_whyNotSized := mtc_7 21 (by decide)
theorem mt_302 : g_mts[302]? = some g_m_X8_whyNotResized := mtc_7 22 (by decide)
theorem mt_303 : g_mts[303]? = some g_m_X8_resizeReason := mtc_7 23 (by decide)
theorem mt_304 : g_mts[304]? = some g_m_X8_resizes := mtc_7 24 (by decide)
theorem mt_305 : g_mts[305]? = some g_m_X8_resize := mtc_7 25 (by decide)
theorem mt_306 : g_mts[306]? = some g_m_X8_roundUp := mtc_7 26 (by decide)
theorem mt_307 : g_mts[307]? = some g_m_X8_setMinimum := mtc_7 27 (by decide)
theorem mt_308 : g_mts[308]? = some g_m_X8_growsTo := mtc_7 28 (by decide)
theorem mt_309 : g_mts[309]? = some g_m_X8_split := mtc_7 29 (by decide)
theorem mt_310 : g_mts[310]? = some g_m_X8_neighbour := mtc_7 30 (by decide)
theorem mt_311 : g_mts[311]? = some g_m_X8_canJoin := mtc_7 31 (by decide)
theorem mt_312 : g_mts[312]? = some g_m_X8_join := mtc_7 32 (by decide)
theorem mt_313 : g_mts[313]? = some g_m_X8_shrinkAll := mtc_7 33 (by decide)
theorem mt_314 : g_mts[314]? = some g_m_X8_wipe := mtc_7 34 (by decide)
theorem mt_315 : g_mts[315]? = some g_m_X8_set := mtc_7 35 (by decide)
theorem mt_316 : g_mts[316]? = some g_m_X8_moveReason := mtc_7 36 (by decide)
theorem mt_317 : g_mts[317]? = some g_m_X8_stepsFor := mtc_7 37 (by decide)
theorem mt_318 : g_mts[318]? = some g_m_X8_begin := mtc_7 38 (by decide)
theorem mt_319 : g_mts[319]? = some g_m_X8_run := mtc_7 39 (by decide)
theorem mt_320 : g_mts[320]? = some g_m_X8_tear := mtc_8 0 (by decide)
theorem mt_321 : g_mts[321]? = some g_m_X8_turnBack := mtc_8 1 (by decide)
theorem mt_322 : g_mts[322]? = some g_m_X8_move := mtc_8 2 (by decide)
theorem mt_323 : g_mts[323]? = some g_m_X8_blocksAt := mtc_8 3 (by decide)
theorem mt_324 : g_mts[324]? = some g_m_X8_nextStep := mtc_8 4 (by decide)
theorem mt_325 : g_mts[325]? = some g_m_X8_stepSector := mtc_8 5 (by decide)
theorem mt_326 : g_mts[326]? = some g_m_X8_copies_ := mtc_8 6 (by decide)
theorem mt_327 : g_mts[327]? = some g_m_X8_leftmost := mtc_8 7 (by decide)
theorem mt_328 : g_mts[328]? = some g_m_X8_rightmost := mtc_8 8 (by decide)
theorem mt_329 : g_mts[329]? = some g_m_X8_compacts := mtc_8 9 (by decide)
theorem mt_330 : g_mts[330]? = some g_m_X8_compact := mtc_8 10 (by decide)
theorem mt_331 : g_mts[331]? = some g_m_X8_compactSteps := mtc_8 11 (by decide)
theorem mt_332 : g_mts[332]? = some g_m_X8_cheapestMove := mtc_8 12 (by decide)
theorem mt_333 : g_mts[333]? = some g_m_X8_brings := mtc_8 13 (by decide)
theorem mt_334 : g_mts[334]? = some g_m_X8_bestChunk := mtc_8 14 (by decide)
theorem mt_335 : g_mts[335]? = some g_m_X8_write := mtc_8 15 (by decide)
theorem mt_336 : g_mts[336]? = some g_m_X8_writeNumber := mtc_8 16 (by decide)
theorem mt_337 : g_mts[337]? = some g_m_X8_printDisk := mtc_8 17 (by decide)
theorem mt_338 : g_mts[338]? = some g_m_X8_writePart := mtc_8 18 (by decide)
theorem mt_339 : g_mts[339]? = some g_m_X8_outputByte := mtc_8 19 (by decide)
theorem mt_340 : g_mts[340]? = some g_m_X8_undo := mtc_8 20 (by decide)
theorem mt_341 : g_mts[341]? = some g_m_X8_saveState := mtc_8 21 (by decide)
theorem mt_342 : g_mts[342]? = some g_m_X8_restoreState := mtc_8 22 (by decide)
theorem mt_343 : g_mts[343]? = some g_m_L_count := mtc_8 23 (by decide)
theorem mt_344 : g_mts[344]? = some g_m_L_part := mtc_8 24 (by decide)
theorem mt_345 : g_mts[345]? = some g_m_L_sector := mtc_8 25 (by decide)
theorem mt_346 : g_mts[346]? = some g_m_L_owner := mtc_8 26 (by decide)
theorem mt_347 : g_mts[347]? = some g_m_L_place := mtc_8 27 (by decide)
theorem mt_348 : g_mts[348]? = some g_m_L_isWhole := mtc_8 28 (by decide)
theorem mt_349 : g_mts[349]? = some g_m_L_byStart := mtc_8 29 (by decide)
theorem mt_350 : g_mts[350]? = some g_m_L_gap := mtc_8 30 (by decide)
theorem mt_351 : g_mts[351]? = some g_m_L_fit := mtc_8 31 (by decide)
theorem mt_352 : g_mts[352]? = some g_m_L_add := mtc_8 32 (by decide)
theorem mt_353 : g_mts[353]? = some g_m_L_addBy := mtc_8 33 (by decide)
theorem mt_354 : g_mts[354]? = some g_m_L_remove := mtc_8 34 (by decide)
theorem mt_355 : g_mts[355]? = some g_m_L_lock := mtc_8 35 (by decide)
theorem mt_356 : g_mts[356]? = some g_m_L_resizeReason := mtc_8 36 (by decide)
theorem mt_357 : g_mts[357]? = some g_m_L_resize := mtc_8 37 (by decide)
theorem mt_358 : g_mts[358]? = some g_m_L_setMinimum := mtc_8 38 (by decide)
theorem mt_359 : g_mts[359]? = some g_m_L_growsTo := mtc_8 39 (by decide)
theorem mt_360 : g_mts[360]? = some g_m_L_set := mtc_9 0 (by decide)
theorem mt_361 : g_mts[361]? = some g_m_L_moveReason := mtc_9 1 (by decide)
theorem mt_362 : g_mts[362]? = some g_m_L_stepsFor := mtc_9 2 (by decide)
theorem mt_363 : g_mts[363]? = some g_m_L_begin := mtc_9 3 (by decide)
theorem mt_364 : g_mts[364]? = some g_m_L_run := mtc_9 4 (by decide)
theorem mt_365 : g_mts[365]? = some g_m_L_tear := mtc_9 5 (by decide)
theorem mt_366 : g_mts[366]? = some g_m_L_turnBack := mtc_9 6 (by decide)
theorem mt_367 : g_mts[367]? = some g_m_L_move := mtc_9 7 (by decide)
theorem mt_368 : g_mts[368]? = some g_m_L_leftmost := mtc_9 8 (by decide)
theorem mt_369 : g_mts[369]? = some g_m_L_compact := mtc_9 9 (by decide)
theorem mt_370 : g_mts[370]? = some g_m_L_cheapestMove := mtc_9 10 (by decide)
theorem mt_371 : g_mts[371]? = some g_m_L_ofKind := mtc_9 11 (by decide)
theorem mt_372 : g_mts[372]? = some g_m_L_blocksAt := mtc_9 12 (by decide)
theorem mt_373 : g_mts[373]? = some g_m_L_copies := mtc_9 13 (by decide)
theorem mt_374 : g_mts[374]? = some g_m_L_split := mtc_9 14 (by decide)
theorem mt_375 : g_mts[375]? = some g_m_L_join := mtc_9 15 (by decide)
theorem mt_376 : g_mts[376]? = some g_m_L_roundUp := mtc_9 16 (by decide)
theorem mt_377 : g_mts[377]? = some g_m_L_bestChunk := mtc_9 17 (by decide)
theorem mt_378 : g_mts[378]? = some g_m_L_rightmost := mtc_9 18 (by decide)
theorem mt_379 : g_mts[379]? = some g_m_L_behind := mtc_9 19 (by decide)
theorem mt_380 : g_mts[380]? = some g_m_L_gapAt := mtc_9 20 (by decide)
theorem mt_381 : g_mts[381]? = some g_m_L_nextStep := mtc_9 21 (by decide)
theorem mt_382 : g_mts[382]? = some g_m_L_restoreState := mtc_9 22 (by decide)
theorem ct_0 {k : Nat} {fl : List (Option Jvm.Term)} (hi : ra_inst i = some (2, idx)) (hc : ri_cp (g_Gs n f) M idx = some (kd, 0, 0, tx)) (hk : kd = 22 ∨ kd = 32) (hs : g_sh[k]? = some (.inl (0, fl))) (hr : rest.length ≤ 4) : ra_ct (g_Gs n f) g_sh M i (.index k :: rest) [.index k] rest 0 :=
  ⟨2, idx, kd, 0, tx, g_m_X0_init, hi, hc, hk, mt_0, Or.inr rfl, by simp [ri_nn], rfl, rfl, hr, Or.inr ⟨0, fl, (RX0, TX0, 13), hs, rfl, beq_self_eq_true RX0⟩⟩
theorem ct_1 {a0 : Jvm.Term} {k : Nat} {fl : List (Option Jvm.Term)} (hi : ra_inst i = some (0, idx)) (hc : ri_cp (g_Gs n f) M idx = some (kd, 1, 1, tx)) (hk : kd = 20 ∨ kd = 30) (hs : g_sh[k]? = some (.inl (0, fl))) (hr : rest.length ≤ 4) : ra_ct (g_Gs n f) g_sh M i (a0 :: .index k :: rest) [.index k, a0] rest 1 :=
  ⟨0, idx, kd, 1, tx, g_m_X0_clear, hi, hc, hk, mt_1, Or.inr rfl, by simp [ri_nn], rfl, rfl, hr, Or.inr ⟨0, fl, (RX0, TX0, 13), hs, rfl, beq_self_eq_true RX0⟩⟩
theorem ct_2 {a0 : Jvm.Term} {k : Nat} {fl : List (Option Jvm.Term)} (hi : ra_inst i = some (0, idx)) (hc : ri_cp (g_Gs n f) M idx = some (kd, 2, 1, tx)) (hk : kd = 20 ∨ kd = 30) (hs : g_sh[k]? = some (.inl (0, fl))) (hr : rest.length ≤ 4) : ra_ct (g_Gs n f) g_sh M i (a0 :: .index k :: rest) [.index k, a0] rest 2 :=
  ⟨0, idx, kd, 1, tx, g_m_X0_copyFrom, hi, hc, hk, mt_2, Or.inr rfl, by simp [ri_nn], rfl, rfl, hr, Or.inr ⟨0, fl, (RX0, TX0, 13), hs, rfl, beq_self_eq_true RX0⟩⟩
theorem ct_3 {a0 : Jvm.Term} {k : Nat} {fl : List (Option Jvm.Term)} (hi : ra_inst i = some (0, idx)) (hc : ri_cp (g_Gs n f) M idx = some (kd, 3, 1, tx)) (hk : kd = 20 ∨ kd = 30) (hs : g_sh[k]? = some (.inl (0, fl))) (hr : rest.length ≤ 4) : ra_ct (g_Gs n f) g_sh M i (a0 :: .index k :: rest) [.index k, a0] rest 3 :=
  ⟨0, idx, kd, 1, tx, g_m_X0_find, hi, hc, hk, mt_3, Or.inr rfl, by simp [ri_nn], rfl, rfl, hr, Or.inr ⟨0, fl, (RX0, TX0, 13), hs, rfl, beq_self_eq_true RX0⟩⟩
theorem ct_4 {k : Nat} {fl : List (Option Jvm.Term)} (hi : ra_inst i = some (0, idx)) (hc : ri_cp (g_Gs n f) M idx = some (kd, 4, 0, tx)) (hk : kd = 20 ∨ kd = 30) (hs : g_sh[k]? = some (.inl (0, fl))) (hr : rest.length ≤ 4) : ra_ct (g_Gs n f) g_sh M i (.index k :: rest) [.index k] rest 4 :=
  ⟨0, idx, kd, 0, tx, g_m_X0_standing, hi, hc, hk, mt_4, Or.inr rfl, by simp [ri_nn], rfl, rfl, hr, Or.inr ⟨0, fl, (RX0, TX0, 13), hs, rfl, beq_self_eq_true RX0⟩⟩
theorem ct_5 {k : Nat} {fl : List (Option Jvm.Term)} (hi : ra_inst i = some (0, idx)) (hc : ri_cp (g_Gs n f) M idx = some (kd, 5, 0, tx)) (hk : kd = 20 ∨ kd = 30) (hs : g_sh[k]? = some (.inl (0, fl))) (hr : rest.length ≤ 4) : ra_ct (g_Gs n f) g_sh M i (.index k :: rest) [.index k] rest 5 :=
  ⟨0, idx, kd, 0, tx, g_m_X0_takenByParts, hi, hc, hk, mt_5, Or.inr rfl, by simp [ri_nn], rfl, rfl, hr, Or.inr ⟨0, fl, (RX0, TX0, 13), hs, rfl, beq_self_eq_true RX0⟩⟩
theorem ct_6 {a0 : Jvm.Term} {k : Nat} {fl : List (Option Jvm.Term)} (hi : ra_inst i = some (0, idx)) (hc : ri_cp (g_Gs n f) M idx = some (kd, 6, 1, tx)) (hk : kd = 20 ∨ kd = 30) (hs : g_sh[k]? = some (.inl (0, fl))) (hr : rest.length ≤ 4) : ra_ct (g_Gs n f) g_sh M i (a0 :: .index k :: rest) [.index k, a0] rest 6 :=
  ⟨0, idx, kd, 1, tx, g_m_X0_nextBehind, hi, hc, hk, mt_6, Or.inr rfl, by simp [ri_nn], rfl, rfl, hr, Or.inr ⟨0, fl, (RX0, TX0, 13), hs, rfl, beq_self_eq_true RX0⟩⟩
theorem ct_7 {a0 : Jvm.Term} {k : Nat} {fl : List (Option Jvm.Term)} (hi : ra_inst i = some (0, idx)) (hc : ri_cp (g_Gs n f) M idx = some (kd, 7, 1, tx)) (hk : kd = 20 ∨ kd = 30) (hs : g_sh[k]? = some (.inl (0, fl))) (hr : rest.length ≤ 4) : ra_ct (g_Gs n f) g_sh M i (a0 :: .index k :: rest) [.index k, a0] rest 7 :=
  ⟨0, idx, kd, 1, tx, g_m_X0_isMoved, hi, hc, hk, mt_7, Or.inr rfl, by simp [ri_nn], rfl, rfl, hr, Or.inr ⟨0, fl, (RX0, TX0, 13), hs, rfl, beq_self_eq_true RX0⟩⟩
theorem ct_8 {a0 : Jvm.Term} {k : Nat} {fl : List (Option Jvm.Term)} (hi : ra_inst i = some (0, idx)) (hc : ri_cp (g_Gs n f) M idx = some (kd, 8, 1, tx)) (hk : kd = 20 ∨ kd = 30) (hs : g_sh[k]? = some (.inl (0, fl))) (hr : rest.length ≤ 4) : ra_ct (g_Gs n f) g_sh M i (a0 :: .index k :: rest) [.index k, a0] rest 8 :=
  ⟨0, idx, kd, 1, tx, g_m_X0_isFree, hi, hc, hk, mt_8, Or.inr rfl, by simp [ri_nn], rfl, rfl, hr, Or.inr ⟨0, fl, (RX0, TX0, 13), hs, rfl, beq_self_eq_true RX0⟩⟩
theorem ct_9 {k : Nat} {fl : List (Option Jvm.Term)} (hi : ra_inst i = some (0, idx)) (hc : ri_cp (g_Gs n f) M idx = some (kd, 9, 0, tx)) (hk : kd = 20 ∨ kd = 30) (hs : g_sh[k]? = some (.inl (0, fl))) (hr : rest.length ≤ 4) : ra_ct (g_Gs n f) g_sh M i (.index k :: rest) [.index k] rest 9 :=
  ⟨0, idx, kd, 0, tx, g_m_X0_usableEnd, hi, hc, hk, mt_9, Or.inr rfl, by simp [ri_nn], rfl, rfl, hr, Or.inr ⟨0, fl, (RX0, TX0, 13), hs, rfl, beq_self_eq_true RX0⟩⟩
theorem ct_10 {a0 a1 : Jvm.Term} {k : Nat} {fl : List (Option Jvm.Term)} (hi : ra_inst i = some (0, idx)) (hc : ri_cp (g_Gs n f) M idx = some (kd, 10, 2, tx)) (hk : kd = 20 ∨ kd = 30) (hs : g_sh[k]? = some (.inl (0, fl))) (hr : rest.length ≤ 4) : ra_ct (g_Gs n f) g_sh M i (a1 :: a0 :: .index k :: rest) [.index k, a0, a1] rest 10 :=
  ⟨0, idx, kd, 2, tx, g_m_X0_isUsable, hi, hc, hk, mt_10, Or.inr rfl, by simp [ri_nn], rfl, rfl, hr, Or.inr ⟨0, fl, (RX0, TX0, 13), hs, rfl, beq_self_eq_true RX0⟩⟩
theorem ct_11 {a0 : Jvm.Term} {k : Nat} {fl : List (Option Jvm.Term)} (hi : ra_inst i = some (0, idx)) (hc : ri_cp (g_Gs n f) M idx = some (kd, 11, 1, tx)) (hk : kd = 20 ∨ kd = 30) (hs : g_sh[k]? = some (.inl (0, fl))) (hr : rest.length ≤ 4) : ra_ct (g_Gs n f) g_sh M i (a0 :: .index k :: rest) [.index k, a0] rest 11 :=
  ⟨0, idx, kd, 1, tx, g_m_X0_isAligned, hi, hc, hk, mt_11, Or.inr rfl, by simp [ri_nn], rfl, rfl, hr, Or.inr ⟨0, fl, (RX0, TX0, 13), hs, rfl, beq_self_eq_true RX0⟩⟩
theorem ct_12 {a0 a1 : Jvm.Term} {k : Nat} {fl : List (Option Jvm.Term)} (hi : ra_inst i = some (0, idx)) (hc : ri_cp (g_Gs n f) M idx = some (kd, 12, 2, tx)) (hk : kd = 20 ∨ kd = 30) (hs : g_sh[k]? = some (.inl (0, fl))) (hr : rest.length ≤ 4) : ra_ct (g_Gs n f) g_sh M i (a1 :: a0 :: .index k :: rest) [.index k, a0, a1] rest 12 :=
  ⟨0, idx, kd, 2, tx, g_m_X0_meeting, hi, hc, hk, mt_12, Or.inr rfl, by simp [ri_nn], rfl, rfl, hr, Or.inr ⟨0, fl, (RX0, TX0, 13), hs, rfl, beq_self_eq_true RX0⟩⟩
theorem ct_13 {a0 a1 a2 : Jvm.Term} {k : Nat} {fl : List (Option Jvm.Term)} (hi : ra_inst i = some (0, idx)) (hc : ri_cp (g_Gs n f) M idx = some (kd, 13, 3, tx)) (hk : kd = 20 ∨ kd = 30) (hs : g_sh[k]? = some (.inl (0, fl))) (hr : rest.length ≤ 4) : ra_ct (g_Gs n f) g_sh M i (a2 :: a1 :: a0 :: .index k :: rest) [.index k, a0, a1, a2] rest 13 :=
  ⟨0, idx, kd, 3, tx, g_m_X0_meetingOthers, hi, hc, hk, mt_13, Or.inr rfl, by simp [ri_nn], rfl, rfl, hr, Or.inr ⟨0, fl, (RX0, TX0, 13), hs, rfl, beq_self_eq_true RX0⟩⟩
theorem ct_14 {a0 : Jvm.Term} {k : Nat} {fl : List (Option Jvm.Term)} (hi : ra_inst i = some (0, idx)) (hc : ri_cp (g_Gs n f) M idx = some (kd, 14, 1, tx)) (hk : kd = 20 ∨ kd = 30) (hs : g_sh[k]? = some (.inl (0, fl))) (hr : rest.length ≤ 4) : ra_ct (g_Gs n f) g_sh M i (a0 :: .index k :: rest) [.index k, a0] rest 14 :=
  ⟨0, idx, kd, 1, tx, g_m_X0_endOfTaken, hi, hc, hk, mt_14, Or.inr rfl, by simp [ri_nn], rfl, rfl, hr, Or.inr ⟨0, fl, (RX0, TX0, 13), hs, rfl, beq_self_eq_true RX0⟩⟩
theorem ct_15 {a0 : Jvm.Term} {k : Nat} {fl : List (Option Jvm.Term)} (hi : ra_inst i = some (0, idx)) (hc : ri_cp (g_Gs n f) M idx = some (kd, 15, 1, tx)) (hk : kd = 20 ∨ kd = 30) (hs : g_sh[k]? = some (.inl (0, fl))) (hr : rest.length ≤ 4) : ra_ct (g_Gs n f) g_sh M i (a0 :: .index k :: rest) [.index k, a0] rest 15 :=
  ⟨0, idx, kd, 1, tx, g_m_X0_nextTaken, hi, hc, hk, mt_15, Or.inr rfl, by simp [ri_nn], rfl, rfl, hr, Or.inr ⟨0, fl, (RX0, TX0, 13), hs, rfl, beq_self_eq_true RX0⟩⟩
theorem ct_16 {a0 a1 : Jvm.Term} {k : Nat} {fl : List (Option Jvm.Term)} (hi : ra_inst i = some (0, idx)) (hc : ri_cp (g_Gs n f) M idx = some (kd, 16, 2, tx)) (hk : kd = 20 ∨ kd = 30) (hs : g_sh[k]? = some (.inl (0, fl))) (hr : rest.length ≤ 4) : ra_ct (g_Gs n f) g_sh M i (a1 :: a0 :: .index k :: rest) [.index k, a0, a1] rest 16 :=
  ⟨0, idx, kd, 2, tx, g_m_X0_whyNotTake, hi, hc, hk, mt_16, Or.inr rfl, by simp [ri_nn], rfl, rfl, hr, Or.inr ⟨0, fl, (RX0, TX0, 13), hs, rfl, beq_self_eq_true RX0⟩⟩
theorem ct_17 {a0 a1 : Jvm.Term} {k : Nat} {fl : List (Option Jvm.Term)} (hi : ra_inst i = some (0, idx)) (hc : ri_cp (g_Gs n f) M idx = some (kd, 17, 2, tx)) (hk : kd = 20 ∨ kd = 30) (hs : g_sh[k]? = some (.inl (0, fl))) (hr : rest.length ≤ 4) : ra_ct (g_Gs n f) g_sh M i (a1 :: a0 :: .index k :: rest) [.index k, a0, a1] rest 17 :=
  ⟨0, idx, kd, 2, tx, g_m_X0_whyNotSize, hi, hc, hk, mt_17, Or.inr rfl, by simp [ri_nn], rfl, rfl, hr, Or.inr ⟨0, fl, (RX0, TX0, 13), hs, rfl, beq_self_eq_true RX0⟩⟩
theorem ct_18 {a0 a1 : Jvm.Term} {k : Nat} {fl : List (Option Jvm.Term)} (hi : ra_inst i = some (0, idx)) (hc : ri_cp (g_Gs n f) M idx = some (kd, 18, 2, tx)) (hk : kd = 20 ∨ kd = 30) (hs : g_sh[k]? = some (.inl (0, fl))) (hr : rest.length ≤ 4) : ra_ct (g_Gs n f) g_sh M i (a1 :: a0 :: .index k :: rest) [.index k, a0, a1] rest 18 :=
  ⟨0, idx, kd, 2, tx, g_m_X0_whyNoRoomFor, hi, hc, hk, mt_18, Or.inr rfl, by simp [ri_nn], rfl, rfl, hr, Or.inr ⟨0, fl, (RX0, TX0, 13), hs, rfl, beq_self_eq_true RX0⟩⟩
theorem ct_19 {a0 a1 a2 : Jvm.Term} {k : Nat} {fl : List (Option Jvm.Term)} (hi : ra_inst i = some (0, idx)) (hc : ri_cp (g_Gs n f) M idx = some (kd, 19, 3, tx)) (hk : kd = 20 ∨ kd = 30) (hs : g_sh[k]? = some (.inl (0, fl))) (hr : rest.length ≤ 4) : ra_ct (g_Gs n f) g_sh M i (a2 :: a1 :: a0 :: .index k :: rest) [.index k, a0, a1, a2] rest 19 :=
  ⟨0, idx, kd, 3, tx, g_m_X0_whyNotMove, hi, hc, hk, mt_19, Or.inr rfl, by simp [ri_nn], rfl, rfl, hr, Or.inr ⟨0, fl, (RX0, TX0, 13), hs, rfl, beq_self_eq_true RX0⟩⟩
theorem ct_20 {a0 a1 a2 : Jvm.Term} {k : Nat} {fl : List (Option Jvm.Term)} (hi : ra_inst i = some (0, idx)) (hc : ri_cp (g_Gs n f) M idx = some (kd, 20, 3, tx)) (hk : kd = 20 ∨ kd = 30) (hs : g_sh[k]? = some (.inl (0, fl))) (hr : rest.length ≤ 4) : ra_ct (g_Gs n f) g_sh M i (a2 :: a1 :: a0 :: .index k :: rest) [.index k, a0, a1, a2] rest 20 :=
  ⟨0, idx, kd, 3, tx, g_m_X0_needsScratch, hi, hc, hk, mt_20, Or.inr rfl, by simp [ri_nn], rfl, rfl, hr, Or.inr ⟨0, fl, (RX0, TX0, 13), hs, rfl, beq_self_eq_true RX0⟩⟩
theorem ct_21 {a0 a1 a2 : Jvm.Term} {k : Nat} {fl : List (Option Jvm.Term)} (hi : ra_inst i = some (0, idx)) (hc : ri_cp (g_Gs n f) M idx = some (kd, 21, 3, tx)) (hk : kd = 20 ∨ kd = 30) (hs : g_sh[k]? = some (.inl (0, fl))) (hr : rest.length ≤ 4) : ra_ct (g_Gs n f) g_sh M i (a2 :: a1 :: a0 :: .index k :: rest) [.index k, a0, a1, a2] rest 21 :=
  ⟨0, idx, kd, 3, tx, g_m_X0_scratchFor, hi, hc, hk, mt_21, Or.inr rfl, by simp [ri_nn], rfl, rfl, hr, Or.inr ⟨0, fl, (RX0, TX0, 13), hs, rfl, beq_self_eq_true RX0⟩⟩
theorem ct_22 {a0 a1 a2 a3 : Jvm.Term} {k : Nat} {fl : List (Option Jvm.Term)} (hi : ra_inst i = some (0, idx)) (hc : ri_cp (g_Gs n f) M idx = some (kd, 22, 4, tx)) (hk : kd = 20 ∨ kd = 30) (hs : g_sh[k]? = some (.inl (0, fl))) (hr : rest.length ≤ 4) : ra_ct (g_Gs n f) g_sh M i (a3 :: a2 :: a1 :: a0 :: .index k :: rest) [.index k, a0, a1, a2, a3] rest 22 :=
  ⟨0, idx, kd, 4, tx, g_m_X0_startInTheWay, hi, hc, hk, mt_22, Or.inr rfl, by simp [ri_nn], rfl, rfl, hr, Or.inr ⟨0, fl, (RX0, TX0, 13), hs, rfl, beq_self_eq_true RX0⟩⟩
theorem ct_23 {a0 : Jvm.Term} {k : Nat} {fl : List (Option Jvm.Term)} (hi : ra_inst i = some (0, idx)) (hc : ri_cp (g_Gs n f) M idx = some (kd, 23, 1, tx)) (hk : kd = 20 ∨ kd = 30) (hs : g_sh[k]? = some (.inl (0, fl))) (hr : rest.length ≤ 4) : ra_ct (g_Gs n f) g_sh M i (a0 :: .index k :: rest) [.index k, a0] rest 23 :=
  ⟨0, idx, kd, 1, tx, g_m_X0_numberAt, hi, hc, hk, mt_23, Or.inr rfl, by simp [ri_nn], rfl, rfl, hr, Or.inr ⟨0, fl, (RX0, TX0, 13), hs, rfl, beq_self_eq_true RX0⟩⟩
theorem ct_24 {a0 a1 : Jvm.Term} {k : Nat} {fl : List (Option Jvm.Term)} (hi : ra_inst i = some (0, idx)) (hc : ri_cp (g_Gs n f) M idx = some (kd, 24, 2, tx)) (hk : kd = 20 ∨ kd = 30) (hs : g_sh[k]? = some (.inl (0, fl))) (hr : rest.length ≤ 4) : ra_ct (g_Gs n f) g_sh M i (a1 :: a0 :: .index k :: rest) [.index k, a0, a1] rest 24 :=
  ⟨0, idx, kd, 2, tx, g_m_X0_write, hi, hc, hk, mt_24, Or.inr rfl, by simp [ri_nn], rfl, rfl, hr, Or.inr ⟨0, fl, (RX0, TX0, 13), hs, rfl, beq_self_eq_true RX0⟩⟩
theorem ct_25 {a0 a1 : Jvm.Term} {k : Nat} {fl : List (Option Jvm.Term)} (hi : ra_inst i = some (0, idx)) (hc : ri_cp (g_Gs n f) M idx = some (kd, 25, 2, tx)) (hk : kd = 20 ∨ kd = 30) (hs : g_sh[k]? = some (.inl (0, fl))) (hr : rest.length ≤ 4) : ra_ct (g_Gs n f) g_sh M i (a1 :: a0 :: .index k :: rest) [.index k, a0, a1] rest 25 :=
  ⟨0, idx, kd, 2, tx, g_m_X0_writeBlocks, hi, hc, hk, mt_25, Or.inr rfl, by simp [ri_nn], rfl, rfl, hr, Or.inr ⟨0, fl, (RX0, TX0, 13), hs, rfl, beq_self_eq_true RX0⟩⟩
theorem ct_26 {a0 a1 : Jvm.Term} {k : Nat} {fl : List (Option Jvm.Term)} (hi : ra_inst i = some (0, idx)) (hc : ri_cp (g_Gs n f) M idx = some (kd, 26, 2, tx)) (hk : kd = 20 ∨ kd = 30) (hs : g_sh[k]? = some (.inl (0, fl))) (hr : rest.length ≤ 4) : ra_ct (g_Gs n f) g_sh M i (a1 :: a0 :: .index k :: rest) [.index k, a0, a1] rest 26 :=
  ⟨0, idx, kd, 2, tx, g_m_X0_placeOf, hi, hc, hk, mt_26, Or.inr rfl, by simp [ri_nn], rfl, rfl, hr, Or.inr ⟨0, fl, (RX0, TX0, 13), hs, rfl, beq_self_eq_true RX0⟩⟩
theorem ct_27 {a0 : Jvm.Term} {k : Nat} {fl : List (Option Jvm.Term)} (hi : ra_inst i = some (0, idx)) (hc : ri_cp (g_Gs n f) M idx = some (kd, 27, 1, tx)) (hk : kd = 20 ∨ kd = 30) (hs : g_sh[k]? = some (.inl (0, fl))) (hr : rest.length ≤ 4) : ra_ct (g_Gs n f) g_sh M i (a0 :: .index k :: rest) [.index k, a0] rest 27 :=
  ⟨0, idx, kd, 1, tx, g_m_X0_holderOf, hi, hc, hk, mt_27, Or.inr rfl, by simp [ri_nn], rfl, rfl, hr, Or.inr ⟨0, fl, (RX0, TX0, 13), hs, rfl, beq_self_eq_true RX0⟩⟩
theorem ct_28 {a0 a1 : Jvm.Term} {k : Nat} {fl : List (Option Jvm.Term)} (hi : ra_inst i = some (0, idx)) (hc : ri_cp (g_Gs n f) M idx = some (kd, 28, 2, tx)) (hk : kd = 20 ∨ kd = 30) (hs : g_sh[k]? = some (.inl (0, fl))) (hr : rest.length ≤ 4) : ra_ct (g_Gs n f) g_sh M i (a1 :: a0 :: .index k :: rest) [.index k, a0, a1] rest 28 :=
  ⟨0, idx, kd, 2, tx, g_m_X0_hasPlace, hi, hc, hk, mt_28, Or.inr rfl, by simp [ri_nn], rfl, rfl, hr, Or.inr ⟨0, fl, (RX0, TX0, 13), hs, rfl, beq_self_eq_true RX0⟩⟩
theorem ct_29 {a0 a1 a2 : Jvm.Term} {k : Nat} {fl : List (Option Jvm.Term)} (hi : ra_inst i = some (0, idx)) (hc : ri_cp (g_Gs n f) M idx = some (kd, 29, 3, tx)) (hk : kd = 20 ∨ kd = 30) (hs : g_sh[k]? = some (.inl (0, fl))) (hr : rest.length ≤ 4) : ra_ct (g_Gs n f) g_sh M i (a2 :: a1 :: a0 :: .index k :: rest) [.index k, a0, a1, a2] rest 29 :=
  ⟨0, idx, kd, 3, tx, g_m_X0_isPlaceOf, hi, hc, hk, mt_29, Or.inr rfl, by simp [ri_nn], rfl, rfl, hr, Or.inr ⟨0, fl, (RX0, TX0, 13), hs, rfl, beq_self_eq_true RX0⟩⟩
theorem ct_30 {a0 : Jvm.Term} {k : Nat} {fl : List (Option Jvm.Term)} (hi : ra_inst i = some (0, idx)) (hc : ri_cp (g_Gs n f) M idx = some (kd, 30, 1, tx)) (hk : kd = 20 ∨ kd = 30) (hs : g_sh[k]? = some (.inl (0, fl))) (hr : rest.length ≤ 4) : ra_ct (g_Gs n f) g_sh M i (a0 :: .index k :: rest) [.index k, a0] rest 30 :=
  ⟨0, idx, kd, 1, tx, g_m_X0_keepsWhole, hi, hc, hk, mt_30, Or.inr rfl, by simp [ri_nn], rfl, rfl, hr, Or.inr ⟨0, fl, (RX0, TX0, 13), hs, rfl, beq_self_eq_true RX0⟩⟩
theorem ct_31 {a0 : Jvm.Term} {k : Nat} {fl : List (Option Jvm.Term)} (hi : ra_inst i = some (0, idx)) (hc : ri_cp (g_Gs n f) M idx = some (kd, 31, 1, tx)) (hk : kd = 20 ∨ kd = 30) (hs : g_sh[k]? = some (.inl (0, fl))) (hr : rest.length ≤ 4) : ra_ct (g_Gs n f) g_sh M i (a0 :: .index k :: rest) [.index k, a0] rest 31 :=
  ⟨0, idx, kd, 1, tx, g_m_X0_leftOverOf, hi, hc, hk, mt_31, Or.inr rfl, by simp [ri_nn], rfl, rfl, hr, Or.inr ⟨0, fl, (RX0, TX0, 13), hs, rfl, beq_self_eq_true RX0⟩⟩
theorem ct_32 {k : Nat} {fl : List (Option Jvm.Term)} (hi : ra_inst i = some (0, idx)) (hc : ri_cp (g_Gs n f) M idx = some (kd, 32, 0, tx)) (hk : kd = 20 ∨ kd = 30) (hs : g_sh[k]? = some (.inl (0, fl))) (hr : rest.length ≤ 4) : ra_ct (g_Gs n f) g_sh M i (.index k :: rest) [.index k] rest 32 :=
  ⟨0, idx, kd, 0, tx, g_m_X0_wipeOut, hi, hc, hk, mt_32, Or.inr rfl, by simp [ri_nn], rfl, rfl, hr, Or.inr ⟨0, fl, (RX0, TX0, 13), hs, rfl, beq_self_eq_true RX0⟩⟩
theorem ct_33 {a0 a1 a2 a3 : Jvm.Term} {k : Nat} {fl : List (Option Jvm.Term)} (hi : ra_inst i = some (0, idx)) (hc : ri_cp (g_Gs n f) M idx = some (kd, 33, 4, tx)) (hk : kd = 20 ∨ kd = 30) (hs : g_sh[k]? = some (.inl (0, fl))) (hr : rest.length ≤ 4) : ra_ct (g_Gs n f) g_sh M i (a3 :: a2 :: a1 :: a0 :: .index k :: rest) [.index k, a0, a1, a2, a3] rest 33 :=
  ⟨0, idx, kd, 4, tx, g_m_X0_make, hi, hc, hk, mt_33, Or.inr rfl, by simp [ri_nn], rfl, rfl, hr, Or.inr ⟨0, fl, (RX0, TX0, 13), hs, rfl, beq_self_eq_true RX0⟩⟩
theorem ct_34 {a0 a1 : Jvm.Term} {k : Nat} {fl : List (Option Jvm.Term)} (hi : ra_inst i = some (0, idx)) (hc : ri_cp (g_Gs n f) M idx = some (kd, 34, 2, tx)) (hk : kd = 20 ∨ kd = 30) (hs : g_sh[k]? = some (.inl (0, fl))) (hr : rest.length ≤ 4) : ra_ct (g_Gs n f) g_sh M i (a1 :: a0 :: .index k :: rest) [.index k, a0, a1] rest 34 :=
  ⟨0, idx, kd, 2, tx, g_m_X0_giveSize, hi, hc, hk, mt_34, Or.inr rfl, by simp [ri_nn], rfl, rfl, hr, Or.inr ⟨0, fl, (RX0, TX0, 13), hs, rfl, beq_self_eq_true RX0⟩⟩
theorem ct_35 {a0 a1 a2 : Jvm.Term} {k : Nat} {fl : List (Option Jvm.Term)} (hi : ra_inst i = some (0, idx)) (hc : ri_cp (g_Gs n f) M idx = some (kd, 35, 3, tx)) (hk : kd = 20 ∨ kd = 30) (hs : g_sh[k]? = some (.inl (0, fl))) (hr : rest.length ≤ 4) : ra_ct (g_Gs n f) g_sh M i (a2 :: a1 :: a0 :: .index k :: rest) [.index k, a0, a1, a2] rest 35 :=
  ⟨0, idx, kd, 3, tx, g_m_X0_stepsOrNone, hi, hc, hk, mt_35, Or.inr rfl, by simp [ri_nn], rfl, rfl, hr, Or.inr ⟨0, fl, (RX0, TX0, 13), hs, rfl, beq_self_eq_true RX0⟩⟩
theorem ct_36 {a0 a1 : Jvm.Term} {k : Nat} {fl : List (Option Jvm.Term)} (hi : ra_inst i = some (0, idx)) (hc : ri_cp (g_Gs n f) M idx = some (kd, 36, 2, tx)) (hk : kd = 20 ∨ kd = 30) (hs : g_sh[k]? = some (.inl (0, fl))) (hr : rest.length ≤ 4) : ra_ct (g_Gs n f) g_sh M i (a1 :: a0 :: .index k :: rest) [.index k, a0, a1] rest 36 :=
  ⟨0, idx, kd, 2, tx, g_m_X0_beginMove, hi, hc, hk, mt_36, Or.inr rfl, by simp [ri_nn], rfl, rfl, hr, Or.inr ⟨0, fl, (RX0, TX0, 13), hs, rfl, beq_self_eq_true RX0⟩⟩
theorem ct_37 {a0 : Jvm.Term} {k : Nat} {fl : List (Option Jvm.Term)} (hi : ra_inst i = some (0, idx)) (hc : ri_cp (g_Gs n f) M idx = some (kd, 37, 1, tx)) (hk : kd = 20 ∨ kd = 30) (hs : g_sh[k]? = some (.inl (0, fl))) (hr : rest.length ≤ 4) : ra_ct (g_Gs n f) g_sh M i (a0 :: .index k :: rest) [.index k, a0] rest 37 :=
  ⟨0, idx, kd, 1, tx, g_m_X0_doSteps, hi, hc, hk, mt_37, Or.inr rfl, by simp [ri_nn], rfl, rfl, hr, Or.inr ⟨0, fl, (RX0, TX0, 13), hs, rfl, beq_self_eq_true RX0⟩⟩
theorem ct_38 {k : Nat} {fl : List (Option Jvm.Term)} (hi : ra_inst i = some (0, idx)) (hc : ri_cp (g_Gs n f) M idx = some (kd, 38, 0, tx)) (hk : kd = 20 ∨ kd = 30) (hs : g_sh[k]? = some (.inl (0, fl))) (hr : rest.length ≤ 4) : ra_ct (g_Gs n f) g_sh M i (.index k :: rest) [.index k] rest 38 :=
  ⟨0, idx, kd, 0, tx, g_m_X0_doStep, hi, hc, hk, mt_38, Or.inr rfl, by simp [ri_nn], rfl, rfl, hr, Or.inr ⟨0, fl, (RX0, TX0, 13), hs, rfl, beq_self_eq_true RX0⟩⟩
theorem ct_39 {k : Nat} {fl : List (Option Jvm.Term)} (hi : ra_inst i = some (0, idx)) (hc : ri_cp (g_Gs n f) M idx = some (kd, 39, 0, tx)) (hk : kd = 20 ∨ kd = 30) (hs : g_sh[k]? = some (.inl (0, fl))) (hr : rest.length ≤ 4) : ra_ct (g_Gs n f) g_sh M i (.index k :: rest) [.index k] rest 39 :=
  ⟨0, idx, kd, 0, tx, g_m_X0_tearStep, hi, hc, hk, mt_39, Or.inr rfl, by simp [ri_nn], rfl, rfl, hr, Or.inr ⟨0, fl, (RX0, TX0, 13), hs, rfl, beq_self_eq_true RX0⟩⟩
theorem ct_40 {a0 a1 a2 : Jvm.Term} {k : Nat} {fl : List (Option Jvm.Term)} (hi : ra_inst i = some (0, idx)) (hc : ri_cp (g_Gs n f) M idx = some (kd, 40, 3, tx)) (hk : kd = 20 ∨ kd = 30) (hs : g_sh[k]? = some (.inl (0, fl))) (hr : rest.length ≤ 4) : ra_ct (g_Gs n f) g_sh M i (a2 :: a1 :: a0 :: .index k :: rest) [.index k, a0, a1, a2] rest 40 :=
  ⟨0, idx, kd, 3, tx, g_m_X0_copySectors, hi, hc, hk, mt_40, Or.inr rfl, by simp [ri_nn], rfl, rfl, hr, Or.inr ⟨0, fl, (RX0, TX0, 13), hs, rfl, beq_self_eq_true RX0⟩⟩
theorem ct_41 {k : Nat} {fl : List (Option Jvm.Term)} (hi : ra_inst i = some (0, idx)) (hc : ri_cp (g_Gs n f) M idx = some (kd, 41, 0, tx)) (hk : kd = 20 ∨ kd = 30) (hs : g_sh[k]? = some (.inl (0, fl))) (hr : rest.length ≤ 4) : ra_ct (g_Gs n f) g_sh M i (.index k :: rest) [.index k] rest 41 :=
  ⟨0, idx, kd, 0, tx, g_m_X0_endMove, hi, hc, hk, mt_41, Or.inr rfl, by simp [ri_nn], rfl, rfl, hr, Or.inr ⟨0, fl, (RX0, TX0, 13), hs, rfl, beq_self_eq_true RX0⟩⟩
theorem ct_42 {k : Nat} {fl : List (Option Jvm.Term)} (hi : ra_inst i = some (0, idx)) (hc : ri_cp (g_Gs n f) M idx = some (kd, 42, 0, tx)) (hk : kd = 20 ∨ kd = 30) (hs : g_sh[k]? = some (.inl (0, fl))) (hr : rest.length ≤ 4) : ra_ct (g_Gs n f) g_sh M i (.index k :: rest) [.index k] rest 42 :=
  ⟨0, idx, kd, 0, tx, g_m_X0_turnMove, hi, hc, hk, mt_42, Or.inr rfl, by simp [ri_nn], rfl, rfl, hr, Or.inr ⟨0, fl, (RX0, TX0, 13), hs, rfl, beq_self_eq_true RX0⟩⟩
theorem ct_43 {a0 : Jvm.Term} {k : Nat} {fl : List (Option Jvm.Term)} (hi : ra_inst i = some (0, idx)) (hc : ri_cp (g_Gs n f) M idx = some (kd, 43, 1, tx)) (hk : kd = 20 ∨ kd = 30) (hs : g_sh[k]? = some (.inl (0, fl))) (hr : rest.length ≤ 4) : ra_ct (g_Gs n f) g_sh M i (a0 :: .index k :: rest) [.index k, a0] rest 43 :=
  ⟨0, idx, kd, 1, tx, g_m_X0_leastStart, hi, hc, hk, mt_43, Or.inr rfl, by simp [ri_nn], rfl, rfl, hr, Or.inr ⟨0, fl, (RX0, TX0, 13), hs, rfl, beq_self_eq_true RX0⟩⟩
theorem ct_44 {a0 : Jvm.Term} {k : Nat} {fl : List (Option Jvm.Term)} (hi : ra_inst i = some (0, idx)) (hc : ri_cp (g_Gs n f) M idx = some (kd, 44, 1, tx)) (hk : kd = 20 ∨ kd = 30) (hs : g_sh[k]? = some (.inl (0, fl))) (hr : rest.length ≤ 4) : ra_ct (g_Gs n f) g_sh M i (a0 :: .index k :: rest) [.index k, a0] rest 44 :=
  ⟨0, idx, kd, 1, tx, g_m_X0_greatestStart, hi, hc, hk, mt_44, Or.inr rfl, by simp [ri_nn], rfl, rfl, hr, Or.inr ⟨0, fl, (RX0, TX0, 13), hs, rfl, beq_self_eq_true RX0⟩⟩
theorem ct_45 {k : Nat} {fl : List (Option Jvm.Term)} (hi : ra_inst i = some (0, idx)) (hc : ri_cp (g_Gs n f) M idx = some (kd, 45, 0, tx)) (hk : kd = 20 ∨ kd = 30) (hs : g_sh[k]? = some (.inl (0, fl))) (hr : rest.length ≤ 4) : ra_ct (g_Gs n f) g_sh M i (.index k :: rest) [.index k] rest 45 :=
  ⟨0, idx, kd, 0, tx, g_m_X0_packLeft, hi, hc, hk, mt_45, Or.inr rfl, by simp [ri_nn], rfl, rfl, hr, Or.inr ⟨0, fl, (RX0, TX0, 13), hs, rfl, beq_self_eq_true RX0⟩⟩
theorem ct_46 {a0 a1 a2 : Jvm.Term} {k : Nat} {fl : List (Option Jvm.Term)} (hi : ra_inst i = some (0, idx)) (hc : ri_cp (g_Gs n f) M idx = some (kd, 46, 3, tx)) (hk : kd = 20 ∨ kd = 30) (hs : g_sh[k]? = some (.inl (0, fl))) (hr : rest.length ≤ 4) : ra_ct (g_Gs n f) g_sh M i (a2 :: a1 :: a0 :: .index k :: rest) [.index k, a0, a1, a2] rest 46 :=
  ⟨0, idx, kd, 3, tx, g_m_X0_bringsRoom, hi, hc, hk, mt_46, Or.inr rfl, by simp [ri_nn], rfl, rfl, hr, Or.inr ⟨0, fl, (RX0, TX0, 13), hs, rfl, beq_self_eq_true RX0⟩⟩
theorem ct_47 {k : Nat} {fl : List (Option Jvm.Term)} (hi : ra_inst i = some (2, idx)) (hc : ri_cp (g_Gs n f) M idx = some (kd, 47, 0, tx)) (hk : kd = 22 ∨ kd = 32) (hs : g_sh[k]? = some (.inl (1, fl))) (hr : rest.length ≤ 4) : ra_ct (g_Gs n f) g_sh M i (.index k :: rest) [.index k] rest 47 :=
  ⟨2, idx, kd, 0, tx, g_m_X1_init, hi, hc, hk, mt_47, Or.inr rfl, by simp [ri_nn], rfl, rfl, hr, Or.inr ⟨1, fl, (RX1, TX1, 4), hs, rfl, beq_self_eq_true RX1⟩⟩
theorem ct_48 {a0 : Jvm.Term} {k : Nat} {fl : List (Option Jvm.Term)} (hi : ra_inst i = some (0, idx)) (hc : ri_cp (g_Gs n f) M idx = some (kd, 48, 1, tx)) (hk : kd = 20 ∨ kd = 30) (hs : g_sh[k]? = some (.inl (1, fl))) (hr : rest.length ≤ 4) : ra_ct (g_Gs n f) g_sh M i (a0 :: .index k :: rest) [.index k, a0] rest 48 :=
  ⟨0, idx, kd, 1, tx, g_m_X1_find, hi, hc, hk, mt_48, Or.inr rfl, by simp [ri_nn], rfl, rfl, hr, Or.inr ⟨1, fl, (RX1, TX1, 4), hs, rfl, beq_self_eq_true RX1⟩⟩
theorem ct_49 {a0 a1 : Jvm.Term} {k : Nat} {fl : List (Option Jvm.Term)} (hi : ra_inst i = some (0, idx)) (hc : ri_cp (g_Gs n f) M idx = some (kd, 49, 2, tx)) (hk : kd = 20 ∨ kd = 30) (hs : g_sh[k]? = some (.inl (1, fl))) (hr : rest.length ≤ 4) : ra_ct (g_Gs n f) g_sh M i (a1 :: a0 :: .index k :: rest) [.index k, a0, a1] rest 49 :=
  ⟨0, idx, kd, 2, tx, g_m_X1_note, hi, hc, hk, mt_49, Or.inr rfl, by simp [ri_nn], rfl, rfl, hr, Or.inr ⟨1, fl, (RX1, TX1, 4), hs, rfl, beq_self_eq_true RX1⟩⟩
theorem ct_50 {a0 : Jvm.Term} {k : Nat} {fl : List (Option Jvm.Term)} (hi : ra_inst i = some (0, idx)) (hc : ri_cp (g_Gs n f) M idx = some (kd, 50, 1, tx)) (hk : kd = 20 ∨ kd = 30) (hs : g_sh[k]? = some (.inl (1, fl))) (hr : rest.length ≤ 4) : ra_ct (g_Gs n f) g_sh M i (a0 :: .index k :: rest) [.index k, a0] rest 50 :=
  ⟨0, idx, kd, 1, tx, g_m_X1_start, hi, hc, hk, mt_50, Or.inr rfl, by simp [ri_nn], rfl, rfl, hr, Or.inr ⟨1, fl, (RX1, TX1, 4), hs, rfl, beq_self_eq_true RX1⟩⟩
theorem ct_51 {a0 : Jvm.Term} {k : Nat} {fl : List (Option Jvm.Term)} (hi : ra_inst i = some (0, idx)) (hc : ri_cp (g_Gs n f) M idx = some (kd, 51, 1, tx)) (hk : kd = 20 ∨ kd = 30) (hs : g_sh[k]? = some (.inl (1, fl))) (hr : rest.length ≤ 4) : ra_ct (g_Gs n f) g_sh M i (a0 :: .index k :: rest) [.index k, a0] rest 51 :=
  ⟨0, idx, kd, 1, tx, g_m_X1_size, hi, hc, hk, mt_51, Or.inr rfl, by simp [ri_nn], rfl, rfl, hr, Or.inr ⟨1, fl, (RX1, TX1, 4), hs, rfl, beq_self_eq_true RX1⟩⟩
theorem ct_52 {a0 : Jvm.Term} {k : Nat} {fl : List (Option Jvm.Term)} (hi : ra_inst i = some (0, idx)) (hc : ri_cp (g_Gs n f) M idx = some (kd, 52, 1, tx)) (hk : kd = 20 ∨ kd = 30) (hs : g_sh[k]? = some (.inl (1, fl))) (hr : rest.length ≤ 4) : ra_ct (g_Gs n f) g_sh M i (a0 :: .index k :: rest) [.index k, a0] rest 52 :=
  ⟨0, idx, kd, 1, tx, g_m_X1_roomStart, hi, hc, hk, mt_52, Or.inr rfl, by simp [ri_nn], rfl, rfl, hr, Or.inr ⟨1, fl, (RX1, TX1, 4), hs, rfl, beq_self_eq_true RX1⟩⟩
theorem ct_53 {a0 : Jvm.Term} {k : Nat} {fl : List (Option Jvm.Term)} (hi : ra_inst i = some (0, idx)) (hc : ri_cp (g_Gs n f) M idx = some (kd, 53, 1, tx)) (hk : kd = 20 ∨ kd = 30) (hs : g_sh[k]? = some (.inl (1, fl))) (hr : rest.length ≤ 4) : ra_ct (g_Gs n f) g_sh M i (a0 :: .index k :: rest) [.index k, a0] rest 53 :=
  ⟨0, idx, kd, 1, tx, g_m_X1_room, hi, hc, hk, mt_53, Or.inr rfl, by simp [ri_nn], rfl, rfl, hr, Or.inr ⟨1, fl, (RX1, TX1, 4), hs, rfl, beq_self_eq_true RX1⟩⟩
theorem ct_54 {k : Nat} {fl : List (Option Jvm.Term)} (hi : ra_inst i = some (0, idx)) (hc : ri_cp (g_Gs n f) M idx = some (kd, 54, 0, tx)) (hk : kd = 20 ∨ kd = 30) (hs : g_sh[k]? = some (.inl (1, fl))) (hr : rest.length ≤ 4) : ra_ct (g_Gs n f) g_sh M i (.index k :: rest) [.index k] rest 54 :=
  ⟨0, idx, kd, 0, tx, g_m_X1_sectors, hi, hc, hk, mt_54, Or.inr rfl, by simp [ri_nn], rfl, rfl, hr, Or.inr ⟨1, fl, (RX1, TX1, 4), hs, rfl, beq_self_eq_true RX1⟩⟩
theorem ct_55 {k : Nat} {fl : List (Option Jvm.Term)} (hi : ra_inst i = some (0, idx)) (hc : ri_cp (g_Gs n f) M idx = some (kd, 55, 0, tx)) (hk : kd = 20 ∨ kd = 30) (hs : g_sh[k]? = some (.inl (1, fl))) (hr : rest.length ≤ 4) : ra_ct (g_Gs n f) g_sh M i (.index k :: rest) [.index k] rest 55 :=
  ⟨0, idx, kd, 0, tx, g_m_X1_sectorsOfRooms, hi, hc, hk, mt_55, Or.inr rfl, by simp [ri_nn], rfl, rfl, hr, Or.inr ⟨1, fl, (RX1, TX1, 4), hs, rfl, beq_self_eq_true RX1⟩⟩
theorem ct_56 {k : Nat} {fl : List (Option Jvm.Term)} (hi : ra_inst i = some (0, idx)) (hc : ri_cp (g_Gs n f) M idx = some (kd, 56, 0, tx)) (hk : kd = 20 ∨ kd = 30) (hs : g_sh[k]? = some (.inl (1, fl))) (hr : rest.length ≤ 4) : ra_ct (g_Gs n f) g_sh M i (.index k :: rest) [.index k] rest 56 :=
  ⟨0, idx, kd, 0, tx, g_m_X1_largest, hi, hc, hk, mt_56, Or.inr rfl, by simp [ri_nn], rfl, rfl, hr, Or.inr ⟨1, fl, (RX1, TX1, 4), hs, rfl, beq_self_eq_true RX1⟩⟩
theorem ct_57 {k : Nat} {fl : List (Option Jvm.Term)} (hi : ra_inst i = some (0, idx)) (hc : ri_cp (g_Gs n f) M idx = some (kd, 57, 0, tx)) (hk : kd = 20 ∨ kd = 30) (hs : g_sh[k]? = some (.inl (1, fl))) (hr : rest.length ≤ 4) : ra_ct (g_Gs n f) g_sh M i (.index k :: rest) [.index k] rest 57 :=
  ⟨0, idx, kd, 0, tx, g_m_X1_mostRoom, hi, hc, hk, mt_57, Or.inr rfl, by simp [ri_nn], rfl, rfl, hr, Or.inr ⟨1, fl, (RX1, TX1, 4), hs, rfl, beq_self_eq_true RX1⟩⟩
theorem ct_58 {a0 : Jvm.Term} {k : Nat} {fl : List (Option Jvm.Term)} (hi : ra_inst i = some (0, idx)) (hc : ri_cp (g_Gs n f) M idx = some (kd, 58, 1, tx)) (hk : kd = 20 ∨ kd = 30) (hs : g_sh[k]? = some (.inl (1, fl))) (hr : rest.length ≤ 4) : ra_ct (g_Gs n f) g_sh M i (a0 :: .index k :: rest) [.index k, a0] rest 58 :=
  ⟨0, idx, kd, 1, tx, g_m_X1_holding, hi, hc, hk, mt_58, Or.inr rfl, by simp [ri_nn], rfl, rfl, hr, Or.inr ⟨1, fl, (RX1, TX1, 4), hs, rfl, beq_self_eq_true RX1⟩⟩
theorem ct_59 {a0 a1 : Jvm.Term} {k : Nat} {fl : List (Option Jvm.Term)} (hi : ra_inst i = some (0, idx)) (hc : ri_cp (g_Gs n f) M idx = some (kd, 59, 2, tx)) (hk : kd = 20 ∨ kd = 30) (hs : g_sh[k]? = some (.inl (1, fl))) (hr : rest.length ≤ 4) : ra_ct (g_Gs n f) g_sh M i (a1 :: a0 :: .index k :: rest) [.index k, a0, a1] rest 59 :=
  ⟨0, idx, kd, 2, tx, g_m_X1_startFor, hi, hc, hk, mt_59, Or.inr rfl, by simp [ri_nn], rfl, rfl, hr, Or.inr ⟨1, fl, (RX1, TX1, 4), hs, rfl, beq_self_eq_true RX1⟩⟩
theorem ct_60 {a0 a1 a2 : Jvm.Term} {k : Nat} {fl : List (Option Jvm.Term)} (hi : ra_inst i = some (0, idx)) (hc : ri_cp (g_Gs n f) M idx = some (kd, 60, 3, tx)) (hk : kd = 20 ∨ kd = 30) (hs : g_sh[k]? = some (.inl (1, fl))) (hr : rest.length ≤ 4) : ra_ct (g_Gs n f) g_sh M i (a2 :: a1 :: a0 :: .index k :: rest) [.index k, a0, a1, a2] rest 60 :=
  ⟨0, idx, kd, 3, tx, g_m_X1_isBetter, hi, hc, hk, mt_60, Or.inr rfl, by simp [ri_nn], rfl, rfl, hr, Or.inr ⟨1, fl, (RX1, TX1, 4), hs, rfl, beq_self_eq_true RX1⟩⟩
theorem ct_61 {k : Nat} {fl : List (Option Jvm.Term)} (hi : ra_inst i = some (2, idx)) (hc : ri_cp (g_Gs n f) M idx = some (kd, 61, 0, tx)) (hk : kd = 22 ∨ kd = 32) (hs : g_sh[k]? = some (.inl (2, fl))) (hr : rest.length ≤ 4) : ra_ct (g_Gs n f) g_sh M i (.index k :: rest) [.index k] rest 61 :=
  ⟨2, idx, kd, 0, tx, g_m_X2_init, hi, hc, hk, mt_61, Or.inr rfl, by simp [ri_nn], rfl, rfl, hr, Or.inr ⟨2, fl, (RX2, TX2, 3), hs, rfl, beq_self_eq_true RX2⟩⟩
theorem ct_62 {a0 : Jvm.Term} {k : Nat} {fl : List (Option Jvm.Term)} (hi : ra_inst i = some (0, idx)) (hc : ri_cp (g_Gs n f) M idx = some (kd, 62, 1, tx)) (hk : kd = 20 ∨ kd = 30) (hs : g_sh[k]? = some (.inl (2, fl))) (hr : rest.length ≤ 4) : ra_ct (g_Gs n f) g_sh M i (a0 :: .index k :: rest) [.index k, a0] rest 62 :=
  ⟨0, idx, kd, 1, tx, g_m_X2_note, hi, hc, hk, mt_62, Or.inr rfl, by simp [ri_nn], rfl, rfl, hr, Or.inr ⟨2, fl, (RX2, TX2, 3), hs, rfl, beq_self_eq_true RX2⟩⟩
theorem ct_63 {a0 : Jvm.Term} {k : Nat} {fl : List (Option Jvm.Term)} (hi : ra_inst i = some (0, idx)) (hc : ri_cp (g_Gs n f) M idx = some (kd, 63, 1, tx)) (hk : kd = 20 ∨ kd = 30) (hs : g_sh[k]? = some (.inl (2, fl))) (hr : rest.length ≤ 4) : ra_ct (g_Gs n f) g_sh M i (a0 :: .index k :: rest) [.index k, a0] rest 63 :=
  ⟨0, idx, kd, 1, tx, g_m_X2_takeBack, hi, hc, hk, mt_63, Or.inr rfl, by simp [ri_nn], rfl, rfl, hr, Or.inr ⟨2, fl, (RX2, TX2, 3), hs, rfl, beq_self_eq_true RX2⟩⟩
theorem ct_64 {k : Nat} {fl : List (Option Jvm.Term)} (hi : ra_inst i = some (0, idx)) (hc : ri_cp (g_Gs n f) M idx = some (kd, 64, 0, tx)) (hk : kd = 20 ∨ kd = 30) (hs : g_sh[k]? = some (.inl (2, fl))) (hr : rest.length ≤ 4) : ra_ct (g_Gs n f) g_sh M i (.index k :: rest) [.index k] rest 64 :=
  ⟨0, idx, kd, 0, tx, g_m_X2_forget, hi, hc, hk, mt_64, Or.inr rfl, by simp [ri_nn], rfl, rfl, hr, Or.inr ⟨2, fl, (RX2, TX2, 3), hs, rfl, beq_self_eq_true RX2⟩⟩
theorem ct_65 {k : Nat} {fl : List (Option Jvm.Term)} (hi : ra_inst i = some (2, idx)) (hc : ri_cp (g_Gs n f) M idx = some (kd, 65, 0, tx)) (hk : kd = 22 ∨ kd = 32) (hs : g_sh[k]? = some (.inl (3, fl))) (hr : rest.length ≤ 4) : ra_ct (g_Gs n f) g_sh M i (.index k :: rest) [.index k] rest 65 :=
  ⟨2, idx, kd, 0, tx, g_m_X3_init, hi, hc, hk, mt_65, Or.inr rfl, by simp [ri_nn], rfl, rfl, hr, Or.inr ⟨3, fl, (RX3, TX3, 9), hs, rfl, beq_self_eq_true RX3⟩⟩
theorem ct_66 {a0 : Jvm.Term} {k : Nat} {fl : List (Option Jvm.Term)} (hi : ra_inst i = some (0, idx)) (hc : ri_cp (g_Gs n f) M idx = some (kd, 66, 1, tx)) (hk : kd = 20 ∨ kd = 30) (hs : g_sh[k]? = some (.inl (3, fl))) (hr : rest.length ≤ 4) : ra_ct (g_Gs n f) g_sh M i (a0 :: .index k :: rest) [.index k, a0] rest 66 :=
  ⟨0, idx, kd, 1, tx, g_m_X3_copyFrom, hi, hc, hk, mt_66, Or.inr rfl, by simp [ri_nn], rfl, rfl, hr, Or.inr ⟨3, fl, (RX3, TX3, 9), hs, rfl, beq_self_eq_true RX3⟩⟩
theorem ct_67 {k : Nat} {fl : List (Option Jvm.Term)} (hi : ra_inst i = some (0, idx)) (hc : ri_cp (g_Gs n f) M idx = some (kd, 67, 0, tx)) (hk : kd = 20 ∨ kd = 30) (hs : g_sh[k]? = some (.inl (3, fl))) (hr : rest.length ≤ 4) : ra_ct (g_Gs n f) g_sh M i (.index k :: rest) [.index k] rest 67 :=
  ⟨0, idx, kd, 0, tx, g_m_X3_isOn, hi, hc, hk, mt_67, Or.inr rfl, by simp [ri_nn], rfl, rfl, hr, Or.inr ⟨3, fl, (RX3, TX3, 9), hs, rfl, beq_self_eq_true RX3⟩⟩
theorem ct_68 {k : Nat} {fl : List (Option Jvm.Term)} (hi : ra_inst i = some (0, idx)) (hc : ri_cp (g_Gs n f) M idx = some (kd, 68, 0, tx)) (hk : kd = 20 ∨ kd = 30) (hs : g_sh[k]? = some (.inl (3, fl))) (hr : rest.length ≤ 4) : ra_ct (g_Gs n f) g_sh M i (.index k :: rest) [.index k] rest 68 :=
  ⟨0, idx, kd, 0, tx, g_m_X3_stop, hi, hc, hk, mt_68, Or.inr rfl, by simp [ri_nn], rfl, rfl, hr, Or.inr ⟨3, fl, (RX3, TX3, 9), hs, rfl, beq_self_eq_true RX3⟩⟩
theorem ct_69 {a0 : Jvm.Term} {k : Nat} {fl : List (Option Jvm.Term)} (hi : ra_inst i = some (0, idx)) (hc : ri_cp (g_Gs n f) M idx = some (kd, 69, 1, tx)) (hk : kd = 20 ∨ kd = 30) (hs : g_sh[k]? = some (.inl (3, fl))) (hr : rest.length ≤ 4) : ra_ct (g_Gs n f) g_sh M i (a0 :: .index k :: rest) [.index k, a0] rest 69 :=
  ⟨0, idx, kd, 1, tx, g_m_X3_lengthOf, hi, hc, hk, mt_69, Or.inr rfl, by simp [ri_nn], rfl, rfl, hr, Or.inr ⟨3, fl, (RX3, TX3, 9), hs, rfl, beq_self_eq_true RX3⟩⟩
theorem ct_70 {a0 : Jvm.Term} {k : Nat} {fl : List (Option Jvm.Term)} (hi : ra_inst i = some (0, idx)) (hc : ri_cp (g_Gs n f) M idx = some (kd, 70, 1, tx)) (hk : kd = 20 ∨ kd = 30) (hs : g_sh[k]? = some (.inl (3, fl))) (hr : rest.length ≤ 4) : ra_ct (g_Gs n f) g_sh M i (a0 :: .index k :: rest) [.index k, a0] rest 70 :=
  ⟨0, idx, kd, 1, tx, g_m_X3_isMovedChunk, hi, hc, hk, mt_70, Or.inr rfl, by simp [ri_nn], rfl, rfl, hr, Or.inr ⟨3, fl, (RX3, TX3, 9), hs, rfl, beq_self_eq_true RX3⟩⟩
theorem ct_71 {k : Nat} {fl : List (Option Jvm.Term)} (hi : ra_inst i = some (0, idx)) (hc : ri_cp (g_Gs n f) M idx = some (kd, 71, 0, tx)) (hk : kd = 20 ∨ kd = 30) (hs : g_sh[k]? = some (.inl (3, fl))) (hr : rest.length ≤ 4) : ra_ct (g_Gs n f) g_sh M i (.index k :: rest) [.index k] rest 71 :=
  ⟨0, idx, kd, 0, tx, g_m_X3_nextChunk, hi, hc, hk, mt_71, Or.inr rfl, by simp [ri_nn], rfl, rfl, hr, Or.inr ⟨3, fl, (RX3, TX3, 9), hs, rfl, beq_self_eq_true RX3⟩⟩
theorem ct_72 {k : Nat} {fl : List (Option Jvm.Term)} (hi : ra_inst i = some (0, idx)) (hc : ri_cp (g_Gs n f) M idx = some (kd, 72, 0, tx)) (hk : kd = 20 ∨ kd = 30) (hs : g_sh[k]? = some (.inl (3, fl))) (hr : rest.length ≤ 4) : ra_ct (g_Gs n f) g_sh M i (.index k :: rest) [.index k] rest 72 :=
  ⟨0, idx, kd, 0, tx, g_m_X3_firstBlock, hi, hc, hk, mt_72, Or.inr rfl, by simp [ri_nn], rfl, rfl, hr, Or.inr ⟨3, fl, (RX3, TX3, 9), hs, rfl, beq_self_eq_true RX3⟩⟩
theorem ct_73 {k : Nat} {fl : List (Option Jvm.Term)} (hi : ra_inst i = some (0, idx)) (hc : ri_cp (g_Gs n f) M idx = some (kd, 73, 0, tx)) (hk : kd = 20 ∨ kd = 30) (hs : g_sh[k]? = some (.inl (3, fl))) (hr : rest.length ≤ 4) : ra_ct (g_Gs n f) g_sh M i (.index k :: rest) [.index k] rest 73 :=
  ⟨0, idx, kd, 0, tx, g_m_X3_stepLength, hi, hc, hk, mt_73, Or.inr rfl, by simp [ri_nn], rfl, rfl, hr, Or.inr ⟨3, fl, (RX3, TX3, 9), hs, rfl, beq_self_eq_true RX3⟩⟩
theorem ct_74 {k : Nat} {fl : List (Option Jvm.Term)} (hi : ra_inst i = some (0, idx)) (hc : ri_cp (g_Gs n f) M idx = some (kd, 74, 0, tx)) (hk : kd = 20 ∨ kd = 30) (hs : g_sh[k]? = some (.inl (3, fl))) (hr : rest.length ≤ 4) : ra_ct (g_Gs n f) g_sh M i (.index k :: rest) [.index k] rest 74 :=
  ⟨0, idx, kd, 0, tx, g_m_X3_stepKind, hi, hc, hk, mt_74, Or.inr rfl, by simp [ri_nn], rfl, rfl, hr, Or.inr ⟨3, fl, (RX3, TX3, 9), hs, rfl, beq_self_eq_true RX3⟩⟩
theorem ct_75 {a0 : Jvm.Term} {k : Nat} {fl : List (Option Jvm.Term)} (hi : ra_inst i = some (0, idx)) (hc : ri_cp (g_Gs n f) M idx = some (kd, 75, 1, tx)) (hk : kd = 20 ∨ kd = 30) (hs : g_sh[k]? = some (.inl (3, fl))) (hr : rest.length ≤ 4) : ra_ct (g_Gs n f) g_sh M i (a0 :: .index k :: rest) [.index k, a0] rest 75 :=
  ⟨0, idx, kd, 1, tx, g_m_X3_stepSource, hi, hc, hk, mt_75, Or.inr rfl, by simp [ri_nn], rfl, rfl, hr, Or.inr ⟨3, fl, (RX3, TX3, 9), hs, rfl, beq_self_eq_true RX3⟩⟩
theorem ct_76 {a0 : Jvm.Term} {k : Nat} {fl : List (Option Jvm.Term)} (hi : ra_inst i = some (0, idx)) (hc : ri_cp (g_Gs n f) M idx = some (kd, 76, 1, tx)) (hk : kd = 20 ∨ kd = 30) (hs : g_sh[k]? = some (.inl (3, fl))) (hr : rest.length ≤ 4) : ra_ct (g_Gs n f) g_sh M i (a0 :: .index k :: rest) [.index k, a0] rest 76 :=
  ⟨0, idx, kd, 1, tx, g_m_X3_stepTarget, hi, hc, hk, mt_76, Or.inr rfl, by simp [ri_nn], rfl, rfl, hr, Or.inr ⟨3, fl, (RX3, TX3, 9), hs, rfl, beq_self_eq_true RX3⟩⟩
theorem ct_77 {a0 : Jvm.Term} {k : Nat} {fl : List (Option Jvm.Term)} (hi : ra_inst i = some (0, idx)) (hc : ri_cp (g_Gs n f) M idx = some (kd, 77, 1, tx)) (hk : kd = 20 ∨ kd = 30) (hs : g_sh[k]? = some (.inl (3, fl))) (hr : rest.length ≤ 4) : ra_ct (g_Gs n f) g_sh M i (a0 :: .index k :: rest) [.index k, a0] rest 77 :=
  ⟨0, idx, kd, 1, tx, g_m_X3_placeOfBlock, hi, hc, hk, mt_77, Or.inr rfl, by simp [ri_nn], rfl, rfl, hr, Or.inr ⟨3, fl, (RX3, TX3, 9), hs, rfl, beq_self_eq_true RX3⟩⟩
theorem ct_78 {k : Nat} {fl : List (Option Jvm.Term)} (hi : ra_inst i = some (0, idx)) (hc : ri_cp (g_Gs n f) M idx = some (kd, 78, 0, tx)) (hk : kd = 20 ∨ kd = 30) (hs : g_sh[k]? = some (.inl (3, fl))) (hr : rest.length ≤ 4) : ra_ct (g_Gs n f) g_sh M i (.index k :: rest) [.index k] rest 78 :=
  ⟨0, idx, kd, 0, tx, g_m_X3_blocksMoved, hi, hc, hk, mt_78, Or.inr rfl, by simp [ri_nn], rfl, rfl, hr, Or.inr ⟨3, fl, (RX3, TX3, 9), hs, rfl, beq_self_eq_true RX3⟩⟩
theorem ct_79 {k : Nat} {fl : List (Option Jvm.Term)} (hi : ra_inst i = some (0, idx)) (hc : ri_cp (g_Gs n f) M idx = some (kd, 79, 0, tx)) (hk : kd = 20 ∨ kd = 30) (hs : g_sh[k]? = some (.inl (3, fl))) (hr : rest.length ≤ 4) : ra_ct (g_Gs n f) g_sh M i (.index k :: rest) [.index k] rest 79 :=
  ⟨0, idx, kd, 0, tx, g_m_X3_stepsLeft, hi, hc, hk, mt_79, Or.inr rfl, by simp [ri_nn], rfl, rfl, hr, Or.inr ⟨3, fl, (RX3, TX3, 9), hs, rfl, beq_self_eq_true RX3⟩⟩
theorem ct_80 {k : Nat} {fl : List (Option Jvm.Term)} (hi : ra_inst i = some (0, idx)) (hc : ri_cp (g_Gs n f) M idx = some (kd, 80, 0, tx)) (hk : kd = 20 ∨ kd = 30) (hs : g_sh[k]? = some (.inl (3, fl))) (hr : rest.length ≤ 4) : ra_ct (g_Gs n f) g_sh M i (.index k :: rest) [.index k] rest 80 :=
  ⟨0, idx, kd, 0, tx, g_m_X3_scratchSize, hi, hc, hk, mt_80, Or.inr rfl, by simp [ri_nn], rfl, rfl, hr, Or.inr ⟨3, fl, (RX3, TX3, 9), hs, rfl, beq_self_eq_true RX3⟩⟩
theorem ct_81 {a0 a1 : Jvm.Term} {k : Nat} {fl : List (Option Jvm.Term)} (hi : ra_inst i = some (0, idx)) (hc : ri_cp (g_Gs n f) M idx = some (kd, 81, 2, tx)) (hk : kd = 20 ∨ kd = 30) (hs : g_sh[k]? = some (.inl (3, fl))) (hr : rest.length ≤ 4) : ra_ct (g_Gs n f) g_sh M i (a1 :: a0 :: .index k :: rest) [.index k, a0, a1] rest 81 :=
  ⟨0, idx, kd, 2, tx, g_m_X3_keepsBusy, hi, hc, hk, mt_81, Or.inr rfl, by simp [ri_nn], rfl, rfl, hr, Or.inr ⟨3, fl, (RX3, TX3, 9), hs, rfl, beq_self_eq_true RX3⟩⟩
theorem ct_82 {a0 : Jvm.Term} {k : Nat} {fl : List (Option Jvm.Term)} (hi : ra_inst i = some (0, idx)) (hc : ri_cp (g_Gs n f) M idx = some (kd, 82, 1, tx)) (hk : kd = 20 ∨ kd = 30) (hs : g_sh[k]? = some (.inl (3, fl))) (hr : rest.length ≤ 4) : ra_ct (g_Gs n f) g_sh M i (a0 :: .index k :: rest) [.index k, a0] rest 82 :=
  ⟨0, idx, kd, 1, tx, g_m_X3_endOfBusy, hi, hc, hk, mt_82, Or.inr rfl, by simp [ri_nn], rfl, rfl, hr, Or.inr ⟨3, fl, (RX3, TX3, 9), hs, rfl, beq_self_eq_true RX3⟩⟩
theorem ct_83 {a0 a1 : Jvm.Term} {k : Nat} {fl : List (Option Jvm.Term)} (hi : ra_inst i = some (0, idx)) (hc : ri_cp (g_Gs n f) M idx = some (kd, 83, 2, tx)) (hk : kd = 20 ∨ kd = 30) (hs : g_sh[k]? = some (.inl (3, fl))) (hr : rest.length ≤ 4) : ra_ct (g_Gs n f) g_sh M i (a1 :: a0 :: .index k :: rest) [.index k, a0, a1] rest 83 :=
  ⟨0, idx, kd, 2, tx, g_m_X3_nextBusy, hi, hc, hk, mt_83, Or.inr rfl, by simp [ri_nn], rfl, rfl, hr, Or.inr ⟨3, fl, (RX3, TX3, 9), hs, rfl, beq_self_eq_true RX3⟩⟩
theorem ct_84 {k : Nat} {fl : List (Option Jvm.Term)} (hi : ra_inst i = some (2, idx)) (hc : ri_cp (g_Gs n f) M idx = some (kd, 84, 0, tx)) (hk : kd = 22 ∨ kd = 32) (hs : g_sh[k]? = some (.inl (4, fl))) (hr : rest.length ≤ 4) : ra_ct (g_Gs n f) g_sh M i (.index k :: rest) [.index k] rest 84 :=
  ⟨2, idx, kd, 0, tx, g_m_X4_init, hi, hc, hk, mt_84, Or.inr rfl, by simp [ri_nn], rfl, rfl, hr, Or.inr ⟨4, fl, (RX4, TX4, 2), hs, rfl, beq_self_eq_true RX4⟩⟩
theorem ct_85 {k : Nat} {fl : List (Option Jvm.Term)} (hi : ra_inst i = some (0, idx)) (hc : ri_cp (g_Gs n f) M idx = some (kd, 85, 0, tx)) (hk : kd = 20 ∨ kd = 30) (hs : g_sh[k]? = some (.inl (4, fl))) (hr : rest.length ≤ 4) : ra_ct (g_Gs n f) g_sh M i (.index k :: rest) [.index k] rest 85 :=
  ⟨0, idx, kd, 0, tx, g_m_X4_empty, hi, hc, hk, mt_85, Or.inr rfl, by simp [ri_nn], rfl, rfl, hr, Or.inr ⟨4, fl, (RX4, TX4, 2), hs, rfl, beq_self_eq_true RX4⟩⟩
theorem ct_86 {a0 : Jvm.Term} {k : Nat} {fl : List (Option Jvm.Term)} (hi : ra_inst i = some (0, idx)) (hc : ri_cp (g_Gs n f) M idx = some (kd, 86, 1, tx)) (hk : kd = 20 ∨ kd = 30) (hs : g_sh[k]? = some (.inl (4, fl))) (hr : rest.length ≤ 4) : ra_ct (g_Gs n f) g_sh M i (a0 :: .index k :: rest) [.index k, a0] rest 86 :=
  ⟨0, idx, kd, 1, tx, g_m_X4_putSign, hi, hc, hk, mt_86, Or.inr rfl, by simp [ri_nn], rfl, rfl, hr, Or.inr ⟨4, fl, (RX4, TX4, 2), hs, rfl, beq_self_eq_true RX4⟩⟩
theorem ct_87 {a0 : Jvm.Term} {k : Nat} {fl : List (Option Jvm.Term)} (hi : ra_inst i = some (0, idx)) (hc : ri_cp (g_Gs n f) M idx = some (kd, 87, 1, tx)) (hk : kd = 20 ∨ kd = 30) (hs : g_sh[k]? = some (.inl (4, fl))) (hr : rest.length ≤ 4) : ra_ct (g_Gs n f) g_sh M i (a0 :: .index k :: rest) [.index k, a0] rest 87 :=
  ⟨0, idx, kd, 1, tx, g_m_X4_putNumber, hi, hc, hk, mt_87, Or.inr rfl, by simp [ri_nn], rfl, rfl, hr, Or.inr ⟨4, fl, (RX4, TX4, 2), hs, rfl, beq_self_eq_true RX4⟩⟩
theorem ct_88 {a0 a1 : Jvm.Term} {k : Nat} {fl : List (Option Jvm.Term)} (hi : ra_inst i = some (0, idx)) (hc : ri_cp (g_Gs n f) M idx = some (kd, 88, 2, tx)) (hk : kd = 20 ∨ kd = 30) (hs : g_sh[k]? = some (.inl (4, fl))) (hr : rest.length ≤ 4) : ra_ct (g_Gs n f) g_sh M i (a1 :: a0 :: .index k :: rest) [.index k, a0, a1] rest 88 :=
  ⟨0, idx, kd, 2, tx, g_m_X4_putPart, hi, hc, hk, mt_88, Or.inr rfl, by simp [ri_nn], rfl, rfl, hr, Or.inr ⟨4, fl, (RX4, TX4, 2), hs, rfl, beq_self_eq_true RX4⟩⟩
theorem ct_89 {a0 : Jvm.Term} {k : Nat} {fl : List (Option Jvm.Term)} (hi : ra_inst i = some (0, idx)) (hc : ri_cp (g_Gs n f) M idx = some (kd, 89, 1, tx)) (hk : kd = 20 ∨ kd = 30) (hs : g_sh[k]? = some (.inl (4, fl))) (hr : rest.length ≤ 4) : ra_ct (g_Gs n f) g_sh M i (a0 :: .index k :: rest) [.index k, a0] rest 89 :=
  ⟨0, idx, kd, 1, tx, g_m_X4_byteAt, hi, hc, hk, mt_89, Or.inr rfl, by simp [ri_nn], rfl, rfl, hr, Or.inr ⟨4, fl, (RX4, TX4, 2), hs, rfl, beq_self_eq_true RX4⟩⟩
theorem ct_90 {a0 : Jvm.Term} {k : Nat} {fl : List (Option Jvm.Term)} (hi : ra_inst i = some (2, idx)) (hc : ri_cp (g_Gs n f) M idx = some (kd, 90, 1, tx)) (hk : kd = 22 ∨ kd = 32) (hs : g_sh[k]? = some (.inl (5, fl))) (hr : rest.length ≤ 4) : ra_ct (g_Gs n f) g_sh M i (a0 :: .index k :: rest) [.index k, a0] rest 90 :=
  ⟨2, idx, kd, 1, tx, g_m_X5_init, hi, hc, hk, mt_90, Or.inr rfl, by simp [ri_nn], rfl, rfl, hr, Or.inr ⟨5, fl, (RX5, TX5, 8), hs, rfl, beq_self_eq_true RX5⟩⟩
theorem ct_91 {a0 : Jvm.Term} {k : Nat} {fl : List (Option Jvm.Term)} (hi : ra_inst i = some (0, idx)) (hc : ri_cp (g_Gs n f) M idx = some (kd, 91, 1, tx)) (hk : kd = 20 ∨ kd = 30) (hs : g_sh[k]? = some (.inl (5, fl))) (hr : rest.length ≤ 4) : ra_ct (g_Gs n f) g_sh M i (a0 :: .index k :: rest) [.index k, a0] rest 91 :=
  ⟨0, idx, kd, 1, tx, g_m_X5_copyFrom, hi, hc, hk, mt_91, Or.inr rfl, by simp [ri_nn], rfl, rfl, hr, Or.inr ⟨5, fl, (RX5, TX5, 8), hs, rfl, beq_self_eq_true RX5⟩⟩
theorem ct_92 {k : Nat} {fl : List (Option Jvm.Term)} (hi : ra_inst i = some (0, idx)) (hc : ri_cp (g_Gs n f) M idx = some (kd, 92, 0, tx)) (hk : kd = 20 ∨ kd = 30) (hs : g_sh[k]? = some (.inl (5, fl))) (hr : rest.length ≤ 4) : ra_ct (g_Gs n f) g_sh M i (.index k :: rest) [.index k] rest 92 :=
  ⟨0, idx, kd, 0, tx, g_m_X5_stands, hi, hc, hk, mt_92, Or.inr rfl, by simp [ri_nn], rfl, rfl, hr, Or.inr ⟨5, fl, (RX5, TX5, 8), hs, rfl, beq_self_eq_true RX5⟩⟩
theorem ct_93 {k : Nat} {fl : List (Option Jvm.Term)} (hi : ra_inst i = some (0, idx)) (hc : ri_cp (g_Gs n f) M idx = some (kd, 93, 0, tx)) (hk : kd = 20 ∨ kd = 30) (hs : g_sh[k]? = some (.inl (5, fl))) (hr : rest.length ≤ 4) : ra_ct (g_Gs n f) g_sh M i (.index k :: rest) [.index k] rest 93 :=
  ⟨0, idx, kd, 0, tx, g_m_X5_end, hi, hc, hk, mt_93, Or.inr rfl, by simp [ri_nn], rfl, rfl, hr, Or.inr ⟨5, fl, (RX5, TX5, 8), hs, rfl, beq_self_eq_true RX5⟩⟩
theorem ct_94 {a0 : Jvm.Term} {k : Nat} {fl : List (Option Jvm.Term)} (hi : ra_inst i = some (0, idx)) (hc : ri_cp (g_Gs n f) M idx = some (kd, 94, 1, tx)) (hk : kd = 20 ∨ kd = 30) (hs : g_sh[k]? = some (.inl (5, fl))) (hr : rest.length ≤ 4) : ra_ct (g_Gs n f) g_sh M i (a0 :: .index k :: rest) [.index k, a0] rest 94 :=
  ⟨0, idx, kd, 1, tx, g_m_X5_numberOf, hi, hc, hk, mt_94, Or.inr rfl, by simp [ri_nn], rfl, rfl, hr, Or.inr ⟨5, fl, (RX5, TX5, 8), hs, rfl, beq_self_eq_true RX5⟩⟩
theorem ct_95 {a0 a1 : Jvm.Term} {k : Nat} {fl : List (Option Jvm.Term)} (hi : ra_inst i = some (0, idx)) (hc : ri_cp (g_Gs n f) M idx = some (kd, 95, 2, tx)) (hk : kd = 20 ∨ kd = 30) (hs : g_sh[k]? = some (.inl (5, fl))) (hr : rest.length ≤ 4) : ra_ct (g_Gs n f) g_sh M i (a1 :: a0 :: .index k :: rest) [.index k, a0, a1] rest 95 :=
  ⟨0, idx, kd, 2, tx, g_m_X5_meetsArea, hi, hc, hk, mt_95, Or.inr rfl, by simp [ri_nn], rfl, rfl, hr, Or.inr ⟨5, fl, (RX5, TX5, 8), hs, rfl, beq_self_eq_true RX5⟩⟩
theorem ct_96 {k : Nat} {fl : List (Option Jvm.Term)} (hi : ra_inst i = some (2, idx)) (hc : ri_cp (g_Gs n f) M idx = some (kd, 96, 0, tx)) (hk : kd = 22 ∨ kd = 32) (hs : g_sh[k]? = some (.inl (6, fl))) (hr : rest.length ≤ 4) : ra_ct (g_Gs n f) g_sh M i (.index k :: rest) [.index k] rest 96 :=
  ⟨2, idx, kd, 0, tx, g_m_X6_init, hi, hc, hk, mt_96, Or.inr rfl, by simp [ri_nn], rfl, rfl, hr, Or.inr ⟨6, fl, (RX6, TX6, 12), hs, rfl, beq_self_eq_true RX6⟩⟩
theorem ct_97 {a0 : Jvm.Term} {k : Nat} {fl : List (Option Jvm.Term)} (hi : ra_inst i = some (0, idx)) (hc : ri_cp (g_Gs n f) M idx = some (kd, 97, 1, tx)) (hk : kd = 20 ∨ kd = 30) (hs : g_sh[k]? = some (.inl (6, fl))) (hr : rest.length ≤ 4) : ra_ct (g_Gs n f) g_sh M i (a0 :: .index k :: rest) [.index k, a0] rest 97 :=
  ⟨0, idx, kd, 1, tx, g_m_X6_hasRoomFor, hi, hc, hk, mt_97, Or.inr rfl, by simp [ri_nn], rfl, rfl, hr, Or.inr ⟨6, fl, (RX6, TX6, 12), hs, rfl, beq_self_eq_true RX6⟩⟩
theorem ct_98 {a0 : Jvm.Term} {k : Nat} {fl : List (Option Jvm.Term)} (hi : ra_inst i = some (0, idx)) (hc : ri_cp (g_Gs n f) M idx = some (kd, 98, 1, tx)) (hk : kd = 20 ∨ kd = 30) (hs : g_sh[k]? = some (.inl (6, fl))) (hr : rest.length ≤ 4) : ra_ct (g_Gs n f) g_sh M i (a0 :: .index k :: rest) [.index k, a0] rest 98 :=
  ⟨0, idx, kd, 1, tx, g_m_X6_putBytes, hi, hc, hk, mt_98, Or.inr rfl, by simp [ri_nn], rfl, rfl, hr, Or.inr ⟨6, fl, (RX6, TX6, 12), hs, rfl, beq_self_eq_true RX6⟩⟩
theorem ct_99 {a0 : Jvm.Term} {k : Nat} {fl : List (Option Jvm.Term)} (hi : ra_inst i = some (0, idx)) (hc : ri_cp (g_Gs n f) M idx = some (kd, 99, 1, tx)) (hk : kd = 20 ∨ kd = 30) (hs : g_sh[k]? = some (.inl (6, fl))) (hr : rest.length ≤ 4) : ra_ct (g_Gs n f) g_sh M i (a0 :: .index k :: rest) [.index k, a0] rest 99 :=
  ⟨0, idx, kd, 1, tx, g_m_X6_parseInto, hi, hc, hk, mt_99, Or.inr rfl, by simp [ri_nn], rfl, rfl, hr, Or.inr ⟨6, fl, (RX6, TX6, 12), hs, rfl, beq_self_eq_true RX6⟩⟩
theorem ct_100 {a0 : Jvm.Term} {k : Nat} {fl : List (Option Jvm.Term)} (hi : ra_inst i = some (0, idx)) (hc : ri_cp (g_Gs n f) M idx = some (kd, 100, 1, tx)) (hk : kd = 20 ∨ kd = 30) (hs : g_sh[k]? = some (.inl (6, fl))) (hr : rest.length ≤ 4) : ra_ct (g_Gs n f) g_sh M i (a0 :: .index k :: rest) [.index k, a0] rest 100 :=
  ⟨0, idx, kd, 1, tx, g_m_X6_statement, hi, hc, hk, mt_100, Or.inr rfl, by simp [ri_nn], rfl, rfl, hr, Or.inr ⟨6, fl, (RX6, TX6, 12), hs, rfl, beq_self_eq_true RX6⟩⟩
theorem ct_101 {a0 : Jvm.Term} {k : Nat} {fl : List (Option Jvm.Term)} (hi : ra_inst i = some (0, idx)) (hc : ri_cp (g_Gs n f) M idx = some (kd, 101, 1, tx)) (hk : kd = 20 ∨ kd = 30) (hs : g_sh[k]? = some (.inl (6, fl))) (hr : rest.length ≤ 4) : ra_ct (g_Gs n f) g_sh M i (a0 :: .index k :: rest) [.index k, a0] rest 101 :=
  ⟨0, idx, kd, 1, tx, g_m_X6_layout, hi, hc, hk, mt_101, Or.inr rfl, by simp [ri_nn], rfl, rfl, hr, Or.inr ⟨6, fl, (RX6, TX6, 12), hs, rfl, beq_self_eq_true RX6⟩⟩
theorem ct_102 {a0 : Jvm.Term} {k : Nat} {fl : List (Option Jvm.Term)} (hi : ra_inst i = some (0, idx)) (hc : ri_cp (g_Gs n f) M idx = some (kd, 102, 1, tx)) (hk : kd = 20 ∨ kd = 30) (hs : g_sh[k]? = some (.inl (6, fl))) (hr : rest.length ≤ 4) : ra_ct (g_Gs n f) g_sh M i (a0 :: .index k :: rest) [.index k, a0] rest 102 :=
  ⟨0, idx, kd, 1, tx, g_m_X6_chunking, hi, hc, hk, mt_102, Or.inr rfl, by simp [ri_nn], rfl, rfl, hr, Or.inr ⟨6, fl, (RX6, TX6, 12), hs, rfl, beq_self_eq_true RX6⟩⟩
theorem ct_103 {a0 : Jvm.Term} {k : Nat} {fl : List (Option Jvm.Term)} (hi : ra_inst i = some (0, idx)) (hc : ri_cp (g_Gs n f) M idx = some (kd, 103, 1, tx)) (hk : kd = 20 ∨ kd = 30) (hs : g_sh[k]? = some (.inl (6, fl))) (hr : rest.length ≤ 4) : ra_ct (g_Gs n f) g_sh M i (a0 :: .index k :: rest) [.index k, a0] rest 103 :=
  ⟨0, idx, kd, 1, tx, g_m_X6_partition, hi, hc, hk, mt_103, Or.inr rfl, by simp [ri_nn], rfl, rfl, hr, Or.inr ⟨6, fl, (RX6, TX6, 12), hs, rfl, beq_self_eq_true RX6⟩⟩
theorem ct_104 {a0 : Jvm.Term} {k : Nat} {fl : List (Option Jvm.Term)} (hi : ra_inst i = some (0, idx)) (hc : ri_cp (g_Gs n f) M idx = some (kd, 104, 1, tx)) (hk : kd = 20 ∨ kd = 30) (hs : g_sh[k]? = some (.inl (6, fl))) (hr : rest.length ≤ 4) : ra_ct (g_Gs n f) g_sh M i (a0 :: .index k :: rest) [.index k, a0] rest 104 :=
  ⟨0, idx, kd, 1, tx, g_m_X6_locking, hi, hc, hk, mt_104, Or.inr rfl, by simp [ri_nn], rfl, rfl, hr, Or.inr ⟨6, fl, (RX6, TX6, 12), hs, rfl, beq_self_eq_true RX6⟩⟩
theorem ct_105 {k : Nat} {fl : List (Option Jvm.Term)} (hi : ra_inst i = some (0, idx)) (hc : ri_cp (g_Gs n f) M idx = some (kd, 105, 0, tx)) (hk : kd = 20 ∨ kd = 30) (hs : g_sh[k]? = some (.inl (6, fl))) (hr : rest.length ≤ 4) : ra_ct (g_Gs n f) g_sh M i (.index k :: rest) [.index k] rest 105 :=
  ⟨0, idx, kd, 0, tx, g_m_X6_semicolon, hi, hc, hk, mt_105, Or.inr rfl, by simp [ri_nn], rfl, rfl, hr, Or.inr ⟨6, fl, (RX6, TX6, 12), hs, rfl, beq_self_eq_true RX6⟩⟩
theorem ct_106 {a0 a1 : Jvm.Term} {k : Nat} {fl : List (Option Jvm.Term)} (hi : ra_inst i = some (0, idx)) (hc : ri_cp (g_Gs n f) M idx = some (kd, 106, 2, tx)) (hk : kd = 20 ∨ kd = 30) (hs : g_sh[k]? = some (.inl (6, fl))) (hr : rest.length ≤ 4) : ra_ct (g_Gs n f) g_sh M i (a1 :: a0 :: .index k :: rest) [.index k, a0, a1] rest 106 :=
  ⟨0, idx, kd, 2, tx, g_m_X6_number, hi, hc, hk, mt_106, Or.inr rfl, by simp [ri_nn], rfl, rfl, hr, Or.inr ⟨6, fl, (RX6, TX6, 12), hs, rfl, beq_self_eq_true RX6⟩⟩
theorem ct_107 {a0 : Jvm.Term} {k : Nat} {fl : List (Option Jvm.Term)} (hi : ra_inst i = some (0, idx)) (hc : ri_cp (g_Gs n f) M idx = some (kd, 107, 1, tx)) (hk : kd = 20 ∨ kd = 30) (hs : g_sh[k]? = some (.inl (6, fl))) (hr : rest.length ≤ 4) : ra_ct (g_Gs n f) g_sh M i (a0 :: .index k :: rest) [.index k, a0] rest 107 :=
  ⟨0, idx, kd, 1, tx, g_m_X6_fail, hi, hc, hk, mt_107, Or.inr rfl, by simp [ri_nn], rfl, rfl, hr, Or.inr ⟨6, fl, (RX6, TX6, 12), hs, rfl, beq_self_eq_true RX6⟩⟩
theorem ct_108 {a0 : Jvm.Term} {k : Nat} {fl : List (Option Jvm.Term)} (hi : ra_inst i = some (0, idx)) (hc : ri_cp (g_Gs n f) M idx = some (kd, 108, 1, tx)) (hk : kd = 20 ∨ kd = 30) (hs : g_sh[k]? = some (.inl (6, fl))) (hr : rest.length ≤ 4) : ra_ct (g_Gs n f) g_sh M i (a0 :: .index k :: rest) [.index k, a0] rest 108 :=
  ⟨0, idx, kd, 1, tx, g_m_X6_byteAt, hi, hc, hk, mt_108, Or.inr rfl, by simp [ri_nn], rfl, rfl, hr, Or.inr ⟨6, fl, (RX6, TX6, 12), hs, rfl, beq_self_eq_true RX6⟩⟩
theorem ct_109 {a0 : Jvm.Term} (hi : ra_inst i = some (1, idx)) (hc : ri_cp (g_Gs n f) M idx = some (kd, 109, 1, tx)) (hk : kd = 21 ∨ (kd = 31 ∧ (ri_hh g_m_X6_isLetter).isEmpty = true)) (hr : rest.length ≤ 4) : ra_ct (g_Gs n f) g_sh M i (a0 :: rest) [a0] rest 109 :=
  ⟨1, idx, kd, 1, tx, g_m_X6_isLetter, hi, hc, by rcases hk with h | h <;> omega, mt_109, by rcases hk with h | h; exact Or.inl h; exact Or.inr h.2, by simp [ri_nn], rfl, rfl, hr, Or.inl rfl⟩
theorem ct_110 {a0 : Jvm.Term} (hi : ra_inst i = some (1, idx)) (hc : ri_cp (g_Gs n f) M idx = some (kd, 110, 1, tx)) (hk : kd = 21 ∨ (kd = 31 ∧ (ri_hh g_m_X6_isDigit).isEmpty = true)) (hr : rest.length ≤ 4) : ra_ct (g_Gs n f) g_sh M i (a0 :: rest) [a0] rest 110 :=
  ⟨1, idx, kd, 1, tx, g_m_X6_isDigit, hi, hc, by rcases hk with h | h <;> omega, mt_110, by rcases hk with h | h; exact Or.inl h; exact Or.inr h.2, by simp [ri_nn], rfl, rfl, hr, Or.inl rfl⟩
theorem ct_111 {k : Nat} {fl : List (Option Jvm.Term)} (hi : ra_inst i = some (0, idx)) (hc : ri_cp (g_Gs n f) M idx = some (kd, 111, 0, tx)) (hk : kd = 20 ∨ kd = 30) (hs : g_sh[k]? = some (.inl (6, fl))) (hr : rest.length ≤ 4) : ra_ct (g_Gs n f) g_sh M i (.index k :: rest) [.index k] rest 111 :=
  ⟨0, idx, kd, 0, tx, g_m_X6_next, hi, hc, hk, mt_111, Or.inr rfl, by simp [ri_nn], rfl, rfl, hr, Or.inr ⟨6, fl, (RX6, TX6, 12), hs, rfl, beq_self_eq_true RX6⟩⟩
theorem ct_112 {a0 : Jvm.Term} {k : Nat} {fl : List (Option Jvm.Term)} (hi : ra_inst i = some (0, idx)) (hc : ri_cp (g_Gs n f) M idx = some (kd, 112, 1, tx)) (hk : kd = 20 ∨ kd = 30) (hs : g_sh[k]? = some (.inl (6, fl))) (hr : rest.length ≤ 4) : ra_ct (g_Gs n f) g_sh M i (a0 :: .index k :: rest) [.index k, a0] rest 112 :=
  ⟨0, idx, kd, 1, tx, g_m_X6_isWord, hi, hc, hk, mt_112, Or.inr rfl, by simp [ri_nn], rfl, rfl, hr, Or.inr ⟨6, fl, (RX6, TX6, 12), hs, rfl, beq_self_eq_true RX6⟩⟩
theorem ct_113 {k : Nat} {fl : List (Option Jvm.Term)} (hi : ra_inst i = some (2, idx)) (hc : ri_cp (g_Gs n f) M idx = some (kd, 113, 0, tx)) (hk : kd = 22 ∨ kd = 32) (hs : g_sh[k]? = some (.inl (7, fl))) (hr : rest.length ≤ 4) : ra_ct (g_Gs n f) g_sh M i (.index k :: rest) [.index k] rest 113 :=
  ⟨2, idx, kd, 0, tx, g_m_X7_init, hi, hc, hk, mt_113, Or.inr rfl, by simp [ri_nn], rfl, rfl, hr, Or.inr ⟨7, fl, (RX7, TX7, 8), hs, rfl, beq_self_eq_true RX7⟩⟩
theorem ct_114 {a0 a1 a2 a3 a4 : Jvm.Term} {k : Nat} {fl : List (Option Jvm.Term)} (hi : ra_inst i = some (0, idx)) (hc : ri_cp (g_Gs n f) M idx = some (kd, 114, 5, tx)) (hk : kd = 20 ∨ kd = 30) (hs : g_sh[k]? = some (.inl (7, fl))) (hr : rest.length ≤ 4) : ra_ct (g_Gs n f) g_sh M i (a4 :: a3 :: a2 :: a1 :: a0 :: .index k :: rest) [.index k, a0, a1, a2, a3, a4] rest 114 :=
  ⟨0, idx, kd, 5, tx, g_m_X7_appendInput, hi, hc, hk, mt_114, Or.inr rfl, by simp [ri_nn], rfl, rfl, hr, Or.inr ⟨7, fl, (RX7, TX7, 8), hs, rfl, beq_self_eq_true RX7⟩⟩
theorem ct_115 {a0 : Jvm.Term} {k : Nat} {fl : List (Option Jvm.Term)} (hi : ra_inst i = some (0, idx)) (hc : ri_cp (g_Gs n f) M idx = some (kd, 115, 1, tx)) (hk : kd = 20 ∨ kd = 30) (hs : g_sh[k]? = some (.inl (7, fl))) (hr : rest.length ≤ 4) : ra_ct (g_Gs n f) g_sh M i (a0 :: .index k :: rest) [.index k, a0] rest 115 :=
  ⟨0, idx, kd, 1, tx, g_m_X7_truncateInput, hi, hc, hk, mt_115, Or.inr rfl, by simp [ri_nn], rfl, rfl, hr, Or.inr ⟨7, fl, (RX7, TX7, 8), hs, rfl, beq_self_eq_true RX7⟩⟩
theorem ct_116 {k : Nat} {fl : List (Option Jvm.Term)} (hi : ra_inst i = some (0, idx)) (hc : ri_cp (g_Gs n f) M idx = some (kd, 116, 0, tx)) (hk : kd = 20 ∨ kd = 30) (hs : g_sh[k]? = some (.inl (7, fl))) (hr : rest.length ≤ 4) : ra_ct (g_Gs n f) g_sh M i (.index k :: rest) [.index k] rest 116 :=
  ⟨0, idx, kd, 0, tx, g_m_X7_loadDisk, hi, hc, hk, mt_116, Or.inr rfl, by simp [ri_nn], rfl, rfl, hr, Or.inr ⟨7, fl, (RX7, TX7, 8), hs, rfl, beq_self_eq_true RX7⟩⟩
theorem ct_117 {k : Nat} {fl : List (Option Jvm.Term)} (hi : ra_inst i = some (0, idx)) (hc : ri_cp (g_Gs n f) M idx = some (kd, 117, 0, tx)) (hk : kd = 20 ∨ kd = 30) (hs : g_sh[k]? = some (.inl (7, fl))) (hr : rest.length ≤ 4) : ra_ct (g_Gs n f) g_sh M i (.index k :: rest) [.index k] rest 117 :=
  ⟨0, idx, kd, 0, tx, g_m_X7_errorCode, hi, hc, hk, mt_117, Or.inr rfl, by simp [ri_nn], rfl, rfl, hr, Or.inr ⟨7, fl, (RX7, TX7, 8), hs, rfl, beq_self_eq_true RX7⟩⟩
theorem ct_118 {k : Nat} {fl : List (Option Jvm.Term)} (hi : ra_inst i = some (0, idx)) (hc : ri_cp (g_Gs n f) M idx = some (kd, 118, 0, tx)) (hk : kd = 20 ∨ kd = 30) (hs : g_sh[k]? = some (.inl (7, fl))) (hr : rest.length ≤ 4) : ra_ct (g_Gs n f) g_sh M i (.index k :: rest) [.index k] rest 118 :=
  ⟨0, idx, kd, 0, tx, g_m_X7_errorOffset, hi, hc, hk, mt_118, Or.inr rfl, by simp [ri_nn], rfl, rfl, hr, Or.inr ⟨7, fl, (RX7, TX7, 8), hs, rfl, beq_self_eq_true RX7⟩⟩
theorem ct_119 {a0 : Jvm.Term} {k : Nat} {fl : List (Option Jvm.Term)} (hi : ra_inst i = some (0, idx)) (hc : ri_cp (g_Gs n f) M idx = some (kd, 119, 1, tx)) (hk : kd = 20 ∨ kd = 30) (hs : g_sh[k]? = some (.inl (7, fl))) (hr : rest.length ≤ 4) : ra_ct (g_Gs n f) g_sh M i (a0 :: .index k :: rest) [.index k, a0] rest 119 :=
  ⟨0, idx, kd, 1, tx, g_m_X7_count, hi, hc, hk, mt_119, Or.inr rfl, by simp [ri_nn], rfl, rfl, hr, Or.inr ⟨7, fl, (RX7, TX7, 8), hs, rfl, beq_self_eq_true RX7⟩⟩
theorem ct_120 {a0 a1 : Jvm.Term} {k : Nat} {fl : List (Option Jvm.Term)} (hi : ra_inst i = some (0, idx)) (hc : ri_cp (g_Gs n f) M idx = some (kd, 120, 2, tx)) (hk : kd = 20 ∨ kd = 30) (hs : g_sh[k]? = some (.inl (7, fl))) (hr : rest.length ≤ 4) : ra_ct (g_Gs n f) g_sh M i (a1 :: a0 :: .index k :: rest) [.index k, a0, a1] rest 120 :=
  ⟨0, idx, kd, 2, tx, g_m_X7_part, hi, hc, hk, mt_120, Or.inr rfl, by simp [ri_nn], rfl, rfl, hr, Or.inr ⟨7, fl, (RX7, TX7, 8), hs, rfl, beq_self_eq_true RX7⟩⟩
theorem ct_121 {a0 : Jvm.Term} {k : Nat} {fl : List (Option Jvm.Term)} (hi : ra_inst i = some (0, idx)) (hc : ri_cp (g_Gs n f) M idx = some (kd, 121, 1, tx)) (hk : kd = 20 ∨ kd = 30) (hs : g_sh[k]? = some (.inl (7, fl))) (hr : rest.length ≤ 4) : ra_ct (g_Gs n f) g_sh M i (a0 :: .index k :: rest) [.index k, a0] rest 121 :=
  ⟨0, idx, kd, 1, tx, g_m_X7_sector, hi, hc, hk, mt_121, Or.inr rfl, by simp [ri_nn], rfl, rfl, hr, Or.inr ⟨7, fl, (RX7, TX7, 8), hs, rfl, beq_self_eq_true RX7⟩⟩
theorem ct_122 {a0 : Jvm.Term} {k : Nat} {fl : List (Option Jvm.Term)} (hi : ra_inst i = some (0, idx)) (hc : ri_cp (g_Gs n f) M idx = some (kd, 122, 1, tx)) (hk : kd = 20 ∨ kd = 30) (hs : g_sh[k]? = some (.inl (7, fl))) (hr : rest.length ≤ 4) : ra_ct (g_Gs n f) g_sh M i (a0 :: .index k :: rest) [.index k, a0] rest 122 :=
  ⟨0, idx, kd, 1, tx, g_m_X7_owner, hi, hc, hk, mt_122, Or.inr rfl, by simp [ri_nn], rfl, rfl, hr, Or.inr ⟨7, fl, (RX7, TX7, 8), hs, rfl, beq_self_eq_true RX7⟩⟩
theorem ct_123 {a0 a1 : Jvm.Term} {k : Nat} {fl : List (Option Jvm.Term)} (hi : ra_inst i = some (0, idx)) (hc : ri_cp (g_Gs n f) M idx = some (kd, 123, 2, tx)) (hk : kd = 20 ∨ kd = 30) (hs : g_sh[k]? = some (.inl (7, fl))) (hr : rest.length ≤ 4) : ra_ct (g_Gs n f) g_sh M i (a1 :: a0 :: .index k :: rest) [.index k, a0, a1] rest 123 :=
  ⟨0, idx, kd, 2, tx, g_m_X7_place, hi, hc, hk, mt_123, Or.inr rfl, by simp [ri_nn], rfl, rfl, hr, Or.inr ⟨7, fl, (RX7, TX7, 8), hs, rfl, beq_self_eq_true RX7⟩⟩
theorem ct_124 {a0 : Jvm.Term} {k : Nat} {fl : List (Option Jvm.Term)} (hi : ra_inst i = some (0, idx)) (hc : ri_cp (g_Gs n f) M idx = some (kd, 124, 1, tx)) (hk : kd = 20 ∨ kd = 30) (hs : g_sh[k]? = some (.inl (7, fl))) (hr : rest.length ≤ 4) : ra_ct (g_Gs n f) g_sh M i (a0 :: .index k :: rest) [.index k, a0] rest 124 :=
  ⟨0, idx, kd, 1, tx, g_m_X7_isWhole, hi, hc, hk, mt_124, Or.inr rfl, by simp [ri_nn], rfl, rfl, hr, Or.inr ⟨7, fl, (RX7, TX7, 8), hs, rfl, beq_self_eq_true RX7⟩⟩
theorem ct_125 {a0 : Jvm.Term} {k : Nat} {fl : List (Option Jvm.Term)} (hi : ra_inst i = some (0, idx)) (hc : ri_cp (g_Gs n f) M idx = some (kd, 125, 1, tx)) (hk : kd = 20 ∨ kd = 30) (hs : g_sh[k]? = some (.inl (7, fl))) (hr : rest.length ≤ 4) : ra_ct (g_Gs n f) g_sh M i (a0 :: .index k :: rest) [.index k, a0] rest 125 :=
  ⟨0, idx, kd, 1, tx, g_m_X7_byStart, hi, hc, hk, mt_125, Or.inr rfl, by simp [ri_nn], rfl, rfl, hr, Or.inr ⟨7, fl, (RX7, TX7, 8), hs, rfl, beq_self_eq_true RX7⟩⟩
theorem ct_126 {a0 : Jvm.Term} {k : Nat} {fl : List (Option Jvm.Term)} (hi : ra_inst i = some (0, idx)) (hc : ri_cp (g_Gs n f) M idx = some (kd, 126, 1, tx)) (hk : kd = 20 ∨ kd = 30) (hs : g_sh[k]? = some (.inl (7, fl))) (hr : rest.length ≤ 4) : ra_ct (g_Gs n f) g_sh M i (a0 :: .index k :: rest) [.index k, a0] rest 126 :=
  ⟨0, idx, kd, 1, tx, g_m_X7_behind, hi, hc, hk, mt_126, Or.inr rfl, by simp [ri_nn], rfl, rfl, hr, Or.inr ⟨7, fl, (RX7, TX7, 8), hs, rfl, beq_self_eq_true RX7⟩⟩
theorem ct_127 {a0 a1 : Jvm.Term} {k : Nat} {fl : List (Option Jvm.Term)} (hi : ra_inst i = some (0, idx)) (hc : ri_cp (g_Gs n f) M idx = some (kd, 127, 2, tx)) (hk : kd = 20 ∨ kd = 30) (hs : g_sh[k]? = some (.inl (7, fl))) (hr : rest.length ≤ 4) : ra_ct (g_Gs n f) g_sh M i (a1 :: a0 :: .index k :: rest) [.index k, a0, a1] rest 127 :=
  ⟨0, idx, kd, 2, tx, g_m_X7_overlapped, hi, hc, hk, mt_127, Or.inr rfl, by simp [ri_nn], rfl, rfl, hr, Or.inr ⟨7, fl, (RX7, TX7, 8), hs, rfl, beq_self_eq_true RX7⟩⟩
theorem ct_128 {k : Nat} {fl : List (Option Jvm.Term)} (hi : ra_inst i = some (0, idx)) (hc : ri_cp (g_Gs n f) M idx = some (kd, 128, 0, tx)) (hk : kd = 20 ∨ kd = 30) (hs : g_sh[k]? = some (.inl (7, fl))) (hr : rest.length ≤ 4) : ra_ct (g_Gs n f) g_sh M i (.index k :: rest) [.index k] rest 128 :=
  ⟨0, idx, kd, 0, tx, g_m_X7_used, hi, hc, hk, mt_128, Or.inr rfl, by simp [ri_nn], rfl, rfl, hr, Or.inr ⟨7, fl, (RX7, TX7, 8), hs, rfl, beq_self_eq_true RX7⟩⟩
theorem ct_129 {k : Nat} {fl : List (Option Jvm.Term)} (hi : ra_inst i = some (0, idx)) (hc : ri_cp (g_Gs n f) M idx = some (kd, 129, 0, tx)) (hk : kd = 20 ∨ kd = 30) (hs : g_sh[k]? = some (.inl (7, fl))) (hr : rest.length ≤ 4) : ra_ct (g_Gs n f) g_sh M i (.index k :: rest) [.index k] rest 129 :=
  ⟨0, idx, kd, 0, tx, g_m_X7_slack, hi, hc, hk, mt_129, Or.inr rfl, by simp [ri_nn], rfl, rfl, hr, Or.inr ⟨7, fl, (RX7, TX7, 8), hs, rfl, beq_self_eq_true RX7⟩⟩
theorem ct_130 {a0 : Jvm.Term} {k : Nat} {fl : List (Option Jvm.Term)} (hi : ra_inst i = some (0, idx)) (hc : ri_cp (g_Gs n f) M idx = some (kd, 130, 1, tx)) (hk : kd = 20 ∨ kd = 30) (hs : g_sh[k]? = some (.inl (7, fl))) (hr : rest.length ≤ 4) : ra_ct (g_Gs n f) g_sh M i (a0 :: .index k :: rest) [.index k, a0] rest 130 :=
  ⟨0, idx, kd, 1, tx, g_m_X7_ofKind, hi, hc, hk, mt_130, Or.inr rfl, by simp [ri_nn], rfl, rfl, hr, Or.inr ⟨7, fl, (RX7, TX7, 8), hs, rfl, beq_self_eq_true RX7⟩⟩
theorem ct_131 {a0 : Jvm.Term} {k : Nat} {fl : List (Option Jvm.Term)} (hi : ra_inst i = some (0, idx)) (hc : ri_cp (g_Gs n f) M idx = some (kd, 131, 1, tx)) (hk : kd = 20 ∨ kd = 30) (hs : g_sh[k]? = some (.inl (7, fl))) (hr : rest.length ≤ 4) : ra_ct (g_Gs n f) g_sh M i (a0 :: .index k :: rest) [.index k, a0] rest 131 :=
  ⟨0, idx, kd, 1, tx, g_m_X7_copies, hi, hc, hk, mt_131, Or.inr rfl, by simp [ri_nn], rfl, rfl, hr, Or.inr ⟨7, fl, (RX7, TX7, 8), hs, rfl, beq_self_eq_true RX7⟩⟩
theorem ct_132 {k : Nat} {fl : List (Option Jvm.Term)} (hi : ra_inst i = some (0, idx)) (hc : ri_cp (g_Gs n f) M idx = some (kd, 132, 0, tx)) (hk : kd = 20 ∨ kd = 30) (hs : g_sh[k]? = some (.inl (7, fl))) (hr : rest.length ≤ 4) : ra_ct (g_Gs n f) g_sh M i (.index k :: rest) [.index k] rest 132 :=
  ⟨0, idx, kd, 0, tx, g_m_X7_verify, hi, hc, hk, mt_132, Or.inr rfl, by simp [ri_nn], rfl, rfl, hr, Or.inr ⟨7, fl, (RX7, TX7, 8), hs, rfl, beq_self_eq_true RX7⟩⟩
theorem ct_133 {a0 a1 : Jvm.Term} {k : Nat} {fl : List (Option Jvm.Term)} (hi : ra_inst i = some (0, idx)) (hc : ri_cp (g_Gs n f) M idx = some (kd, 133, 2, tx)) (hk : kd = 20 ∨ kd = 30) (hs : g_sh[k]? = some (.inl (7, fl))) (hr : rest.length ≤ 4) : ra_ct (g_Gs n f) g_sh M i (a1 :: a0 :: .index k :: rest) [.index k, a0, a1] rest 133 :=
  ⟨0, idx, kd, 2, tx, g_m_X7_gap, hi, hc, hk, mt_133, Or.inr rfl, by simp [ri_nn], rfl, rfl, hr, Or.inr ⟨7, fl, (RX7, TX7, 8), hs, rfl, beq_self_eq_true RX7⟩⟩
theorem ct_134 {k : Nat} {fl : List (Option Jvm.Term)} (hi : ra_inst i = some (0, idx)) (hc : ri_cp (g_Gs n f) M idx = some (kd, 134, 0, tx)) (hk : kd = 20 ∨ kd = 30) (hs : g_sh[k]? = some (.inl (7, fl))) (hr : rest.length ≤ 4) : ra_ct (g_Gs n f) g_sh M i (.index k :: rest) [.index k] rest 134 :=
  ⟨0, idx, kd, 0, tx, g_m_X7_largestGap, hi, hc, hk, mt_134, Or.inr rfl, by simp [ri_nn], rfl, rfl, hr, Or.inr ⟨7, fl, (RX7, TX7, 8), hs, rfl, beq_self_eq_true RX7⟩⟩
theorem ct_135 {a0 a1 : Jvm.Term} {k : Nat} {fl : List (Option Jvm.Term)} (hi : ra_inst i = some (0, idx)) (hc : ri_cp (g_Gs n f) M idx = some (kd, 135, 2, tx)) (hk : kd = 20 ∨ kd = 30) (hs : g_sh[k]? = some (.inl (7, fl))) (hr : rest.length ≤ 4) : ra_ct (g_Gs n f) g_sh M i (a1 :: a0 :: .index k :: rest) [.index k, a0, a1] rest 135 :=
  ⟨0, idx, kd, 2, tx, g_m_X7_fit, hi, hc, hk, mt_135, Or.inr rfl, by simp [ri_nn], rfl, rfl, hr, Or.inr ⟨7, fl, (RX7, TX7, 8), hs, rfl, beq_self_eq_true RX7⟩⟩
theorem ct_136 {k : Nat} {fl : List (Option Jvm.Term)} (hi : ra_inst i = some (0, idx)) (hc : ri_cp (g_Gs n f) M idx = some (kd, 136, 0, tx)) (hk : kd = 20 ∨ kd = 30) (hs : g_sh[k]? = some (.inl (7, fl))) (hr : rest.length ≤ 4) : ra_ct (g_Gs n f) g_sh M i (.index k :: rest) [.index k] rest 136 :=
  ⟨0, idx, kd, 0, tx, g_m_X7_waste, hi, hc, hk, mt_136, Or.inr rfl, by simp [ri_nn], rfl, rfl, hr, Or.inr ⟨7, fl, (RX7, TX7, 8), hs, rfl, beq_self_eq_true RX7⟩⟩
theorem ct_137 {k : Nat} {fl : List (Option Jvm.Term)} (hi : ra_inst i = some (0, idx)) (hc : ri_cp (g_Gs n f) M idx = some (kd, 137, 0, tx)) (hk : kd = 20 ∨ kd = 30) (hs : g_sh[k]? = some (.inl (7, fl))) (hr : rest.length ≤ 4) : ra_ct (g_Gs n f) g_sh M i (.index k :: rest) [.index k] rest 137 :=
  ⟨0, idx, kd, 0, tx, g_m_X7_scatter, hi, hc, hk, mt_137, Or.inr rfl, by simp [ri_nn], rfl, rfl, hr, Or.inr ⟨7, fl, (RX7, TX7, 8), hs, rfl, beq_self_eq_true RX7⟩⟩
theorem ct_138 {a0 : Jvm.Term} {k : Nat} {fl : List (Option Jvm.Term)} (hi : ra_inst i = some (0, idx)) (hc : ri_cp (g_Gs n f) M idx = some (kd, 138, 1, tx)) (hk : kd = 20 ∨ kd = 30) (hs : g_sh[k]? = some (.inl (7, fl))) (hr : rest.length ≤ 4) : ra_ct (g_Gs n f) g_sh M i (a0 :: .index k :: rest) [.index k, a0] rest 138 :=
  ⟨0, idx, kd, 1, tx, g_m_X7_gapAt, hi, hc, hk, mt_138, Or.inr rfl, by simp [ri_nn], rfl, rfl, hr, Or.inr ⟨7, fl, (RX7, TX7, 8), hs, rfl, beq_self_eq_true RX7⟩⟩
theorem ct_139 {a0 a1 : Jvm.Term} {k : Nat} {fl : List (Option Jvm.Term)} (hi : ra_inst i = some (0, idx)) (hc : ri_cp (g_Gs n f) M idx = some (kd, 139, 2, tx)) (hk : kd = 20 ∨ kd = 30) (hs : g_sh[k]? = some (.inl (7, fl))) (hr : rest.length ≤ 4) : ra_ct (g_Gs n f) g_sh M i (a1 :: a0 :: .index k :: rest) [.index k, a0, a1] rest 139 :=
  ⟨0, idx, kd, 2, tx, g_m_X7_reason, hi, hc, hk, mt_139, Or.inr rfl, by simp [ri_nn], rfl, rfl, hr, Or.inr ⟨7, fl, (RX7, TX7, 8), hs, rfl, beq_self_eq_true RX7⟩⟩
theorem ct_140 {a0 a1 a2 a3 : Jvm.Term} {k : Nat} {fl : List (Option Jvm.Term)} (hi : ra_inst i = some (0, idx)) (hc : ri_cp (g_Gs n f) M idx = some (kd, 140, 4, tx)) (hk : kd = 20 ∨ kd = 30) (hs : g_sh[k]? = some (.inl (7, fl))) (hr : rest.length ≤ 4) : ra_ct (g_Gs n f) g_sh M i (a3 :: a2 :: a1 :: a0 :: .index k :: rest) [.index k, a0, a1, a2, a3] rest 140 :=
  ⟨0, idx, kd, 4, tx, g_m_X7_add, hi, hc, hk, mt_140, Or.inr rfl, by simp [ri_nn], rfl, rfl, hr, Or.inr ⟨7, fl, (RX7, TX7, 8), hs, rfl, beq_self_eq_true RX7⟩⟩
theorem ct_141 {a0 a1 a2 a3 : Jvm.Term} {k : Nat} {fl : List (Option Jvm.Term)} (hi : ra_inst i = some (0, idx)) (hc : ri_cp (g_Gs n f) M idx = some (kd, 141, 4, tx)) (hk : kd = 20 ∨ kd = 30) (hs : g_sh[k]? = some (.inl (7, fl))) (hr : rest.length ≤ 4) : ra_ct (g_Gs n f) g_sh M i (a3 :: a2 :: a1 :: a0 :: .index k :: rest) [.index k, a0, a1, a2, a3] rest 141 :=
  ⟨0, idx, kd, 4, tx, g_m_X7_addBy, hi, hc, hk, mt_141, Or.inr rfl, by simp [ri_nn], rfl, rfl, hr, Or.inr ⟨7, fl, (RX7, TX7, 8), hs, rfl, beq_self_eq_true RX7⟩⟩
theorem ct_142 {a0 : Jvm.Term} {k : Nat} {fl : List (Option Jvm.Term)} (hi : ra_inst i = some (0, idx)) (hc : ri_cp (g_Gs n f) M idx = some (kd, 142, 1, tx)) (hk : kd = 20 ∨ kd = 30) (hs : g_sh[k]? = some (.inl (7, fl))) (hr : rest.length ≤ 4) : ra_ct (g_Gs n f) g_sh M i (a0 :: .index k :: rest) [.index k, a0] rest 142 :=
  ⟨0, idx, kd, 1, tx, g_m_X7_remove, hi, hc, hk, mt_142, Or.inr rfl, by simp [ri_nn], rfl, rfl, hr, Or.inr ⟨7, fl, (RX7, TX7, 8), hs, rfl, beq_self_eq_true RX7⟩⟩
theorem ct_143 {a0 a1 : Jvm.Term} {k : Nat} {fl : List (Option Jvm.Term)} (hi : ra_inst i = some (0, idx)) (hc : ri_cp (g_Gs n f) M idx = some (kd, 143, 2, tx)) (hk : kd = 20 ∨ kd = 30) (hs : g_sh[k]? = some (.inl (7, fl))) (hr : rest.length ≤ 4) : ra_ct (g_Gs n f) g_sh M i (a1 :: a0 :: .index k :: rest) [.index k, a0, a1] rest 143 :=
  ⟨0, idx, kd, 2, tx, g_m_X7_lock, hi, hc, hk, mt_143, Or.inr rfl, by simp [ri_nn], rfl, rfl, hr, Or.inr ⟨7, fl, (RX7, TX7, 8), hs, rfl, beq_self_eq_true RX7⟩⟩
theorem ct_144 {a0 a1 : Jvm.Term} {k : Nat} {fl : List (Option Jvm.Term)} (hi : ra_inst i = some (0, idx)) (hc : ri_cp (g_Gs n f) M idx = some (kd, 144, 2, tx)) (hk : kd = 20 ∨ kd = 30) (hs : g_sh[k]? = some (.inl (7, fl))) (hr : rest.length ≤ 4) : ra_ct (g_Gs n f) g_sh M i (a1 :: a0 :: .index k :: rest) [.index k, a0, a1] rest 144 :=
  ⟨0, idx, kd, 2, tx, g_m_X7_resizeReason, hi, hc, hk, mt_144, Or.inr rfl, by simp [ri_nn], rfl, rfl, hr, Or.inr ⟨7, fl, (RX7, TX7, 8), hs, rfl, beq_self_eq_true RX7⟩⟩
theorem ct_145 {a0 a1 : Jvm.Term} {k : Nat} {fl : List (Option Jvm.Term)} (hi : ra_inst i = some (0, idx)) (hc : ri_cp (g_Gs n f) M idx = some (kd, 145, 2, tx)) (hk : kd = 20 ∨ kd = 30) (hs : g_sh[k]? = some (.inl (7, fl))) (hr : rest.length ≤ 4) : ra_ct (g_Gs n f) g_sh M i (a1 :: a0 :: .index k :: rest) [.index k, a0, a1] rest 145 :=
  ⟨0, idx, kd, 2, tx, g_m_X7_resize, hi, hc, hk, mt_145, Or.inr rfl, by simp [ri_nn], rfl, rfl, hr, Or.inr ⟨7, fl, (RX7, TX7, 8), hs, rfl, beq_self_eq_true RX7⟩⟩
theorem ct_146 {a0 : Jvm.Term} {k : Nat} {fl : List (Option Jvm.Term)} (hi : ra_inst i = some (0, idx)) (hc : ri_cp (g_Gs n f) M idx = some (kd, 146, 1, tx)) (hk : kd = 20 ∨ kd = 30) (hs : g_sh[k]? = some (.inl (7, fl))) (hr : rest.length ≤ 4) : ra_ct (g_Gs n f) g_sh M i (a0 :: .index k :: rest) [.index k, a0] rest 146 :=
  ⟨0, idx, kd, 1, tx, g_m_X7_roundUp, hi, hc, hk, mt_146, Or.inr rfl, by simp [ri_nn], rfl, rfl, hr, Or.inr ⟨7, fl, (RX7, TX7, 8), hs, rfl, beq_self_eq_true RX7⟩⟩
theorem ct_147 {a0 a1 : Jvm.Term} {k : Nat} {fl : List (Option Jvm.Term)} (hi : ra_inst i = some (0, idx)) (hc : ri_cp (g_Gs n f) M idx = some (kd, 147, 2, tx)) (hk : kd = 20 ∨ kd = 30) (hs : g_sh[k]? = some (.inl (7, fl))) (hr : rest.length ≤ 4) : ra_ct (g_Gs n f) g_sh M i (a1 :: a0 :: .index k :: rest) [.index k, a0, a1] rest 147 :=
  ⟨0, idx, kd, 2, tx, g_m_X7_setMinimum, hi, hc, hk, mt_147, Or.inr rfl, by simp [ri_nn], rfl, rfl, hr, Or.inr ⟨7, fl, (RX7, TX7, 8), hs, rfl, beq_self_eq_true RX7⟩⟩
theorem ct_148 {a0 : Jvm.Term} {k : Nat} {fl : List (Option Jvm.Term)} (hi : ra_inst i = some (0, idx)) (hc : ri_cp (g_Gs n f) M idx = some (kd, 148, 1, tx)) (hk : kd = 20 ∨ kd = 30) (hs : g_sh[k]? = some (.inl (7, fl))) (hr : rest.length ≤ 4) : ra_ct (g_Gs n f) g_sh M i (a0 :: .index k :: rest) [.index k, a0] rest 148 :=
  ⟨0, idx, kd, 1, tx, g_m_X7_growsTo, hi, hc, hk, mt_148, Or.inr rfl, by simp [ri_nn], rfl, rfl, hr, Or.inr ⟨7, fl, (RX7, TX7, 8), hs, rfl, beq_self_eq_true RX7⟩⟩
theorem ct_149 {a0 a1 : Jvm.Term} {k : Nat} {fl : List (Option Jvm.Term)} (hi : ra_inst i = some (0, idx)) (hc : ri_cp (g_Gs n f) M idx = some (kd, 149, 2, tx)) (hk : kd = 20 ∨ kd = 30) (hs : g_sh[k]? = some (.inl (7, fl))) (hr : rest.length ≤ 4) : ra_ct (g_Gs n f) g_sh M i (a1 :: a0 :: .index k :: rest) [.index k, a0, a1] rest 149 :=
  ⟨0, idx, kd, 2, tx, g_m_X7_set, hi, hc, hk, mt_149, Or.inr rfl, by simp [ri_nn], rfl, rfl, hr, Or.inr ⟨7, fl, (RX7, TX7, 8), hs, rfl, beq_self_eq_true RX7⟩⟩
theorem ct_150 {a0 a1 : Jvm.Term} {k : Nat} {fl : List (Option Jvm.Term)} (hi : ra_inst i = some (0, idx)) (hc : ri_cp (g_Gs n f) M idx = some (kd, 150, 2, tx)) (hk : kd = 20 ∨ kd = 30) (hs : g_sh[k]? = some (.inl (7, fl))) (hr : rest.length ≤ 4) : ra_ct (g_Gs n f) g_sh M i (a1 :: a0 :: .index k :: rest) [.index k, a0, a1] rest 150 :=
  ⟨0, idx, kd, 2, tx, g_m_X7_split, hi, hc, hk, mt_150, Or.inr rfl, by simp [ri_nn], rfl, rfl, hr, Or.inr ⟨7, fl, (RX7, TX7, 8), hs, rfl, beq_self_eq_true RX7⟩⟩
theorem ct_151 {a0 : Jvm.Term} {k : Nat} {fl : List (Option Jvm.Term)} (hi : ra_inst i = some (0, idx)) (hc : ri_cp (g_Gs n f) M idx = some (kd, 151, 1, tx)) (hk : kd = 20 ∨ kd = 30) (hs : g_sh[k]? = some (.inl (7, fl))) (hr : rest.length ≤ 4) : ra_ct (g_Gs n f) g_sh M i (a0 :: .index k :: rest) [.index k, a0] rest 151 :=
  ⟨0, idx, kd, 1, tx, g_m_X7_join, hi, hc, hk, mt_151, Or.inr rfl, by simp [ri_nn], rfl, rfl, hr, Or.inr ⟨7, fl, (RX7, TX7, 8), hs, rfl, beq_self_eq_true RX7⟩⟩
theorem ct_152 {k : Nat} {fl : List (Option Jvm.Term)} (hi : ra_inst i = some (0, idx)) (hc : ri_cp (g_Gs n f) M idx = some (kd, 152, 0, tx)) (hk : kd = 20 ∨ kd = 30) (hs : g_sh[k]? = some (.inl (7, fl))) (hr : rest.length ≤ 4) : ra_ct (g_Gs n f) g_sh M i (.index k :: rest) [.index k] rest 152 :=
  ⟨0, idx, kd, 0, tx, g_m_X7_shrinkAll, hi, hc, hk, mt_152, Or.inr rfl, by simp [ri_nn], rfl, rfl, hr, Or.inr ⟨7, fl, (RX7, TX7, 8), hs, rfl, beq_self_eq_true RX7⟩⟩
theorem ct_153 {k : Nat} {fl : List (Option Jvm.Term)} (hi : ra_inst i = some (0, idx)) (hc : ri_cp (g_Gs n f) M idx = some (kd, 153, 0, tx)) (hk : kd = 20 ∨ kd = 30) (hs : g_sh[k]? = some (.inl (7, fl))) (hr : rest.length ≤ 4) : ra_ct (g_Gs n f) g_sh M i (.index k :: rest) [.index k] rest 153 :=
  ⟨0, idx, kd, 0, tx, g_m_X7_wipe, hi, hc, hk, mt_153, Or.inr rfl, by simp [ri_nn], rfl, rfl, hr, Or.inr ⟨7, fl, (RX7, TX7, 8), hs, rfl, beq_self_eq_true RX7⟩⟩
theorem ct_154 {a0 a1 : Jvm.Term} {k : Nat} {fl : List (Option Jvm.Term)} (hi : ra_inst i = some (0, idx)) (hc : ri_cp (g_Gs n f) M idx = some (kd, 154, 2, tx)) (hk : kd = 20 ∨ kd = 30) (hs : g_sh[k]? = some (.inl (7, fl))) (hr : rest.length ≤ 4) : ra_ct (g_Gs n f) g_sh M i (a1 :: a0 :: .index k :: rest) [.index k, a0, a1] rest 154 :=
  ⟨0, idx, kd, 2, tx, g_m_X7_moveReason, hi, hc, hk, mt_154, Or.inr rfl, by simp [ri_nn], rfl, rfl, hr, Or.inr ⟨7, fl, (RX7, TX7, 8), hs, rfl, beq_self_eq_true RX7⟩⟩
theorem ct_155 {a0 a1 : Jvm.Term} {k : Nat} {fl : List (Option Jvm.Term)} (hi : ra_inst i = some (0, idx)) (hc : ri_cp (g_Gs n f) M idx = some (kd, 155, 2, tx)) (hk : kd = 20 ∨ kd = 30) (hs : g_sh[k]? = some (.inl (7, fl))) (hr : rest.length ≤ 4) : ra_ct (g_Gs n f) g_sh M i (a1 :: a0 :: .index k :: rest) [.index k, a0, a1] rest 155 :=
  ⟨0, idx, kd, 2, tx, g_m_X7_stepsFor, hi, hc, hk, mt_155, Or.inr rfl, by simp [ri_nn], rfl, rfl, hr, Or.inr ⟨7, fl, (RX7, TX7, 8), hs, rfl, beq_self_eq_true RX7⟩⟩
theorem ct_156 {a0 a1 : Jvm.Term} {k : Nat} {fl : List (Option Jvm.Term)} (hi : ra_inst i = some (0, idx)) (hc : ri_cp (g_Gs n f) M idx = some (kd, 156, 2, tx)) (hk : kd = 20 ∨ kd = 30) (hs : g_sh[k]? = some (.inl (7, fl))) (hr : rest.length ≤ 4) : ra_ct (g_Gs n f) g_sh M i (a1 :: a0 :: .index k :: rest) [.index k, a0, a1] rest 156 :=
  ⟨0, idx, kd, 2, tx, g_m_X7_bestChunk, hi, hc, hk, mt_156, Or.inr rfl, by simp [ri_nn], rfl, rfl, hr, Or.inr ⟨7, fl, (RX7, TX7, 8), hs, rfl, beq_self_eq_true RX7⟩⟩
theorem ct_157 {a0 : Jvm.Term} {k : Nat} {fl : List (Option Jvm.Term)} (hi : ra_inst i = some (0, idx)) (hc : ri_cp (g_Gs n f) M idx = some (kd, 157, 1, tx)) (hk : kd = 20 ∨ kd = 30) (hs : g_sh[k]? = some (.inl (7, fl))) (hr : rest.length ≤ 4) : ra_ct (g_Gs n f) g_sh M i (a0 :: .index k :: rest) [.index k, a0] rest 157 :=
  ⟨0, idx, kd, 1, tx, g_m_X7_leftmost, hi, hc, hk, mt_157, Or.inr rfl, by simp [ri_nn], rfl, rfl, hr, Or.inr ⟨7, fl, (RX7, TX7, 8), hs, rfl, beq_self_eq_true RX7⟩⟩
theorem ct_158 {a0 : Jvm.Term} {k : Nat} {fl : List (Option Jvm.Term)} (hi : ra_inst i = some (0, idx)) (hc : ri_cp (g_Gs n f) M idx = some (kd, 158, 1, tx)) (hk : kd = 20 ∨ kd = 30) (hs : g_sh[k]? = some (.inl (7, fl))) (hr : rest.length ≤ 4) : ra_ct (g_Gs n f) g_sh M i (a0 :: .index k :: rest) [.index k, a0] rest 158 :=
  ⟨0, idx, kd, 1, tx, g_m_X7_rightmost, hi, hc, hk, mt_158, Or.inr rfl, by simp [ri_nn], rfl, rfl, hr, Or.inr ⟨7, fl, (RX7, TX7, 8), hs, rfl, beq_self_eq_true RX7⟩⟩
theorem ct_159 {a0 a1 : Jvm.Term} {k : Nat} {fl : List (Option Jvm.Term)} (hi : ra_inst i = some (0, idx)) (hc : ri_cp (g_Gs n f) M idx = some (kd, 159, 2, tx)) (hk : kd = 20 ∨ kd = 30) (hs : g_sh[k]? = some (.inl (7, fl))) (hr : rest.length ≤ 4) : ra_ct (g_Gs n f) g_sh M i (a1 :: a0 :: .index k :: rest) [.index k, a0, a1] rest 159 :=
  ⟨0, idx, kd, 2, tx, g_m_X7_begin, hi, hc, hk, mt_159, Or.inr rfl, by simp [ri_nn], rfl, rfl, hr, Or.inr ⟨7, fl, (RX7, TX7, 8), hs, rfl, beq_self_eq_true RX7⟩⟩
theorem ct_160 {a0 : Jvm.Term} {k : Nat} {fl : List (Option Jvm.Term)} (hi : ra_inst i = some (0, idx)) (hc : ri_cp (g_Gs n f) M idx = some (kd, 160, 1, tx)) (hk : kd = 20 ∨ kd = 30) (hs : g_sh[k]? = some (.inl (7, fl))) (hr : rest.length ≤ 4) : ra_ct (g_Gs n f) g_sh M i (a0 :: .index k :: rest) [.index k, a0] rest 160 :=
  ⟨0, idx, kd, 1, tx, g_m_X7_run, hi, hc, hk, mt_160, Or.inr rfl, by simp [ri_nn], rfl, rfl, hr, Or.inr ⟨7, fl, (RX7, TX7, 8), hs, rfl, beq_self_eq_true RX7⟩⟩
theorem ct_161 {k : Nat} {fl : List (Option Jvm.Term)} (hi : ra_inst i = some (0, idx)) (hc : ri_cp (g_Gs n f) M idx = some (kd, 161, 0, tx)) (hk : kd = 20 ∨ kd = 30) (hs : g_sh[k]? = some (.inl (7, fl))) (hr : rest.length ≤ 4) : ra_ct (g_Gs n f) g_sh M i (.index k :: rest) [.index k] rest 161 :=
  ⟨0, idx, kd, 0, tx, g_m_X7_tear, hi, hc, hk, mt_161, Or.inr rfl, by simp [ri_nn], rfl, rfl, hr, Or.inr ⟨7, fl, (RX7, TX7, 8), hs, rfl, beq_self_eq_true RX7⟩⟩
theorem ct_162 {k : Nat} {fl : List (Option Jvm.Term)} (hi : ra_inst i = some (0, idx)) (hc : ri_cp (g_Gs n f) M idx = some (kd, 162, 0, tx)) (hk : kd = 20 ∨ kd = 30) (hs : g_sh[k]? = some (.inl (7, fl))) (hr : rest.length ≤ 4) : ra_ct (g_Gs n f) g_sh M i (.index k :: rest) [.index k] rest 162 :=
  ⟨0, idx, kd, 0, tx, g_m_X7_turnBack, hi, hc, hk, mt_162, Or.inr rfl, by simp [ri_nn], rfl, rfl, hr, Or.inr ⟨7, fl, (RX7, TX7, 8), hs, rfl, beq_self_eq_true RX7⟩⟩
theorem ct_163 {a0 : Jvm.Term} {k : Nat} {fl : List (Option Jvm.Term)} (hi : ra_inst i = some (0, idx)) (hc : ri_cp (g_Gs n f) M idx = some (kd, 163, 1, tx)) (hk : kd = 20 ∨ kd = 30) (hs : g_sh[k]? = some (.inl (7, fl))) (hr : rest.length ≤ 4) : ra_ct (g_Gs n f) g_sh M i (a0 :: .index k :: rest) [.index k, a0] rest 163 :=
  ⟨0, idx, kd, 1, tx, g_m_X7_move, hi, hc, hk, mt_163, Or.inr rfl, by simp [ri_nn], rfl, rfl, hr, Or.inr ⟨7, fl, (RX7, TX7, 8), hs, rfl, beq_self_eq_true RX7⟩⟩
theorem ct_164 {a0 : Jvm.Term} {k : Nat} {fl : List (Option Jvm.Term)} (hi : ra_inst i = some (0, idx)) (hc : ri_cp (g_Gs n f) M idx = some (kd, 164, 1, tx)) (hk : kd = 20 ∨ kd = 30) (hs : g_sh[k]? = some (.inl (7, fl))) (hr : rest.length ≤ 4) : ra_ct (g_Gs n f) g_sh M i (a0 :: .index k :: rest) [.index k, a0] rest 164 :=
  ⟨0, idx, kd, 1, tx, g_m_X7_blocksAt, hi, hc, hk, mt_164, Or.inr rfl, by simp [ri_nn], rfl, rfl, hr, Or.inr ⟨7, fl, (RX7, TX7, 8), hs, rfl, beq_self_eq_true RX7⟩⟩
theorem ct_165 {a0 : Jvm.Term} {k : Nat} {fl : List (Option Jvm.Term)} (hi : ra_inst i = some (0, idx)) (hc : ri_cp (g_Gs n f) M idx = some (kd, 165, 1, tx)) (hk : kd = 20 ∨ kd = 30) (hs : g_sh[k]? = some (.inl (7, fl))) (hr : rest.length ≤ 4) : ra_ct (g_Gs n f) g_sh M i (a0 :: .index k :: rest) [.index k, a0] rest 165 :=
  ⟨0, idx, kd, 1, tx, g_m_X7_nextStep, hi, hc, hk, mt_165, Or.inr rfl, by simp [ri_nn], rfl, rfl, hr, Or.inr ⟨7, fl, (RX7, TX7, 8), hs, rfl, beq_self_eq_true RX7⟩⟩
theorem ct_166 {a0 a1 : Jvm.Term} {k : Nat} {fl : List (Option Jvm.Term)} (hi : ra_inst i = some (0, idx)) (hc : ri_cp (g_Gs n f) M idx = some (kd, 166, 2, tx)) (hk : kd = 20 ∨ kd = 30) (hs : g_sh[k]? = some (.inl (7, fl))) (hr : rest.length ≤ 4) : ra_ct (g_Gs n f) g_sh M i (a1 :: a0 :: .index k :: rest) [.index k, a0, a1] rest 166 :=
  ⟨0, idx, kd, 2, tx, g_m_X7_stepSector, hi, hc, hk, mt_166, Or.inr rfl, by simp [ri_nn], rfl, rfl, hr, Or.inr ⟨7, fl, (RX7, TX7, 8), hs, rfl, beq_self_eq_true RX7⟩⟩
theorem ct_167 {k : Nat} {fl : List (Option Jvm.Term)} (hi : ra_inst i = some (0, idx)) (hc : ri_cp (g_Gs n f) M idx = some (kd, 167, 0, tx)) (hk : kd = 20 ∨ kd = 30) (hs : g_sh[k]? = some (.inl (7, fl))) (hr : rest.length ≤ 4) : ra_ct (g_Gs n f) g_sh M i (.index k :: rest) [.index k] rest 167 :=
  ⟨0, idx, kd, 0, tx, g_m_X7_compact, hi, hc, hk, mt_167, Or.inr rfl, by simp [ri_nn], rfl, rfl, hr, Or.inr ⟨7, fl, (RX7, TX7, 8), hs, rfl, beq_self_eq_true RX7⟩⟩
theorem ct_168 {k : Nat} {fl : List (Option Jvm.Term)} (hi : ra_inst i = some (0, idx)) (hc : ri_cp (g_Gs n f) M idx = some (kd, 168, 0, tx)) (hk : kd = 20 ∨ kd = 30) (hs : g_sh[k]? = some (.inl (7, fl))) (hr : rest.length ≤ 4) : ra_ct (g_Gs n f) g_sh M i (.index k :: rest) [.index k] rest 168 :=
  ⟨0, idx, kd, 0, tx, g_m_X7_compactSteps, hi, hc, hk, mt_168, Or.inr rfl, by simp [ri_nn], rfl, rfl, hr, Or.inr ⟨7, fl, (RX7, TX7, 8), hs, rfl, beq_self_eq_true RX7⟩⟩
theorem ct_169 {a0 : Jvm.Term} {k : Nat} {fl : List (Option Jvm.Term)} (hi : ra_inst i = some (0, idx)) (hc : ri_cp (g_Gs n f) M idx = some (kd, 169, 1, tx)) (hk : kd = 20 ∨ kd = 30) (hs : g_sh[k]? = some (.inl (7, fl))) (hr : rest.length ≤ 4) : ra_ct (g_Gs n f) g_sh M i (a0 :: .index k :: rest) [.index k, a0] rest 169 :=
  ⟨0, idx, kd, 1, tx, g_m_X7_cheapestMove, hi, hc, hk, mt_169, Or.inr rfl, by simp [ri_nn], rfl, rfl, hr, Or.inr ⟨7, fl, (RX7, TX7, 8), hs, rfl, beq_self_eq_true RX7⟩⟩
theorem ct_170 {k : Nat} {fl : List (Option Jvm.Term)} (hi : ra_inst i = some (0, idx)) (hc : ri_cp (g_Gs n f) M idx = some (kd, 170, 0, tx)) (hk : kd = 20 ∨ kd = 30) (hs : g_sh[k]? = some (.inl (7, fl))) (hr : rest.length ≤ 4) : ra_ct (g_Gs n f) g_sh M i (.index k :: rest) [.index k] rest 170 :=
  ⟨0, idx, kd, 0, tx, g_m_X7_printDisk, hi, hc, hk, mt_170, Or.inr rfl, by simp [ri_nn], rfl, rfl, hr, Or.inr ⟨7, fl, (RX7, TX7, 8), hs, rfl, beq_self_eq_true RX7⟩⟩
theorem ct_171 {a0 : Jvm.Term} {k : Nat} {fl : List (Option Jvm.Term)} (hi : ra_inst i = some (0, idx)) (hc : ri_cp (g_Gs n f) M idx = some (kd, 171, 1, tx)) (hk : kd = 20 ∨ kd = 30) (hs : g_sh[k]? = some (.inl (7, fl))) (hr : rest.length ≤ 4) : ra_ct (g_Gs n f) g_sh M i (a0 :: .index k :: rest) [.index k, a0] rest 171 :=
  ⟨0, idx, kd, 1, tx, g_m_X7_outputByte, hi, hc, hk, mt_171, Or.inr rfl, by simp [ri_nn], rfl, rfl, hr, Or.inr ⟨7, fl, (RX7, TX7, 8), hs, rfl, beq_self_eq_true RX7⟩⟩
theorem ct_172 {k : Nat} {fl : List (Option Jvm.Term)} (hi : ra_inst i = some (0, idx)) (hc : ri_cp (g_Gs n f) M idx = some (kd, 172, 0, tx)) (hk : kd = 20 ∨ kd = 30) (hs : g_sh[k]? = some (.inl (7, fl))) (hr : rest.length ≤ 4) : ra_ct (g_Gs n f) g_sh M i (.index k :: rest) [.index k] rest 172 :=
  ⟨0, idx, kd, 0, tx, g_m_X7_undo, hi, hc, hk, mt_172, Or.inr rfl, by simp [ri_nn], rfl, rfl, hr, Or.inr ⟨7, fl, (RX7, TX7, 8), hs, rfl, beq_self_eq_true RX7⟩⟩
theorem ct_173 {k : Nat} {fl : List (Option Jvm.Term)} (hi : ra_inst i = some (0, idx)) (hc : ri_cp (g_Gs n f) M idx = some (kd, 173, 0, tx)) (hk : kd = 20 ∨ kd = 30) (hs : g_sh[k]? = some (.inl (7, fl))) (hr : rest.length ≤ 4) : ra_ct (g_Gs n f) g_sh M i (.index k :: rest) [.index k] rest 173 :=
  ⟨0, idx, kd, 0, tx, g_m_X7_saveState, hi, hc, hk, mt_173, Or.inr rfl, by simp [ri_nn], rfl, rfl, hr, Or.inr ⟨7, fl, (RX7, TX7, 8), hs, rfl, beq_self_eq_true RX7⟩⟩
theorem ct_174 {k : Nat} {fl : List (Option Jvm.Term)} (hi : ra_inst i = some (0, idx)) (hc : ri_cp (g_Gs n f) M idx = some (kd, 174, 0, tx)) (hk : kd = 20 ∨ kd = 30) (hs : g_sh[k]? = some (.inl (7, fl))) (hr : rest.length ≤ 4) : ra_ct (g_Gs n f) g_sh M i (.index k :: rest) [.index k] rest 174 :=
  ⟨0, idx, kd, 0, tx, g_m_X7_restoreState, hi, hc, hk, mt_174, Or.inr rfl, by simp [ri_nn], rfl, rfl, hr, Or.inr ⟨7, fl, (RX7, TX7, 8), hs, rfl, beq_self_eq_true RX7⟩⟩
theorem ct_175 {k : Nat} {fl : List (Option Jvm.Term)} (hi : ra_inst i = some (0, idx)) (hc : ri_cp (g_Gs n f) M idx = some (kd, 175, 0, tx)) (hk : kd = 20 ∨ kd = 30) (hs : g_sh[k]? = some (.inl (7, fl))) (hr : rest.length ≤ 4) : ra_ct (g_Gs n f) g_sh M i (.index k :: rest) [.index k] rest 175 :=
  ⟨0, idx, kd, 0, tx, g_m_X7_gapsNow, hi, hc, hk, mt_175, Or.inr rfl, by simp [ri_nn], rfl, rfl, hr, Or.inr ⟨7, fl, (RX7, TX7, 8), hs, rfl, beq_self_eq_true RX7⟩⟩
theorem ct_176 {a0 : Jvm.Term} {k : Nat} {fl : List (Option Jvm.Term)} (hi : ra_inst i = some (0, idx)) (hc : ri_cp (g_Gs n f) M idx = some (kd, 176, 1, tx)) (hk : kd = 20 ∨ kd = 30) (hs : g_sh[k]? = some (.inl (7, fl))) (hr : rest.length ≤ 4) : ra_ct (g_Gs n f) g_sh M i (a0 :: .index k :: rest) [.index k, a0] rest 176 :=
  ⟨0, idx, kd, 1, tx, g_m_X7_need, hi, hc, hk, mt_176, Or.inr rfl, by simp [ri_nn], rfl, rfl, hr, Or.inr ⟨7, fl, (RX7, TX7, 8), hs, rfl, beq_self_eq_true RX7⟩⟩
theorem ct_177 {a0 : Jvm.Term} {k : Nat} {fl : List (Option Jvm.Term)} (hi : ra_inst i = some (0, idx)) (hc : ri_cp (g_Gs n f) M idx = some (kd, 177, 1, tx)) (hk : kd = 20 ∨ kd = 30) (hs : g_sh[k]? = some (.inl (7, fl))) (hr : rest.length ≤ 4) : ra_ct (g_Gs n f) g_sh M i (a0 :: .index k :: rest) [.index k, a0] rest 177 :=
  ⟨0, idx, kd, 1, tx, g_m_X7_needSector, hi, hc, hk, mt_177, Or.inr rfl, by simp [ri_nn], rfl, rfl, hr, Or.inr ⟨7, fl, (RX7, TX7, 8), hs, rfl, beq_self_eq_true RX7⟩⟩
theorem ct_178 {a0 a1 a2 : Jvm.Term} {k : Nat} {fl : List (Option Jvm.Term)} (hi : ra_inst i = some (0, idx)) (hc : ri_cp (g_Gs n f) M idx = some (kd, 178, 3, tx)) (hk : kd = 20 ∨ kd = 30) (hs : g_sh[k]? = some (.inl (7, fl))) (hr : rest.length ≤ 4) : ra_ct (g_Gs n f) g_sh M i (a2 :: a1 :: a0 :: .index k :: rest) [.index k, a0, a1, a2] rest 178 :=
  ⟨0, idx, kd, 3, tx, g_m_X7_needKindAndMinimum, hi, hc, hk, mt_178, Or.inr rfl, by simp [ri_nn], rfl, rfl, hr, Or.inr ⟨7, fl, (RX7, TX7, 8), hs, rfl, beq_self_eq_true RX7⟩⟩
theorem ct_179 {a0 : Jvm.Term} {k : Nat} {fl : List (Option Jvm.Term)} (hi : ra_inst i = some (0, idx)) (hc : ri_cp (g_Gs n f) M idx = some (kd, 179, 1, tx)) (hk : kd = 20 ∨ kd = 30) (hs : g_sh[k]? = some (.inl (7, fl))) (hr : rest.length ≤ 4) : ra_ct (g_Gs n f) g_sh M i (a0 :: .index k :: rest) [.index k, a0] rest 179 :=
  ⟨0, idx, kd, 1, tx, g_m_X7_needRule, hi, hc, hk, mt_179, Or.inr rfl, by simp [ri_nn], rfl, rfl, hr, Or.inr ⟨7, fl, (RX7, TX7, 8), hs, rfl, beq_self_eq_true RX7⟩⟩
theorem ct_180 {k : Nat} {fl : List (Option Jvm.Term)} (hi : ra_inst i = some (0, idx)) (hc : ri_cp (g_Gs n f) M idx = some (kd, 180, 0, tx)) (hk : kd = 20 ∨ kd = 30) (hs : g_sh[k]? = some (.inl (7, fl))) (hr : rest.length ≤ 4) : ra_ct (g_Gs n f) g_sh M i (.index k :: rest) [.index k] rest 180 :=
  ⟨0, idx, kd, 0, tx, g_m_X7_needNumberLeft, hi, hc, hk, mt_180, Or.inr rfl, by simp [ri_nn], rfl, rfl, hr, Or.inr ⟨7, fl, (RX7, TX7, 8), hs, rfl, beq_self_eq_true RX7⟩⟩
theorem ct_181 {a0 : Jvm.Term} {k : Nat} {fl : List (Option Jvm.Term)} (hi : ra_inst i = some (0, idx)) (hc : ri_cp (g_Gs n f) M idx = some (kd, 181, 1, tx)) (hk : kd = 20 ∨ kd = 30) (hs : g_sh[k]? = some (.inl (7, fl))) (hr : rest.length ≤ 4) : ra_ct (g_Gs n f) g_sh M i (a0 :: .index k :: rest) [.index k, a0] rest 181 :=
  ⟨0, idx, kd, 1, tx, g_m_X7_needFree, hi, hc, hk, mt_181, Or.inr rfl, by simp [ri_nn], rfl, rfl, hr, Or.inr ⟨7, fl, (RX7, TX7, 8), hs, rfl, beq_self_eq_true RX7⟩⟩
theorem ct_182 {a0 a1 : Jvm.Term} {k : Nat} {fl : List (Option Jvm.Term)} (hi : ra_inst i = some (0, idx)) (hc : ri_cp (g_Gs n f) M idx = some (kd, 182, 2, tx)) (hk : kd = 20 ∨ kd = 30) (hs : g_sh[k]? = some (.inl (7, fl))) (hr : rest.length ≤ 4) : ra_ct (g_Gs n f) g_sh M i (a1 :: a0 :: .index k :: rest) [.index k, a0, a1] rest 182 :=
  ⟨0, idx, kd, 2, tx, g_m_X7_needSizeFor, hi, hc, hk, mt_182, Or.inr rfl, by simp [ri_nn], rfl, rfl, hr, Or.inr ⟨7, fl, (RX7, TX7, 8), hs, rfl, beq_self_eq_true RX7⟩⟩
theorem ct_183 {k : Nat} {fl : List (Option Jvm.Term)} (hi : ra_inst i = some (0, idx)) (hc : ri_cp (g_Gs n f) M idx = some (kd, 183, 0, tx)) (hk : kd = 20 ∨ kd = 30) (hs : g_sh[k]? = some (.inl (7, fl))) (hr : rest.length ≤ 4) : ra_ct (g_Gs n f) g_sh M i (.index k :: rest) [.index k] rest 183 :=
  ⟨0, idx, kd, 0, tx, g_m_X7_needMove, hi, hc, hk, mt_183, Or.inr rfl, by simp [ri_nn], rfl, rfl, hr, Or.inr ⟨7, fl, (RX7, TX7, 8), hs, rfl, beq_self_eq_true RX7⟩⟩
theorem ct_184 {k : Nat} {fl : List (Option Jvm.Term)} (hi : ra_inst i = some (0, idx)) (hc : ri_cp (g_Gs n f) M idx = some (kd, 184, 0, tx)) (hk : kd = 20 ∨ kd = 30) (hs : g_sh[k]? = some (.inl (7, fl))) (hr : rest.length ≤ 4) : ra_ct (g_Gs n f) g_sh M i (.index k :: rest) [.index k] rest 184 :=
  ⟨0, idx, kd, 0, tx, g_m_X7_needNoMove, hi, hc, hk, mt_184, Or.inr rfl, by simp [ri_nn], rfl, rfl, hr, Or.inr ⟨7, fl, (RX7, TX7, 8), hs, rfl, beq_self_eq_true RX7⟩⟩
theorem ct_185 {a0 a1 a2 a3 : Jvm.Term} (hi : ra_inst i = some (1, idx)) (hc : ri_cp (g_Gs n f) M idx = some (kd, 185, 4, tx)) (hk : kd = 21 ∨ (kd = 31 ∧ (ri_hh g_m_X7_meet).isEmpty = true)) (hr : rest.length ≤ 4) : ra_ct (g_Gs n f) g_sh M i (a3 :: a2 :: a1 :: a0 :: rest) [a0, a1, a2, a3] rest 185 :=
  ⟨1, idx, kd, 4, tx, g_m_X7_meet, hi, hc, by rcases hk with h | h <;> omega, mt_185, by rcases hk with h | h; exact Or.inl h; exact Or.inr h.2, by simp [ri_nn], rfl, rfl, hr, Or.inl rfl⟩
theorem ct_186 {a0 a1 : Jvm.Term} (hi : ra_inst i = some (1, idx)) (hc : ri_cp (g_Gs n f) M idx = some (kd, 186, 2, tx)) (hk : kd = 21 ∨ (kd = 31 ∧ (ri_hh g_m_X7_roundedUp).isEmpty = true)) (hr : rest.length ≤ 4) : ra_ct (g_Gs n f) g_sh M i (a1 :: a0 :: rest) [a0, a1] rest 186 :=
  ⟨1, idx, kd, 2, tx, g_m_X7_roundedUp, hi, hc, by rcases hk with h | h <;> omega, mt_186, by rcases hk with h | h; exact Or.inl h; exact Or.inr h.2, by simp [ri_nn], rfl, rfl, hr, Or.inl rfl⟩
theorem ct_187 {a0 a1 a2 : Jvm.Term} (hi : ra_inst i = some (1, idx)) (hc : ri_cp (g_Gs n f) M idx = some (kd, 187, 3, tx)) (hk : kd = 21 ∨ (kd = 31 ∧ (ri_hh g_m_X7_roomBetween).isEmpty = true)) (hr : rest.length ≤ 4) : ra_ct (g_Gs n f) g_sh M i (a2 :: a1 :: a0 :: rest) [a0, a1, a2] rest 187 :=
  ⟨1, idx, kd, 3, tx, g_m_X7_roomBetween, hi, hc, by rcases hk with h | h <;> omega, mt_187, by rcases hk with h | h; exact Or.inl h; exact Or.inr h.2, by simp [ri_nn], rfl, rfl, hr, Or.inl rfl⟩
theorem ct_188 {a0 a1 : Jvm.Term} (hi : ra_inst i = some (1, idx)) (hc : ri_cp (g_Gs n f) M idx = some (kd, 188, 2, tx)) (hk : kd = 21 ∨ (kd = 31 ∧ (ri_hh g_m_X7_distanceOf).isEmpty = true)) (hr : rest.length ≤ 4) : ra_ct (g_Gs n f) g_sh M i (a1 :: a0 :: rest) [a0, a1] rest 188 :=
  ⟨1, idx, kd, 2, tx, g_m_X7_distanceOf, hi, hc, by rcases hk with h | h <;> omega, mt_188, by rcases hk with h | h; exact Or.inl h; exact Or.inr h.2, by simp [ri_nn], rfl, rfl, hr, Or.inl rfl⟩
theorem ct_189 {a0 a1 : Jvm.Term} (hi : ra_inst i = some (1, idx)) (hc : ri_cp (g_Gs n f) M idx = some (kd, 189, 2, tx)) (hk : kd = 21 ∨ (kd = 31 ∧ (ri_hh g_m_X7_stepsOfChunk).isEmpty = true)) (hr : rest.length ≤ 4) : ra_ct (g_Gs n f) g_sh M i (a1 :: a0 :: rest) [a0, a1] rest 189 :=
  ⟨1, idx, kd, 2, tx, g_m_X7_stepsOfChunk, hi, hc, by rcases hk with h | h <;> omega, mt_189, by rcases hk with h | h; exact Or.inl h; exact Or.inr h.2, by simp [ri_nn], rfl, rfl, hr, Or.inl rfl⟩
theorem ct_190 {a0 a1 a2 : Jvm.Term} (hi : ra_inst i = some (1, idx)) (hc : ri_cp (g_Gs n f) M idx = some (kd, 190, 3, tx)) (hk : kd = 21 ∨ (kd = 31 ∧ (ri_hh g_m_X7_stepsOfMove).isEmpty = true)) (hr : rest.length ≤ 4) : ra_ct (g_Gs n f) g_sh M i (a2 :: a1 :: a0 :: rest) [a0, a1, a2] rest 190 :=
  ⟨1, idx, kd, 3, tx, g_m_X7_stepsOfMove, hi, hc, by rcases hk with h | h <;> omega, mt_190, by rcases hk with h | h; exact Or.inl h; exact Or.inr h.2, by simp [ri_nn], rfl, rfl, hr, Or.inl rfl⟩
theorem ct_191 {k : Nat} {fl : List (Option Jvm.Term)} (hi : ra_inst i = some (2, idx)) (hc : ri_cp (g_Gs n f) M idx = some (kd, 191, 0, tx)) (hk : kd = 22 ∨ kd = 32) (hs : g_sh[k]? = some (.inl (8, fl))) (hr : rest.length ≤ 4) : ra_ct (g_Gs n f) g_sh M i (.index k :: rest) [.index k] rest 191 :=
  ⟨2, idx, kd, 0, tx, g_m_X8_init, hi, hc, hk, mt_191, Or.inr rfl, by simp [ri_nn], rfl, rfl, hr, Or.inr ⟨8, fl, (RX8, TX8, 26), hs, rfl, beq_self_eq_true RX8⟩⟩
theorem ct_192 {k : Nat} {fl : List (Option Jvm.Term)} (hi : ra_inst i = some (0, idx)) (hc : ri_cp (g_Gs n f) M idx = some (kd, 192, 0, tx)) (hk : kd = 20 ∨ kd = 30) (hs : g_sh[k]? = some (.inl (8, fl))) (hr : rest.length ≤ 4) : ra_ct (g_Gs n f) g_sh M i (.index k :: rest) [.index k] rest 192 :=
  ⟨0, idx, kd, 0, tx, g_m_X8_thrown, hi, hc, hk, mt_192, Or.inr rfl, by simp [ri_nn], rfl, rfl, hr, Or.inr ⟨8, fl, (RX8, TX8, 26), hs, rfl, beq_self_eq_true RX8⟩⟩
theorem ct_193 {a0 a1 a2 : Jvm.Term} (hi : ra_inst i = some (1, idx)) (hc : ri_cp (g_Gs n f) M idx = some (kd, 193, 3, tx)) (hk : kd = 21 ∨ (kd = 31 ∧ (ri_hh g_m_X8_inRange).isEmpty = true)) (hr : rest.length ≤ 4) : ra_ct (g_Gs n f) g_sh M i (a2 :: a1 :: a0 :: rest) [a0, a1, a2] rest 193 :=
  ⟨1, idx, kd, 3, tx, g_m_X8_inRange, hi, hc, by rcases hk with h | h <;> omega, mt_193, by rcases hk with h | h; exact Or.inl h; exact Or.inr h.2, by simp [ri_nn], rfl, rfl, hr, Or.inl rfl⟩
theorem ct_194 {a0 a1 : Jvm.Term} {k : Nat} {fl : List (Option Jvm.Term)} (hi : ra_inst i = some (0, idx)) (hc : ri_cp (g_Gs n f) M idx = some (kd, 194, 2, tx)) (hk : kd = 20 ∨ kd = 30) (hs : g_sh[k]? = some (.inl (8, fl))) (hr : rest.length ≤ 4) : ra_ct (g_Gs n f) g_sh M i (a1 :: a0 :: .index k :: rest) [.index k, a0, a1] rest 194 :=
  ⟨0, idx, kd, 2, tx, g_m_X8_fails, hi, hc, hk, mt_194, Or.inr rfl, by simp [ri_nn], rfl, rfl, hr, Or.inr ⟨8, fl, (RX8, TX8, 26), hs, rfl, beq_self_eq_true RX8⟩⟩
theorem ct_195 {a0 a1 a2 a3 a4 : Jvm.Term} (hi : ra_inst i = some (1, idx)) (hc : ri_cp (g_Gs n f) M idx = some (kd, 195, 5, tx)) (hk : kd = 21 ∨ (kd = 31 ∧ (ri_hh g_m_X8_copies).isEmpty = true)) (hr : rest.length ≤ 4) : ra_ct (g_Gs n f) g_sh M i (a4 :: a3 :: a2 :: a1 :: a0 :: rest) [a0, a1, a2, a3, a4] rest 195 :=
  ⟨1, idx, kd, 5, tx, g_m_X8_copies, hi, hc, by rcases hk with h | h <;> omega, mt_195, by rcases hk with h | h; exact Or.inl h; exact Or.inr h.2, by simp [ri_nn], rfl, rfl, hr, Or.inl rfl⟩
theorem ct_196 {a0 : Jvm.Term} {k : Nat} {fl : List (Option Jvm.Term)} (hi : ra_inst i = some (0, idx)) (hc : ri_cp (g_Gs n f) M idx = some (kd, 196, 1, tx)) (hk : kd = 20 ∨ kd = 30) (hs : g_sh[k]? = some (.inl (8, fl))) (hr : rest.length ≤ 4) : ra_ct (g_Gs n f) g_sh M i (a0 :: .index k :: rest) [.index k, a0] rest 196 :=
  ⟨0, idx, kd, 1, tx, g_m_X8_clear, hi, hc, hk, mt_196, Or.inr rfl, by simp [ri_nn], rfl, rfl, hr, Or.inr ⟨8, fl, (RX8, TX8, 26), hs, rfl, beq_self_eq_true RX8⟩⟩
theorem ct_197 {k : Nat} {fl : List (Option Jvm.Term)} (hi : ra_inst i = some (0, idx)) (hc : ri_cp (g_Gs n f) M idx = some (kd, 197, 0, tx)) (hk : kd = 20 ∨ kd = 30) (hs : g_sh[k]? = some (.inl (8, fl))) (hr : rest.length ≤ 4) : ra_ct (g_Gs n f) g_sh M i (.index k :: rest) [.index k] rest 197 :=
  ⟨0, idx, kd, 0, tx, g_m_X8_remembers, hi, hc, hk, mt_197, Or.inr rfl, by simp [ri_nn], rfl, rfl, hr, Or.inr ⟨8, fl, (RX8, TX8, 26), hs, rfl, beq_self_eq_true RX8⟩⟩
theorem ct_198 {k : Nat} {fl : List (Option Jvm.Term)} (hi : ra_inst i = some (0, idx)) (hc : ri_cp (g_Gs n f) M idx = some (kd, 198, 0, tx)) (hk : kd = 20 ∨ kd = 30) (hs : g_sh[k]? = some (.inl (8, fl))) (hr : rest.length ≤ 4) : ra_ct (g_Gs n f) g_sh M i (.index k :: rest) [.index k] rest 198 :=
  ⟨0, idx, kd, 0, tx, g_m_X8_begins, hi, hc, hk, mt_198, Or.inr rfl, by simp [ri_nn], rfl, rfl, hr, Or.inr ⟨8, fl, (RX8, TX8, 26), hs, rfl, beq_self_eq_true RX8⟩⟩
theorem ct_199 {k : Nat} {fl : List (Option Jvm.Term)} (hi : ra_inst i = some (0, idx)) (hc : ri_cp (g_Gs n f) M idx = some (kd, 199, 0, tx)) (hk : kd = 20 ∨ kd = 30) (hs : g_sh[k]? = some (.inl (8, fl))) (hr : rest.length ≤ 4) : ra_ct (g_Gs n f) g_sh M i (.index k :: rest) [.index k] rest 199 :=
  ⟨0, idx, kd, 0, tx, g_m_X8_ends, hi, hc, hk, mt_199, Or.inr rfl, by simp [ri_nn], rfl, rfl, hr, Or.inr ⟨8, fl, (RX8, TX8, 26), hs, rfl, beq_self_eq_true RX8⟩⟩
theorem ct_200 {a0 a1 : Jvm.Term} {k : Nat} {fl : List (Option Jvm.Term)} (hi : ra_inst i = some (0, idx)) (hc : ri_cp (g_Gs n f) M idx = some (kd, 200, 2, tx)) (hk : kd = 20 ∨ kd = 30) (hs : g_sh[k]? = some (.inl (8, fl))) (hr : rest.length ≤ 4) : ra_ct (g_Gs n f) g_sh M i (a1 :: a0 :: .index k :: rest) [.index k, a0, a1] rest 200 :=
  ⟨0, idx, kd, 2, tx, g_m_X8_of, hi, hc, hk, mt_200, Or.inr rfl, by simp [ri_nn], rfl, rfl, hr, Or.inr ⟨8, fl, (RX8, TX8, 26), hs, rfl, beq_self_eq_true RX8⟩⟩
theorem ct_201 {a0 a1 a2 : Jvm.Term} {k : Nat} {fl : List (Option Jvm.Term)} (hi : ra_inst i = some (0, idx)) (hc : ri_cp (g_Gs n f) M idx = some (kd, 201, 3, tx)) (hk : kd = 20 ∨ kd = 30) (hs : g_sh[k]? = some (.inl (8, fl))) (hr : rest.length ≤ 4) : ra_ct (g_Gs n f) g_sh M i (a2 :: a1 :: a0 :: .index k :: rest) [.index k, a0, a1, a2] rest 201 :=
  ⟨0, idx, kd, 3, tx, g_m_X8_put, hi, hc, hk, mt_201, Or.inr rfl, by simp [ri_nn], rfl, rfl, hr, Or.inr ⟨8, fl, (RX8, TX8, 26), hs, rfl, beq_self_eq_true RX8⟩⟩
theorem ct_202 {a0 : Jvm.Term} {k : Nat} {fl : List (Option Jvm.Term)} (hi : ra_inst i = some (0, idx)) (hc : ri_cp (g_Gs n f) M idx = some (kd, 202, 1, tx)) (hk : kd = 20 ∨ kd = 30) (hs : g_sh[k]? = some (.inl (8, fl))) (hr : rest.length ≤ 4) : ra_ct (g_Gs n f) g_sh M i (a0 :: .index k :: rest) [.index k, a0] rest 202 :=
  ⟨0, idx, kd, 1, tx, g_m_X8_stands, hi, hc, hk, mt_202, Or.inr rfl, by simp [ri_nn], rfl, rfl, hr, Or.inr ⟨8, fl, (RX8, TX8, 26), hs, rfl, beq_self_eq_true RX8⟩⟩
theorem ct_203 {k : Nat} {fl : List (Option Jvm.Term)} (hi : ra_inst i = some (0, idx)) (hc : ri_cp (g_Gs n f) M idx = some (kd, 203, 0, tx)) (hk : kd = 20 ∨ kd = 30) (hs : g_sh[k]? = some (.inl (8, fl))) (hr : rest.length ≤ 4) : ra_ct (g_Gs n f) g_sh M i (.index k :: rest) [.index k] rest 203 :=
  ⟨0, idx, kd, 0, tx, g_m_X8_partsMany, hi, hc, hk, mt_203, Or.inr rfl, by simp [ri_nn], rfl, rfl, hr, Or.inr ⟨8, fl, (RX8, TX8, 26), hs, rfl, beq_self_eq_true RX8⟩⟩
theorem ct_204 {k : Nat} {fl : List (Option Jvm.Term)} (hi : ra_inst i = some (0, idx)) (hc : ri_cp (g_Gs n f) M idx = some (kd, 204, 0, tx)) (hk : kd = 20 ∨ kd = 30) (hs : g_sh[k]? = some (.inl (8, fl))) (hr : rest.length ≤ 4) : ra_ct (g_Gs n f) g_sh M i (.index k :: rest) [.index k] rest 204 :=
  ⟨0, idx, kd, 0, tx, g_m_X8_isMoving, hi, hc, hk, mt_204, Or.inr rfl, by simp [ri_nn], rfl, rfl, hr, Or.inr ⟨8, fl, (RX8, TX8, 26), hs, rfl, beq_self_eq_true RX8⟩⟩
theorem ct_205 {a0 : Jvm.Term} {k : Nat} {fl : List (Option Jvm.Term)} (hi : ra_inst i = some (0, idx)) (hc : ri_cp (g_Gs n f) M idx = some (kd, 205, 1, tx)) (hk : kd = 20 ∨ kd = 30) (hs : g_sh[k]? = some (.inl (8, fl))) (hr : rest.length ≤ 4) : ra_ct (g_Gs n f) g_sh M i (a0 :: .index k :: rest) [.index k, a0] rest 205 :=
  ⟨0, idx, kd, 1, tx, g_m_X8_isMoved, hi, hc, hk, mt_205, Or.inr rfl, by simp [ri_nn], rfl, rfl, hr, Or.inr ⟨8, fl, (RX8, TX8, 26), hs, rfl, beq_self_eq_true RX8⟩⟩
theorem ct_206 {a0 : Jvm.Term} {k : Nat} {fl : List (Option Jvm.Term)} (hi : ra_inst i = some (0, idx)) (hc : ri_cp (g_Gs n f) M idx = some (kd, 206, 1, tx)) (hk : kd = 20 ∨ kd = 30) (hs : g_sh[k]? = some (.inl (8, fl))) (hr : rest.length ≤ 4) : ra_ct (g_Gs n f) g_sh M i (a0 :: .index k :: rest) [.index k, a0] rest 206 :=
  ⟨0, idx, kd, 1, tx, g_m_X8_isFixed, hi, hc, hk, mt_206, Or.inr rfl, by simp [ri_nn], rfl, rfl, hr, Or.inr ⟨8, fl, (RX8, TX8, 26), hs, rfl, beq_self_eq_true RX8⟩⟩
theorem ct_207 {a0 a1 : Jvm.Term} (hi : ra_inst i = some (1, idx)) (hc : ri_cp (g_Gs n f) M idx = some (kd, 207, 2, tx)) (hk : kd = 21 ∨ (kd = 31 ∧ (ri_hh g_m_X8_up).isEmpty = true)) (hr : rest.length ≤ 4) : ra_ct (g_Gs n f) g_sh M i (a1 :: a0 :: rest) [a0, a1] rest 207 :=
  ⟨1, idx, kd, 2, tx, g_m_X8_up, hi, hc, by rcases hk with h | h <;> omega, mt_207, by rcases hk with h | h; exact Or.inl h; exact Or.inr h.2, by simp [ri_nn], rfl, rfl, hr, Or.inl rfl⟩
theorem ct_208 {a0 a1 : Jvm.Term} {k : Nat} {fl : List (Option Jvm.Term)} (hi : ra_inst i = some (0, idx)) (hc : ri_cp (g_Gs n f) M idx = some (kd, 208, 2, tx)) (hk : kd = 20 ∨ kd = 30) (hs : g_sh[k]? = some (.inl (8, fl))) (hr : rest.length ≤ 4) : ra_ct (g_Gs n f) g_sh M i (a1 :: a0 :: .index k :: rest) [.index k, a0, a1] rest 208 :=
  ⟨0, idx, kd, 2, tx, g_m_X8_numberOf, hi, hc, hk, mt_208, Or.inr rfl, by simp [ri_nn], rfl, rfl, hr, Or.inr ⟨8, fl, (RX8, TX8, 26), hs, rfl, beq_self_eq_true RX8⟩⟩
theorem ct_209 {a0 a1 : Jvm.Term} {k : Nat} {fl : List (Option Jvm.Term)} (hi : ra_inst i = some (0, idx)) (hc : ri_cp (g_Gs n f) M idx = some (kd, 209, 2, tx)) (hk : kd = 20 ∨ kd = 30) (hs : g_sh[k]? = some (.inl (8, fl))) (hr : rest.length ≤ 4) : ra_ct (g_Gs n f) g_sh M i (a1 :: a0 :: .index k :: rest) [.index k, a0, a1] rest 209 :=
  ⟨0, idx, kd, 2, tx, g_m_X8_writes, hi, hc, hk, mt_209, Or.inr rfl, by simp [ri_nn], rfl, rfl, hr, Or.inr ⟨8, fl, (RX8, TX8, 26), hs, rfl, beq_self_eq_true RX8⟩⟩
theorem ct_210 {a0 a1 a2 a3 : Jvm.Term} {k : Nat} {fl : List (Option Jvm.Term)} (hi : ra_inst i = some (0, idx)) (hc : ri_cp (g_Gs n f) M idx = some (kd, 210, 4, tx)) (hk : kd = 20 ∨ kd = 30) (hs : g_sh[k]? = some (.inl (8, fl))) (hr : rest.length ≤ 4) : ra_ct (g_Gs n f) g_sh M i (a3 :: a2 :: a1 :: a0 :: .index k :: rest) [.index k, a0, a1, a2, a3] rest 210 :=
  ⟨0, idx, kd, 4, tx, g_m_X8_makes, hi, hc, hk, mt_210, Or.inr rfl, by simp [ri_nn], rfl, rfl, hr, Or.inr ⟨8, fl, (RX8, TX8, 26), hs, rfl, beq_self_eq_true RX8⟩⟩
theorem ct_211 {a0 a1 : Jvm.Term} {k : Nat} {fl : List (Option Jvm.Term)} (hi : ra_inst i = some (0, idx)) (hc : ri_cp (g_Gs n f) M idx = some (kd, 211, 2, tx)) (hk : kd = 20 ∨ kd = 30) (hs : g_sh[k]? = some (.inl (8, fl))) (hr : rest.length ≤ 4) : ra_ct (g_Gs n f) g_sh M i (a1 :: a0 :: .index k :: rest) [.index k, a0, a1] rest 211 :=
  ⟨0, idx, kd, 2, tx, g_m_X8_isUsable, hi, hc, hk, mt_211, Or.inr rfl, by simp [ri_nn], rfl, rfl, hr, Or.inr ⟨8, fl, (RX8, TX8, 26), hs, rfl, beq_self_eq_true RX8⟩⟩
theorem ct_212 {a0 a1 a2 a3 : Jvm.Term} (hi : ra_inst i = some (1, idx)) (hc : ri_cp (g_Gs n f) M idx = some (kd, 212, 4, tx)) (hk : kd = 21 ∨ (kd = 31 ∧ (ri_hh g_m_X8_meet).isEmpty = true)) (hr : rest.length ≤ 4) : ra_ct (g_Gs n f) g_sh M i (a3 :: a2 :: a1 :: a0 :: rest) [a0, a1, a2, a3] rest 212 :=
  ⟨1, idx, kd, 4, tx, g_m_X8_meet, hi, hc, by rcases hk with h | h <;> omega, mt_212, by rcases hk with h | h; exact Or.inl h; exact Or.inr h.2, by simp [ri_nn], rfl, rfl, hr, Or.inl rfl⟩
theorem ct_213 {a0 a1 a2 : Jvm.Term} {k : Nat} {fl : List (Option Jvm.Term)} (hi : ra_inst i = some (0, idx)) (hc : ri_cp (g_Gs n f) M idx = some (kd, 213, 3, tx)) (hk : kd = 20 ∨ kd = 30) (hs : g_sh[k]? = some (.inl (8, fl))) (hr : rest.length ≤ 4) : ra_ct (g_Gs n f) g_sh M i (a2 :: a1 :: a0 :: .index k :: rest) [.index k, a0, a1, a2] rest 213 :=
  ⟨0, idx, kd, 3, tx, g_m_X8_isTaken, hi, hc, hk, mt_213, Or.inr rfl, by simp [ri_nn], rfl, rfl, hr, Or.inr ⟨8, fl, (RX8, TX8, 26), hs, rfl, beq_self_eq_true RX8⟩⟩
theorem ct_214 {k : Nat} {fl : List (Option Jvm.Term)} (hi : ra_inst i = some (0, idx)) (hc : ri_cp (g_Gs n f) M idx = some (kd, 214, 0, tx)) (hk : kd = 20 ∨ kd = 30) (hs : g_sh[k]? = some (.inl (8, fl))) (hr : rest.length ≤ 4) : ra_ct (g_Gs n f) g_sh M i (.index k :: rest) [.index k] rest 214 :=
  ⟨0, idx, kd, 0, tx, g_m_X8_scratchSize, hi, hc, hk, mt_214, Or.inr rfl, by simp [ri_nn], rfl, rfl, hr, Or.inr ⟨8, fl, (RX8, TX8, 26), hs, rfl, beq_self_eq_true RX8⟩⟩
theorem ct_215 {a0 a1 : Jvm.Term} {k : Nat} {fl : List (Option Jvm.Term)} (hi : ra_inst i = some (0, idx)) (hc : ri_cp (g_Gs n f) M idx = some (kd, 215, 2, tx)) (hk : kd = 20 ∨ kd = 30) (hs : g_sh[k]? = some (.inl (8, fl))) (hr : rest.length ≤ 4) : ra_ct (g_Gs n f) g_sh M i (a1 :: a0 :: .index k :: rest) [.index k, a0, a1] rest 215 :=
  ⟨0, idx, kd, 2, tx, g_m_X8_isBusy, hi, hc, hk, mt_215, Or.inr rfl, by simp [ri_nn], rfl, rfl, hr, Or.inr ⟨8, fl, (RX8, TX8, 26), hs, rfl, beq_self_eq_true RX8⟩⟩
theorem ct_216 {a0 a1 : Jvm.Term} {k : Nat} {fl : List (Option Jvm.Term)} (hi : ra_inst i = some (0, idx)) (hc : ri_cp (g_Gs n f) M idx = some (kd, 216, 2, tx)) (hk : kd = 20 ∨ kd = 30) (hs : g_sh[k]? = some (.inl (8, fl))) (hr : rest.length ≤ 4) : ra_ct (g_Gs n f) g_sh M i (a1 :: a0 :: .index k :: rest) [.index k, a0, a1] rest 216 :=
  ⟨0, idx, kd, 2, tx, g_m_X8_whyNot, hi, hc, hk, mt_216, Or.inr rfl, by simp [ri_nn], rfl, rfl, hr, Or.inr ⟨8, fl, (RX8, TX8, 26), hs, rfl, beq_self_eq_true RX8⟩⟩
theorem ct_217 {a0 : Jvm.Term} {k : Nat} {fl : List (Option Jvm.Term)} (hi : ra_inst i = some (0, idx)) (hc : ri_cp (g_Gs n f) M idx = some (kd, 217, 1, tx)) (hk : kd = 20 ∨ kd = 30) (hs : g_sh[k]? = some (.inl (8, fl))) (hr : rest.length ≤ 4) : ra_ct (g_Gs n f) g_sh M i (a0 :: .index k :: rest) [.index k, a0] rest 217 :=
  ⟨0, idx, kd, 1, tx, g_m_X8_isFree, hi, hc, hk, mt_217, Or.inr rfl, by simp [ri_nn], rfl, rfl, hr, Or.inr ⟨8, fl, (RX8, TX8, 26), hs, rfl, beq_self_eq_true RX8⟩⟩
theorem ct_218 {k : Nat} {fl : List (Option Jvm.Term)} (hi : ra_inst i = some (0, idx)) (hc : ri_cp (g_Gs n f) M idx = some (kd, 218, 0, tx)) (hk : kd = 20 ∨ kd = 30) (hs : g_sh[k]? = some (.inl (8, fl))) (hr : rest.length ≤ 4) : ra_ct (g_Gs n f) g_sh M i (.index k :: rest) [.index k] rest 218 :=
  ⟨0, idx, kd, 0, tx, g_m_X8_laysGaps, hi, hc, hk, mt_218, Or.inr rfl, by simp [ri_nn], rfl, rfl, hr, Or.inr ⟨8, fl, (RX8, TX8, 26), hs, rfl, beq_self_eq_true RX8⟩⟩
theorem ct_219 {a0 : Jvm.Term} {k : Nat} {fl : List (Option Jvm.Term)} (hi : ra_inst i = some (0, idx)) (hc : ri_cp (g_Gs n f) M idx = some (kd, 219, 1, tx)) (hk : kd = 20 ∨ kd = 30) (hs : g_sh[k]? = some (.inl (8, fl))) (hr : rest.length ≤ 4) : ra_ct (g_Gs n f) g_sh M i (a0 :: .index k :: rest) [.index k, a0] rest 219 :=
  ⟨0, idx, kd, 1, tx, g_m_X8_roomStart, hi, hc, hk, mt_219, Or.inr rfl, by simp [ri_nn], rfl, rfl, hr, Or.inr ⟨8, fl, (RX8, TX8, 26), hs, rfl, beq_self_eq_true RX8⟩⟩
theorem ct_220 {a0 : Jvm.Term} {k : Nat} {fl : List (Option Jvm.Term)} (hi : ra_inst i = some (0, idx)) (hc : ri_cp (g_Gs n f) M idx = some (kd, 220, 1, tx)) (hk : kd = 20 ∨ kd = 30) (hs : g_sh[k]? = some (.inl (8, fl))) (hr : rest.length ≤ 4) : ra_ct (g_Gs n f) g_sh M i (a0 :: .index k :: rest) [.index k, a0] rest 220 :=
  ⟨0, idx, kd, 1, tx, g_m_X8_roomSize, hi, hc, hk, mt_220, Or.inr rfl, by simp [ri_nn], rfl, rfl, hr, Or.inr ⟨8, fl, (RX8, TX8, 26), hs, rfl, beq_self_eq_true RX8⟩⟩
theorem ct_221 {k : Nat} {fl : List (Option Jvm.Term)} (hi : ra_inst i = some (0, idx)) (hc : ri_cp (g_Gs n f) M idx = some (kd, 221, 0, tx)) (hk : kd = 20 ∨ kd = 30) (hs : g_sh[k]? = some (.inl (8, fl))) (hr : rest.length ≤ 4) : ra_ct (g_Gs n f) g_sh M i (.index k :: rest) [.index k] rest 221 :=
  ⟨0, idx, kd, 0, tx, g_m_X8_mostRoom, hi, hc, hk, mt_221, Or.inr rfl, by simp [ri_nn], rfl, rfl, hr, Or.inr ⟨8, fl, (RX8, TX8, 26), hs, rfl, beq_self_eq_true RX8⟩⟩
theorem ct_222 {a0 a1 : Jvm.Term} {k : Nat} {fl : List (Option Jvm.Term)} (hi : ra_inst i = some (0, idx)) (hc : ri_cp (g_Gs n f) M idx = some (kd, 222, 2, tx)) (hk : kd = 20 ∨ kd = 30) (hs : g_sh[k]? = some (.inl (8, fl))) (hr : rest.length ≤ 4) : ra_ct (g_Gs n f) g_sh M i (a1 :: a0 :: .index k :: rest) [.index k, a0, a1] rest 222 :=
  ⟨0, idx, kd, 2, tx, g_m_X8_fits, hi, hc, hk, mt_222, Or.inr rfl, by simp [ri_nn], rfl, rfl, hr, Or.inr ⟨8, fl, (RX8, TX8, 26), hs, rfl, beq_self_eq_true RX8⟩⟩
theorem ct_223 {a0 a1 a2 : Jvm.Term} {k : Nat} {fl : List (Option Jvm.Term)} (hi : ra_inst i = some (0, idx)) (hc : ri_cp (g_Gs n f) M idx = some (kd, 223, 3, tx)) (hk : kd = 20 ∨ kd = 30) (hs : g_sh[k]? = some (.inl (8, fl))) (hr : rest.length ≤ 4) : ra_ct (g_Gs n f) g_sh M i (a2 :: a1 :: a0 :: .index k :: rest) [.index k, a0, a1, a2] rest 223 :=
  ⟨0, idx, kd, 3, tx, g_m_X8_scratchFor, hi, hc, hk, mt_223, Or.inr rfl, by simp [ri_nn], rfl, rfl, hr, Or.inr ⟨8, fl, (RX8, TX8, 26), hs, rfl, beq_self_eq_true RX8⟩⟩
theorem ct_224 {a0 a1 : Jvm.Term} {k : Nat} {fl : List (Option Jvm.Term)} (hi : ra_inst i = some (0, idx)) (hc : ri_cp (g_Gs n f) M idx = some (kd, 224, 2, tx)) (hk : kd = 20 ∨ kd = 30) (hs : g_sh[k]? = some (.inl (8, fl))) (hr : rest.length ≤ 4) : ra_ct (g_Gs n f) g_sh M i (a1 :: a0 :: .index k :: rest) [.index k, a0, a1] rest 224 :=
  ⟨0, idx, kd, 2, tx, g_m_X8_whyNotMoved, hi, hc, hk, mt_224, Or.inr rfl, by simp [ri_nn], rfl, rfl, hr, Or.inr ⟨8, fl, (RX8, TX8, 26), hs, rfl, beq_self_eq_true RX8⟩⟩
theorem ct_225 {a0 a1 : Jvm.Term} (hi : ra_inst i = some (1, idx)) (hc : ri_cp (g_Gs n f) M idx = some (kd, 225, 2, tx)) (hk : kd = 21 ∨ (kd = 31 ∧ (ri_hh g_m_X8_far).isEmpty = true)) (hr : rest.length ≤ 4) : ra_ct (g_Gs n f) g_sh M i (a1 :: a0 :: rest) [a0, a1] rest 225 :=
  ⟨1, idx, kd, 2, tx, g_m_X8_far, hi, hc, by rcases hk with h | h <;> omega, mt_225, by rcases hk with h | h; exact Or.inl h; exact Or.inr h.2, by simp [ri_nn], rfl, rfl, hr, Or.inl rfl⟩
theorem ct_226 {a0 a1 a2 a3 a4 : Jvm.Term} (hi : ra_inst i = some (1, idx)) (hc : ri_cp (g_Gs n f) M idx = some (kd, 226, 5, tx)) (hk : kd = 21 ∨ (kd = 31 ∧ (ri_hh g_m_X8_stepsOf).isEmpty = true)) (hr : rest.length ≤ 4) : ra_ct (g_Gs n f) g_sh M i (a4 :: a3 :: a2 :: a1 :: a0 :: rest) [a0, a1, a2, a3, a4] rest 226 :=
  ⟨1, idx, kd, 5, tx, g_m_X8_stepsOf, hi, hc, by rcases hk with h | h <;> omega, mt_226, by rcases hk with h | h; exact Or.inl h; exact Or.inr h.2, by simp [ri_nn], rfl, rfl, hr, Or.inl rfl⟩
theorem ct_227 {a0 a1 : Jvm.Term} {k : Nat} {fl : List (Option Jvm.Term)} (hi : ra_inst i = some (0, idx)) (hc : ri_cp (g_Gs n f) M idx = some (kd, 227, 2, tx)) (hk : kd = 20 ∨ kd = 30) (hs : g_sh[k]? = some (.inl (8, fl))) (hr : rest.length ≤ 4) : ra_ct (g_Gs n f) g_sh M i (a1 :: a0 :: .index k :: rest) [.index k, a0, a1] rest 227 :=
  ⟨0, idx, kd, 2, tx, g_m_X8_stepsBy, hi, hc, hk, mt_227, Or.inr rfl, by simp [ri_nn], rfl, rfl, hr, Or.inr ⟨8, fl, (RX8, TX8, 26), hs, rfl, beq_self_eq_true RX8⟩⟩
theorem ct_228 {k : Nat} {fl : List (Option Jvm.Term)} (hi : ra_inst i = some (0, idx)) (hc : ri_cp (g_Gs n f) M idx = some (kd, 228, 0, tx)) (hk : kd = 20 ∨ kd = 30) (hs : g_sh[k]? = some (.inl (8, fl))) (hr : rest.length ≤ 4) : ra_ct (g_Gs n f) g_sh M i (.index k :: rest) [.index k] rest 228 :=
  ⟨0, idx, kd, 0, tx, g_m_X8_chunks, hi, hc, hk, mt_228, Or.inr rfl, by simp [ri_nn], rfl, rfl, hr, Or.inr ⟨8, fl, (RX8, TX8, 26), hs, rfl, beq_self_eq_true RX8⟩⟩
theorem ct_229 {k : Nat} {fl : List (Option Jvm.Term)} (hi : ra_inst i = some (0, idx)) (hc : ri_cp (g_Gs n f) M idx = some (kd, 229, 0, tx)) (hk : kd = 20 ∨ kd = 30) (hs : g_sh[k]? = some (.inl (8, fl))) (hr : rest.length ≤ 4) : ra_ct (g_Gs n f) g_sh M i (.index k :: rest) [.index k] rest 229 :=
  ⟨0, idx, kd, 0, tx, g_m_X8_distance, hi, hc, hk, mt_229, Or.inr rfl, by simp [ri_nn], rfl, rfl, hr, Or.inr ⟨8, fl, (RX8, TX8, 26), hs, rfl, beq_self_eq_true RX8⟩⟩
theorem ct_230 {k : Nat} {fl : List (Option Jvm.Term)} (hi : ra_inst i = some (0, idx)) (hc : ri_cp (g_Gs n f) M idx = some (kd, 230, 0, tx)) (hk : kd = 20 ∨ kd = 30) (hs : g_sh[k]? = some (.inl (8, fl))) (hr : rest.length ≤ 4) : ra_ct (g_Gs n f) g_sh M i (.index k :: rest) [.index k] rest 230 :=
  ⟨0, idx, kd, 0, tx, g_m_X8_isAscending, hi, hc, hk, mt_230, Or.inr rfl, by simp [ri_nn], rfl, rfl, hr, Or.inr ⟨8, fl, (RX8, TX8, 26), hs, rfl, beq_self_eq_true RX8⟩⟩
theorem ct_231 {a0 : Jvm.Term} {k : Nat} {fl : List (Option Jvm.Term)} (hi : ra_inst i = some (0, idx)) (hc : ri_cp (g_Gs n f) M idx = some (kd, 231, 1, tx)) (hk : kd = 20 ∨ kd = 30) (hs : g_sh[k]? = some (.inl (8, fl))) (hr : rest.length ≤ 4) : ra_ct (g_Gs n f) g_sh M i (a0 :: .index k :: rest) [.index k, a0] rest 231 :=
  ⟨0, idx, kd, 1, tx, g_m_X8_isChunkMoved, hi, hc, hk, mt_231, Or.inr rfl, by simp [ri_nn], rfl, rfl, hr, Or.inr ⟨8, fl, (RX8, TX8, 26), hs, rfl, beq_self_eq_true RX8⟩⟩
theorem ct_232 {k : Nat} {fl : List (Option Jvm.Term)} (hi : ra_inst i = some (0, idx)) (hc : ri_cp (g_Gs n f) M idx = some (kd, 232, 0, tx)) (hk : kd = 20 ∨ kd = 30) (hs : g_sh[k]? = some (.inl (8, fl))) (hr : rest.length ≤ 4) : ra_ct (g_Gs n f) g_sh M i (.index k :: rest) [.index k] rest 232 :=
  ⟨0, idx, kd, 0, tx, g_m_X8_nextChunk, hi, hc, hk, mt_232, Or.inr rfl, by simp [ri_nn], rfl, rfl, hr, Or.inr ⟨8, fl, (RX8, TX8, 26), hs, rfl, beq_self_eq_true RX8⟩⟩
theorem ct_233 {k : Nat} {fl : List (Option Jvm.Term)} (hi : ra_inst i = some (0, idx)) (hc : ri_cp (g_Gs n f) M idx = some (kd, 233, 0, tx)) (hk : kd = 20 ∨ kd = 30) (hs : g_sh[k]? = some (.inl (8, fl))) (hr : rest.length ≤ 4) : ra_ct (g_Gs n f) g_sh M i (.index k :: rest) [.index k] rest 233 :=
  ⟨0, idx, kd, 0, tx, g_m_X8_firstBlock, hi, hc, hk, mt_233, Or.inr rfl, by simp [ri_nn], rfl, rfl, hr, Or.inr ⟨8, fl, (RX8, TX8, 26), hs, rfl, beq_self_eq_true RX8⟩⟩
theorem ct_234 {k : Nat} {fl : List (Option Jvm.Term)} (hi : ra_inst i = some (0, idx)) (hc : ri_cp (g_Gs n f) M idx = some (kd, 234, 0, tx)) (hk : kd = 20 ∨ kd = 30) (hs : g_sh[k]? = some (.inl (8, fl))) (hr : rest.length ≤ 4) : ra_ct (g_Gs n f) g_sh M i (.index k :: rest) [.index k] rest 234 :=
  ⟨0, idx, kd, 0, tx, g_m_X8_blocksNext, hi, hc, hk, mt_234, Or.inr rfl, by simp [ri_nn], rfl, rfl, hr, Or.inr ⟨8, fl, (RX8, TX8, 26), hs, rfl, beq_self_eq_true RX8⟩⟩
theorem ct_235 {k : Nat} {fl : List (Option Jvm.Term)} (hi : ra_inst i = some (0, idx)) (hc : ri_cp (g_Gs n f) M idx = some (kd, 235, 0, tx)) (hk : kd = 20 ∨ kd = 30) (hs : g_sh[k]? = some (.inl (8, fl))) (hr : rest.length ≤ 4) : ra_ct (g_Gs n f) g_sh M i (.index k :: rest) [.index k] rest 235 :=
  ⟨0, idx, kd, 0, tx, g_m_X8_stepsLeft, hi, hc, hk, mt_235, Or.inr rfl, by simp [ri_nn], rfl, rfl, hr, Or.inr ⟨8, fl, (RX8, TX8, 26), hs, rfl, beq_self_eq_true RX8⟩⟩
theorem ct_236 {k : Nat} {fl : List (Option Jvm.Term)} (hi : ra_inst i = some (0, idx)) (hc : ri_cp (g_Gs n f) M idx = some (kd, 236, 0, tx)) (hk : kd = 20 ∨ kd = 30) (hs : g_sh[k]? = some (.inl (8, fl))) (hr : rest.length ≤ 4) : ra_ct (g_Gs n f) g_sh M i (.index k :: rest) [.index k] rest 236 :=
  ⟨0, idx, kd, 0, tx, g_m_X8_stepKind, hi, hc, hk, mt_236, Or.inr rfl, by simp [ri_nn], rfl, rfl, hr, Or.inr ⟨8, fl, (RX8, TX8, 26), hs, rfl, beq_self_eq_true RX8⟩⟩
theorem ct_237 {a0 : Jvm.Term} {k : Nat} {fl : List (Option Jvm.Term)} (hi : ra_inst i = some (0, idx)) (hc : ri_cp (g_Gs n f) M idx = some (kd, 237, 1, tx)) (hk : kd = 20 ∨ kd = 30) (hs : g_sh[k]? = some (.inl (8, fl))) (hr : rest.length ≤ 4) : ra_ct (g_Gs n f) g_sh M i (a0 :: .index k :: rest) [.index k, a0] rest 237 :=
  ⟨0, idx, kd, 1, tx, g_m_X8_sourceOf, hi, hc, hk, mt_237, Or.inr rfl, by simp [ri_nn], rfl, rfl, hr, Or.inr ⟨8, fl, (RX8, TX8, 26), hs, rfl, beq_self_eq_true RX8⟩⟩
theorem ct_238 {a0 : Jvm.Term} {k : Nat} {fl : List (Option Jvm.Term)} (hi : ra_inst i = some (0, idx)) (hc : ri_cp (g_Gs n f) M idx = some (kd, 238, 1, tx)) (hk : kd = 20 ∨ kd = 30) (hs : g_sh[k]? = some (.inl (8, fl))) (hr : rest.length ≤ 4) : ra_ct (g_Gs n f) g_sh M i (a0 :: .index k :: rest) [.index k, a0] rest 238 :=
  ⟨0, idx, kd, 1, tx, g_m_X8_targetOf, hi, hc, hk, mt_238, Or.inr rfl, by simp [ri_nn], rfl, rfl, hr, Or.inr ⟨8, fl, (RX8, TX8, 26), hs, rfl, beq_self_eq_true RX8⟩⟩
theorem ct_239 {a0 : Jvm.Term} {k : Nat} {fl : List (Option Jvm.Term)} (hi : ra_inst i = some (0, idx)) (hc : ri_cp (g_Gs n f) M idx = some (kd, 239, 1, tx)) (hk : kd = 20 ∨ kd = 30) (hs : g_sh[k]? = some (.inl (8, fl))) (hr : rest.length ≤ 4) : ra_ct (g_Gs n f) g_sh M i (a0 :: .index k :: rest) [.index k, a0] rest 239 :=
  ⟨0, idx, kd, 1, tx, g_m_X8_copiesBlocks, hi, hc, hk, mt_239, Or.inr rfl, by simp [ri_nn], rfl, rfl, hr, Or.inr ⟨8, fl, (RX8, TX8, 26), hs, rfl, beq_self_eq_true RX8⟩⟩
theorem ct_240 {a0 a1 : Jvm.Term} {k : Nat} {fl : List (Option Jvm.Term)} (hi : ra_inst i = some (0, idx)) (hc : ri_cp (g_Gs n f) M idx = some (kd, 240, 2, tx)) (hk : kd = 20 ∨ kd = 30) (hs : g_sh[k]? = some (.inl (8, fl))) (hr : rest.length ≤ 4) : ra_ct (g_Gs n f) g_sh M i (a1 :: a0 :: .index k :: rest) [.index k, a0, a1] rest 240 :=
  ⟨0, idx, kd, 2, tx, g_m_X8_starts, hi, hc, hk, mt_240, Or.inr rfl, by simp [ri_nn], rfl, rfl, hr, Or.inr ⟨8, fl, (RX8, TX8, 26), hs, rfl, beq_self_eq_true RX8⟩⟩
theorem ct_241 {k : Nat} {fl : List (Option Jvm.Term)} (hi : ra_inst i = some (0, idx)) (hc : ri_cp (g_Gs n f) M idx = some (kd, 241, 0, tx)) (hk : kd = 20 ∨ kd = 30) (hs : g_sh[k]? = some (.inl (8, fl))) (hr : rest.length ≤ 4) : ra_ct (g_Gs n f) g_sh M i (.index k :: rest) [.index k] rest 241 :=
  ⟨0, idx, kd, 0, tx, g_m_X8_step, hi, hc, hk, mt_241, Or.inr rfl, by simp [ri_nn], rfl, rfl, hr, Or.inr ⟨8, fl, (RX8, TX8, 26), hs, rfl, beq_self_eq_true RX8⟩⟩
theorem ct_242 {a0 : Jvm.Term} {k : Nat} {fl : List (Option Jvm.Term)} (hi : ra_inst i = some (0, idx)) (hc : ri_cp (g_Gs n f) M idx = some (kd, 242, 1, tx)) (hk : kd = 20 ∨ kd = 30) (hs : g_sh[k]? = some (.inl (8, fl))) (hr : rest.length ≤ 4) : ra_ct (g_Gs n f) g_sh M i (a0 :: .index k :: rest) [.index k, a0] rest 242 :=
  ⟨0, idx, kd, 1, tx, g_m_X8_runs, hi, hc, hk, mt_242, Or.inr rfl, by simp [ri_nn], rfl, rfl, hr, Or.inr ⟨8, fl, (RX8, TX8, 26), hs, rfl, beq_self_eq_true RX8⟩⟩
theorem ct_243 {a0 a1 : Jvm.Term} {k : Nat} {fl : List (Option Jvm.Term)} (hi : ra_inst i = some (0, idx)) (hc : ri_cp (g_Gs n f) M idx = some (kd, 243, 2, tx)) (hk : kd = 20 ∨ kd = 30) (hs : g_sh[k]? = some (.inl (8, fl))) (hr : rest.length ≤ 4) : ra_ct (g_Gs n f) g_sh M i (a1 :: a0 :: .index k :: rest) [.index k, a0, a1] rest 243 :=
  ⟨0, idx, kd, 2, tx, g_m_X8_placeOf, hi, hc, hk, mt_243, Or.inr rfl, by simp [ri_nn], rfl, rfl, hr, Or.inr ⟨8, fl, (RX8, TX8, 26), hs, rfl, beq_self_eq_true RX8⟩⟩
theorem ct_244 {a0 : Jvm.Term} {k : Nat} {fl : List (Option Jvm.Term)} (hi : ra_inst i = some (0, idx)) (hc : ri_cp (g_Gs n f) M idx = some (kd, 244, 1, tx)) (hk : kd = 20 ∨ kd = 30) (hs : g_sh[k]? = some (.inl (8, fl))) (hr : rest.length ≤ 4) : ra_ct (g_Gs n f) g_sh M i (a0 :: .index k :: rest) [.index k, a0] rest 244 :=
  ⟨0, idx, kd, 1, tx, g_m_X8_leftOf, hi, hc, hk, mt_244, Or.inr rfl, by simp [ri_nn], rfl, rfl, hr, Or.inr ⟨8, fl, (RX8, TX8, 26), hs, rfl, beq_self_eq_true RX8⟩⟩
theorem ct_245 {a0 : Jvm.Term} {k : Nat} {fl : List (Option Jvm.Term)} (hi : ra_inst i = some (0, idx)) (hc : ri_cp (g_Gs n f) M idx = some (kd, 245, 1, tx)) (hk : kd = 20 ∨ kd = 30) (hs : g_sh[k]? = some (.inl (8, fl))) (hr : rest.length ≤ 4) : ra_ct (g_Gs n f) g_sh M i (a0 :: .index k :: rest) [.index k, a0] rest 245 :=
  ⟨0, idx, kd, 1, tx, g_m_X8_rightOf, hi, hc, hk, mt_245, Or.inr rfl, by simp [ri_nn], rfl, rfl, hr, Or.inr ⟨8, fl, (RX8, TX8, 26), hs, rfl, beq_self_eq_true RX8⟩⟩
theorem ct_246 {a0 : Jvm.Term} {k : Nat} {fl : List (Option Jvm.Term)} (hi : ra_inst i = some (0, idx)) (hc : ri_cp (g_Gs n f) M idx = some (kd, 246, 1, tx)) (hk : kd = 20 ∨ kd = 30) (hs : g_sh[k]? = some (.inl (8, fl))) (hr : rest.length ≤ 4) : ra_ct (g_Gs n f) g_sh M i (a0 :: .index k :: rest) [.index k, a0] rest 246 :=
  ⟨0, idx, kd, 1, tx, g_m_X8_appendWord, hi, hc, hk, mt_246, Or.inr rfl, by simp [ri_nn], rfl, rfl, hr, Or.inr ⟨8, fl, (RX8, TX8, 26), hs, rfl, beq_self_eq_true RX8⟩⟩
theorem ct_247 {a0 a1 a2 a3 a4 : Jvm.Term} {k : Nat} {fl : List (Option Jvm.Term)} (hi : ra_inst i = some (0, idx)) (hc : ri_cp (g_Gs n f) M idx = some (kd, 247, 5, tx)) (hk : kd = 20 ∨ kd = 30) (hs : g_sh[k]? = some (.inl (8, fl))) (hr : rest.length ≤ 4) : ra_ct (g_Gs n f) g_sh M i (a4 :: a3 :: a2 :: a1 :: a0 :: .index k :: rest) [.index k, a0, a1, a2, a3, a4] rest 247 :=
  ⟨0, idx, kd, 5, tx, g_m_X8_appendInput, hi, hc, hk, mt_247, Or.inr rfl, by simp [ri_nn], rfl, rfl, hr, Or.inr ⟨8, fl, (RX8, TX8, 26), hs, rfl, beq_self_eq_true RX8⟩⟩
theorem ct_248 {a0 : Jvm.Term} {k : Nat} {fl : List (Option Jvm.Term)} (hi : ra_inst i = some (0, idx)) (hc : ri_cp (g_Gs n f) M idx = some (kd, 248, 1, tx)) (hk : kd = 20 ∨ kd = 30) (hs : g_sh[k]? = some (.inl (8, fl))) (hr : rest.length ≤ 4) : ra_ct (g_Gs n f) g_sh M i (a0 :: .index k :: rest) [.index k, a0] rest 248 :=
  ⟨0, idx, kd, 1, tx, g_m_X8_truncateInput, hi, hc, hk, mt_248, Or.inr rfl, by simp [ri_nn], rfl, rfl, hr, Or.inr ⟨8, fl, (RX8, TX8, 26), hs, rfl, beq_self_eq_true RX8⟩⟩
theorem ct_249 {a0 : Jvm.Term} {k : Nat} {fl : List (Option Jvm.Term)} (hi : ra_inst i = some (0, idx)) (hc : ri_cp (g_Gs n f) M idx = some (kd, 249, 1, tx)) (hk : kd = 20 ∨ kd = 30) (hs : g_sh[k]? = some (.inl (8, fl))) (hr : rest.length ≤ 4) : ra_ct (g_Gs n f) g_sh M i (a0 :: .index k :: rest) [.index k, a0] rest 249 :=
  ⟨0, idx, kd, 1, tx, g_m_X8_byteAt, hi, hc, hk, mt_249, Or.inr rfl, by simp [ri_nn], rfl, rfl, hr, Or.inr ⟨8, fl, (RX8, TX8, 26), hs, rfl, beq_self_eq_true RX8⟩⟩
theorem ct_250 {k : Nat} {fl : List (Option Jvm.Term)} (hi : ra_inst i = some (0, idx)) (hc : ri_cp (g_Gs n f) M idx = some (kd, 250, 0, tx)) (hk : kd = 20 ∨ kd = 30) (hs : g_sh[k]? = some (.inl (8, fl))) (hr : rest.length ≤ 4) : ra_ct (g_Gs n f) g_sh M i (.index k :: rest) [.index k] rest 250 :=
  ⟨0, idx, kd, 0, tx, g_m_X8_advanceToken, hi, hc, hk, mt_250, Or.inr rfl, by simp [ri_nn], rfl, rfl, hr, Or.inr ⟨8, fl, (RX8, TX8, 26), hs, rfl, beq_self_eq_true RX8⟩⟩
theorem ct_251 {k : Nat} {fl : List (Option Jvm.Term)} (hi : ra_inst i = some (0, idx)) (hc : ri_cp (g_Gs n f) M idx = some (kd, 251, 0, tx)) (hk : kd = 20 ∨ kd = 30) (hs : g_sh[k]? = some (.inl (8, fl))) (hr : rest.length ≤ 4) : ra_ct (g_Gs n f) g_sh M i (.index k :: rest) [.index k] rest 251 :=
  ⟨0, idx, kd, 0, tx, g_m_X8_tokenLength, hi, hc, hk, mt_251, Or.inr rfl, by simp [ri_nn], rfl, rfl, hr, Or.inr ⟨8, fl, (RX8, TX8, 26), hs, rfl, beq_self_eq_true RX8⟩⟩
theorem ct_252 {a0 : Jvm.Term} {k : Nat} {fl : List (Option Jvm.Term)} (hi : ra_inst i = some (0, idx)) (hc : ri_cp (g_Gs n f) M idx = some (kd, 252, 1, tx)) (hk : kd = 20 ∨ kd = 30) (hs : g_sh[k]? = some (.inl (8, fl))) (hr : rest.length ≤ 4) : ra_ct (g_Gs n f) g_sh M i (a0 :: .index k :: rest) [.index k, a0] rest 252 :=
  ⟨0, idx, kd, 1, tx, g_m_X8_failsAt, hi, hc, hk, mt_252, Or.inr rfl, by simp [ri_nn], rfl, rfl, hr, Or.inr ⟨8, fl, (RX8, TX8, 26), hs, rfl, beq_self_eq_true RX8⟩⟩
theorem ct_253 {a0 : Jvm.Term} {k : Nat} {fl : List (Option Jvm.Term)} (hi : ra_inst i = some (0, idx)) (hc : ri_cp (g_Gs n f) M idx = some (kd, 253, 1, tx)) (hk : kd = 20 ∨ kd = 30) (hs : g_sh[k]? = some (.inl (8, fl))) (hr : rest.length ≤ 4) : ra_ct (g_Gs n f) g_sh M i (a0 :: .index k :: rest) [.index k, a0] rest 253 :=
  ⟨0, idx, kd, 1, tx, g_m_X8_isWord, hi, hc, hk, mt_253, Or.inr rfl, by simp [ri_nn], rfl, rfl, hr, Or.inr ⟨8, fl, (RX8, TX8, 26), hs, rfl, beq_self_eq_true RX8⟩⟩
theorem ct_254 {a0 a1 : Jvm.Term} {k : Nat} {fl : List (Option Jvm.Term)} (hi : ra_inst i = some (0, idx)) (hc : ri_cp (g_Gs n f) M idx = some (kd, 254, 2, tx)) (hk : kd = 20 ∨ kd = 30) (hs : g_sh[k]? = some (.inl (8, fl))) (hr : rest.length ≤ 4) : ra_ct (g_Gs n f) g_sh M i (a1 :: a0 :: .index k :: rest) [.index k, a0, a1] rest 254 :=
  ⟨0, idx, kd, 2, tx, g_m_X8_isNumber, hi, hc, hk, mt_254, Or.inr rfl, by simp [ri_nn], rfl, rfl, hr, Or.inr ⟨8, fl, (RX8, TX8, 26), hs, rfl, beq_self_eq_true RX8⟩⟩
theorem ct_255 {a0 a1 a2 : Jvm.Term} {k : Nat} {fl : List (Option Jvm.Term)} (hi : ra_inst i = some (0, idx)) (hc : ri_cp (g_Gs n f) M idx = some (kd, 255, 3, tx)) (hk : kd = 20 ∨ kd = 30) (hs : g_sh[k]? = some (.inl (8, fl))) (hr : rest.length ≤ 4) : ra_ct (g_Gs n f) g_sh M i (a2 :: a1 :: a0 :: .index k :: rest) [.index k, a0, a1, a2] rest 255 :=
  ⟨0, idx, kd, 3, tx, g_m_X8_takes, hi, hc, hk, mt_255, Or.inr rfl, by simp [ri_nn], rfl, rfl, hr, Or.inr ⟨8, fl, (RX8, TX8, 26), hs, rfl, beq_self_eq_true RX8⟩⟩
theorem ct_256 {a0 a1 a2 a3 : Jvm.Term} {k : Nat} {fl : List (Option Jvm.Term)} (hi : ra_inst i = some (0, idx)) (hc : ri_cp (g_Gs n f) M idx = some (kd, 256, 4, tx)) (hk : kd = 20 ∨ kd = 30) (hs : g_sh[k]? = some (.inl (8, fl))) (hr : rest.length ≤ 4) : ra_ct (g_Gs n f) g_sh M i (a3 :: a2 :: a1 :: a0 :: .index k :: rest) [.index k, a0, a1, a2, a3] rest 256 :=
  ⟨0, idx, kd, 4, tx, g_m_X8_readSetting, hi, hc, hk, mt_256, Or.inr rfl, by simp [ri_nn], rfl, rfl, hr, Or.inr ⟨8, fl, (RX8, TX8, 26), hs, rfl, beq_self_eq_true RX8⟩⟩
theorem ct_257 {k : Nat} {fl : List (Option Jvm.Term)} (hi : ra_inst i = some (0, idx)) (hc : ri_cp (g_Gs n f) M idx = some (kd, 257, 0, tx)) (hk : kd = 20 ∨ kd = 30) (hs : g_sh[k]? = some (.inl (8, fl))) (hr : rest.length ≤ 4) : ra_ct (g_Gs n f) g_sh M i (.index k :: rest) [.index k] rest 257 :=
  ⟨0, idx, kd, 0, tx, g_m_X8_readPart, hi, hc, hk, mt_257, Or.inr rfl, by simp [ri_nn], rfl, rfl, hr, Or.inr ⟨8, fl, (RX8, TX8, 26), hs, rfl, beq_self_eq_true RX8⟩⟩
theorem ct_258 {k : Nat} {fl : List (Option Jvm.Term)} (hi : ra_inst i = some (0, idx)) (hc : ri_cp (g_Gs n f) M idx = some (kd, 258, 0, tx)) (hk : kd = 20 ∨ kd = 30) (hs : g_sh[k]? = some (.inl (8, fl))) (hr : rest.length ≤ 4) : ra_ct (g_Gs n f) g_sh M i (.index k :: rest) [.index k] rest 258 :=
  ⟨0, idx, kd, 0, tx, g_m_X8_readLock, hi, hc, hk, mt_258, Or.inr rfl, by simp [ri_nn], rfl, rfl, hr, Or.inr ⟨8, fl, (RX8, TX8, 26), hs, rfl, beq_self_eq_true RX8⟩⟩
theorem ct_259 {k : Nat} {fl : List (Option Jvm.Term)} (hi : ra_inst i = some (0, idx)) (hc : ri_cp (g_Gs n f) M idx = some (kd, 259, 0, tx)) (hk : kd = 20 ∨ kd = 30) (hs : g_sh[k]? = some (.inl (8, fl))) (hr : rest.length ≤ 4) : ra_ct (g_Gs n f) g_sh M i (.index k :: rest) [.index k] rest 259 :=
  ⟨0, idx, kd, 0, tx, g_m_X8_readStatement, hi, hc, hk, mt_259, Or.inr rfl, by simp [ri_nn], rfl, rfl, hr, Or.inr ⟨8, fl, (RX8, TX8, 26), hs, rfl, beq_self_eq_true RX8⟩⟩
theorem ct_260 {k : Nat} {fl : List (Option Jvm.Term)} (hi : ra_inst i = some (0, idx)) (hc : ri_cp (g_Gs n f) M idx = some (kd, 260, 0, tx)) (hk : kd = 20 ∨ kd = 30) (hs : g_sh[k]? = some (.inl (8, fl))) (hr : rest.length ≤ 4) : ra_ct (g_Gs n f) g_sh M i (.index k :: rest) [.index k] rest 260 :=
  ⟨0, idx, kd, 0, tx, g_m_X8_passesSemicolon, hi, hc, hk, mt_260, Or.inr rfl, by simp [ri_nn], rfl, rfl, hr, Or.inr ⟨8, fl, (RX8, TX8, 26), hs, rfl, beq_self_eq_true RX8⟩⟩
theorem ct_261 {k : Nat} {fl : List (Option Jvm.Term)} (hi : ra_inst i = some (0, idx)) (hc : ri_cp (g_Gs n f) M idx = some (kd, 261, 0, tx)) (hk : kd = 20 ∨ kd = 30) (hs : g_sh[k]? = some (.inl (8, fl))) (hr : rest.length ≤ 4) : ra_ct (g_Gs n f) g_sh M i (.index k :: rest) [.index k] rest 261 :=
  ⟨0, idx, kd, 0, tx, g_m_X8_readText, hi, hc, hk, mt_261, Or.inr rfl, by simp [ri_nn], rfl, rfl, hr, Or.inr ⟨8, fl, (RX8, TX8, 26), hs, rfl, beq_self_eq_true RX8⟩⟩
theorem ct_262 {k : Nat} {fl : List (Option Jvm.Term)} (hi : ra_inst i = some (0, idx)) (hc : ri_cp (g_Gs n f) M idx = some (kd, 262, 0, tx)) (hk : kd = 20 ∨ kd = 30) (hs : g_sh[k]? = some (.inl (8, fl))) (hr : rest.length ≤ 4) : ra_ct (g_Gs n f) g_sh M i (.index k :: rest) [.index k] rest 262 :=
  ⟨0, idx, kd, 0, tx, g_m_X8_loadDisk, hi, hc, hk, mt_262, Or.inr rfl, by simp [ri_nn], rfl, rfl, hr, Or.inr ⟨8, fl, (RX8, TX8, 26), hs, rfl, beq_self_eq_true RX8⟩⟩
theorem ct_263 {k : Nat} {fl : List (Option Jvm.Term)} (hi : ra_inst i = some (0, idx)) (hc : ri_cp (g_Gs n f) M idx = some (kd, 263, 0, tx)) (hk : kd = 20 ∨ kd = 30) (hs : g_sh[k]? = some (.inl (8, fl))) (hr : rest.length ≤ 4) : ra_ct (g_Gs n f) g_sh M i (.index k :: rest) [.index k] rest 263 :=
  ⟨0, idx, kd, 0, tx, g_m_X8_errorCode, hi, hc, hk, mt_263, Or.inr rfl, by simp [ri_nn], rfl, rfl, hr, Or.inr ⟨8, fl, (RX8, TX8, 26), hs, rfl, beq_self_eq_true RX8⟩⟩
theorem ct_264 {k : Nat} {fl : List (Option Jvm.Term)} (hi : ra_inst i = some (0, idx)) (hc : ri_cp (g_Gs n f) M idx = some (kd, 264, 0, tx)) (hk : kd = 20 ∨ kd = 30) (hs : g_sh[k]? = some (.inl (8, fl))) (hr : rest.length ≤ 4) : ra_ct (g_Gs n f) g_sh M i (.index k :: rest) [.index k] rest 264 :=
  ⟨0, idx, kd, 0, tx, g_m_X8_errorOffset, hi, hc, hk, mt_264, Or.inr rfl, by simp [ri_nn], rfl, rfl, hr, Or.inr ⟨8, fl, (RX8, TX8, 26), hs, rfl, beq_self_eq_true RX8⟩⟩
theorem ct_265 {k : Nat} {fl : List (Option Jvm.Term)} (hi : ra_inst i = some (0, idx)) (hc : ri_cp (g_Gs n f) M idx = some (kd, 265, 0, tx)) (hk : kd = 20 ∨ kd = 30) (hs : g_sh[k]? = some (.inl (8, fl))) (hr : rest.length ≤ 4) : ra_ct (g_Gs n f) g_sh M i (.index k :: rest) [.index k] rest 265 :=
  ⟨0, idx, kd, 0, tx, g_m_X8_gapSectors, hi, hc, hk, mt_265, Or.inr rfl, by simp [ri_nn], rfl, rfl, hr, Or.inr ⟨8, fl, (RX8, TX8, 26), hs, rfl, beq_self_eq_true RX8⟩⟩
theorem ct_266 {k : Nat} {fl : List (Option Jvm.Term)} (hi : ra_inst i = some (0, idx)) (hc : ri_cp (g_Gs n f) M idx = some (kd, 266, 0, tx)) (hk : kd = 20 ∨ kd = 30) (hs : g_sh[k]? = some (.inl (8, fl))) (hr : rest.length ≤ 4) : ra_ct (g_Gs n f) g_sh M i (.index k :: rest) [.index k] rest 266 :=
  ⟨0, idx, kd, 0, tx, g_m_X8_gapsNow, hi, hc, hk, mt_266, Or.inr rfl, by simp [ri_nn], rfl, rfl, hr, Or.inr ⟨8, fl, (RX8, TX8, 26), hs, rfl, beq_self_eq_true RX8⟩⟩
theorem ct_267 {a0 : Jvm.Term} {k : Nat} {fl : List (Option Jvm.Term)} (hi : ra_inst i = some (0, idx)) (hc : ri_cp (g_Gs n f) M idx = some (kd, 267, 1, tx)) (hk : kd = 20 ∨ kd = 30) (hs : g_sh[k]? = some (.inl (8, fl))) (hr : rest.length ≤ 4) : ra_ct (g_Gs n f) g_sh M i (a0 :: .index k :: rest) [.index k, a0] rest 267 :=
  ⟨0, idx, kd, 1, tx, g_m_X8_count, hi, hc, hk, mt_267, Or.inr rfl, by simp [ri_nn], rfl, rfl, hr, Or.inr ⟨8, fl, (RX8, TX8, 26), hs, rfl, beq_self_eq_true RX8⟩⟩
theorem ct_268 {a0 a1 : Jvm.Term} {k : Nat} {fl : List (Option Jvm.Term)} (hi : ra_inst i = some (0, idx)) (hc : ri_cp (g_Gs n f) M idx = some (kd, 268, 2, tx)) (hk : kd = 20 ∨ kd = 30) (hs : g_sh[k]? = some (.inl (8, fl))) (hr : rest.length ≤ 4) : ra_ct (g_Gs n f) g_sh M i (a1 :: a0 :: .index k :: rest) [.index k, a0, a1] rest 268 :=
  ⟨0, idx, kd, 2, tx, g_m_X8_noPart, hi, hc, hk, mt_268, Or.inr rfl, by simp [ri_nn], rfl, rfl, hr, Or.inr ⟨8, fl, (RX8, TX8, 26), hs, rfl, beq_self_eq_true RX8⟩⟩
theorem ct_269 {a0 a1 : Jvm.Term} {k : Nat} {fl : List (Option Jvm.Term)} (hi : ra_inst i = some (0, idx)) (hc : ri_cp (g_Gs n f) M idx = some (kd, 269, 2, tx)) (hk : kd = 20 ∨ kd = 30) (hs : g_sh[k]? = some (.inl (8, fl))) (hr : rest.length ≤ 4) : ra_ct (g_Gs n f) g_sh M i (a1 :: a0 :: .index k :: rest) [.index k, a0, a1] rest 269 :=
  ⟨0, idx, kd, 2, tx, g_m_X8_part, hi, hc, hk, mt_269, Or.inr rfl, by simp [ri_nn], rfl, rfl, hr, Or.inr ⟨8, fl, (RX8, TX8, 26), hs, rfl, beq_self_eq_true RX8⟩⟩
theorem ct_270 {a0 : Jvm.Term} {k : Nat} {fl : List (Option Jvm.Term)} (hi : ra_inst i = some (0, idx)) (hc : ri_cp (g_Gs n f) M idx = some (kd, 270, 1, tx)) (hk : kd = 20 ∨ kd = 30) (hs : g_sh[k]? = some (.inl (8, fl))) (hr : rest.length ≤ 4) : ra_ct (g_Gs n f) g_sh M i (a0 :: .index k :: rest) [.index k, a0] rest 270 :=
  ⟨0, idx, kd, 1, tx, g_m_X8_noSector, hi, hc, hk, mt_270, Or.inr rfl, by simp [ri_nn], rfl, rfl, hr, Or.inr ⟨8, fl, (RX8, TX8, 26), hs, rfl, beq_self_eq_true RX8⟩⟩
theorem ct_271 {a0 : Jvm.Term} {k : Nat} {fl : List (Option Jvm.Term)} (hi : ra_inst i = some (0, idx)) (hc : ri_cp (g_Gs n f) M idx = some (kd, 271, 1, tx)) (hk : kd = 20 ∨ kd = 30) (hs : g_sh[k]? = some (.inl (8, fl))) (hr : rest.length ≤ 4) : ra_ct (g_Gs n f) g_sh M i (a0 :: .index k :: rest) [.index k, a0] rest 271 :=
  ⟨0, idx, kd, 1, tx, g_m_X8_sector, hi, hc, hk, mt_271, Or.inr rfl, by simp [ri_nn], rfl, rfl, hr, Or.inr ⟨8, fl, (RX8, TX8, 26), hs, rfl, beq_self_eq_true RX8⟩⟩
theorem ct_272 {a0 : Jvm.Term} {k : Nat} {fl : List (Option Jvm.Term)} (hi : ra_inst i = some (0, idx)) (hc : ri_cp (g_Gs n f) M idx = some (kd, 272, 1, tx)) (hk : kd = 20 ∨ kd = 30) (hs : g_sh[k]? = some (.inl (8, fl))) (hr : rest.length ≤ 4) : ra_ct (g_Gs n f) g_sh M i (a0 :: .index k :: rest) [.index k, a0] rest 272 :=
  ⟨0, idx, kd, 1, tx, g_m_X8_ownerOf, hi, hc, hk, mt_272, Or.inr rfl, by simp [ri_nn], rfl, rfl, hr, Or.inr ⟨8, fl, (RX8, TX8, 26), hs, rfl, beq_self_eq_true RX8⟩⟩
theorem ct_273 {a0 : Jvm.Term} {k : Nat} {fl : List (Option Jvm.Term)} (hi : ra_inst i = some (0, idx)) (hc : ri_cp (g_Gs n f) M idx = some (kd, 273, 1, tx)) (hk : kd = 20 ∨ kd = 30) (hs : g_sh[k]? = some (.inl (8, fl))) (hr : rest.length ≤ 4) : ra_ct (g_Gs n f) g_sh M i (a0 :: .index k :: rest) [.index k, a0] rest 273 :=
  ⟨0, idx, kd, 1, tx, g_m_X8_owner, hi, hc, hk, mt_273, Or.inr rfl, by simp [ri_nn], rfl, rfl, hr, Or.inr ⟨8, fl, (RX8, TX8, 26), hs, rfl, beq_self_eq_true RX8⟩⟩
theorem ct_274 {a0 a1 : Jvm.Term} {k : Nat} {fl : List (Option Jvm.Term)} (hi : ra_inst i = some (0, idx)) (hc : ri_cp (g_Gs n f) M idx = some (kd, 274, 2, tx)) (hk : kd = 20 ∨ kd = 30) (hs : g_sh[k]? = some (.inl (8, fl))) (hr : rest.length ≤ 4) : ra_ct (g_Gs n f) g_sh M i (a1 :: a0 :: .index k :: rest) [.index k, a0, a1] rest 274 :=
  ⟨0, idx, kd, 2, tx, g_m_X8_place, hi, hc, hk, mt_274, Or.inr rfl, by simp [ri_nn], rfl, rfl, hr, Or.inr ⟨8, fl, (RX8, TX8, 26), hs, rfl, beq_self_eq_true RX8⟩⟩
theorem ct_275 {a0 : Jvm.Term} {k : Nat} {fl : List (Option Jvm.Term)} (hi : ra_inst i = some (0, idx)) (hc : ri_cp (g_Gs n f) M idx = some (kd, 275, 1, tx)) (hk : kd = 20 ∨ kd = 30) (hs : g_sh[k]? = some (.inl (8, fl))) (hr : rest.length ≤ 4) : ra_ct (g_Gs n f) g_sh M i (a0 :: .index k :: rest) [.index k, a0] rest 275 :=
  ⟨0, idx, kd, 1, tx, g_m_X8_whole, hi, hc, hk, mt_275, Or.inr rfl, by simp [ri_nn], rfl, rfl, hr, Or.inr ⟨8, fl, (RX8, TX8, 26), hs, rfl, beq_self_eq_true RX8⟩⟩
theorem ct_276 {a0 : Jvm.Term} {k : Nat} {fl : List (Option Jvm.Term)} (hi : ra_inst i = some (0, idx)) (hc : ri_cp (g_Gs n f) M idx = some (kd, 276, 1, tx)) (hk : kd = 20 ∨ kd = 30) (hs : g_sh[k]? = some (.inl (8, fl))) (hr : rest.length ≤ 4) : ra_ct (g_Gs n f) g_sh M i (a0 :: .index k :: rest) [.index k, a0] rest 276 :=
  ⟨0, idx, kd, 1, tx, g_m_X8_isWhole, hi, hc, hk, mt_276, Or.inr rfl, by simp [ri_nn], rfl, rfl, hr, Or.inr ⟨8, fl, (RX8, TX8, 26), hs, rfl, beq_self_eq_true RX8⟩⟩
theorem ct_277 {k : Nat} {fl : List (Option Jvm.Term)} (hi : ra_inst i = some (0, idx)) (hc : ri_cp (g_Gs n f) M idx = some (kd, 277, 0, tx)) (hk : kd = 20 ∨ kd = 30) (hs : g_sh[k]? = some (.inl (8, fl))) (hr : rest.length ≤ 4) : ra_ct (g_Gs n f) g_sh M i (.index k :: rest) [.index k] rest 277 :=
  ⟨0, idx, kd, 0, tx, g_m_X8_verify, hi, hc, hk, mt_277, Or.inr rfl, by simp [ri_nn], rfl, rfl, hr, Or.inr ⟨8, fl, (RX8, TX8, 26), hs, rfl, beq_self_eq_true RX8⟩⟩
theorem ct_278 {a0 : Jvm.Term} {k : Nat} {fl : List (Option Jvm.Term)} (hi : ra_inst i = some (0, idx)) (hc : ri_cp (g_Gs n f) M idx = some (kd, 278, 1, tx)) (hk : kd = 20 ∨ kd = 30) (hs : g_sh[k]? = some (.inl (8, fl))) (hr : rest.length ≤ 4) : ra_ct (g_Gs n f) g_sh M i (a0 :: .index k :: rest) [.index k, a0] rest 278 :=
  ⟨0, idx, kd, 1, tx, g_m_X8_nextBy, hi, hc, hk, mt_278, Or.inr rfl, by simp [ri_nn], rfl, rfl, hr, Or.inr ⟨8, fl, (RX8, TX8, 26), hs, rfl, beq_self_eq_true RX8⟩⟩
theorem ct_279 {a0 : Jvm.Term} {k : Nat} {fl : List (Option Jvm.Term)} (hi : ra_inst i = some (0, idx)) (hc : ri_cp (g_Gs n f) M idx = some (kd, 279, 1, tx)) (hk : kd = 20 ∨ kd = 30) (hs : g_sh[k]? = some (.inl (8, fl))) (hr : rest.length ≤ 4) : ra_ct (g_Gs n f) g_sh M i (a0 :: .index k :: rest) [.index k, a0] rest 279 :=
  ⟨0, idx, kd, 1, tx, g_m_X8_standsAt, hi, hc, hk, mt_279, Or.inr rfl, by simp [ri_nn], rfl, rfl, hr, Or.inr ⟨8, fl, (RX8, TX8, 26), hs, rfl, beq_self_eq_true RX8⟩⟩
theorem ct_280 {a0 : Jvm.Term} {k : Nat} {fl : List (Option Jvm.Term)} (hi : ra_inst i = some (0, idx)) (hc : ri_cp (g_Gs n f) M idx = some (kd, 280, 1, tx)) (hk : kd = 20 ∨ kd = 30) (hs : g_sh[k]? = some (.inl (8, fl))) (hr : rest.length ≤ 4) : ra_ct (g_Gs n f) g_sh M i (a0 :: .index k :: rest) [.index k, a0] rest 280 :=
  ⟨0, idx, kd, 1, tx, g_m_X8_byStart, hi, hc, hk, mt_280, Or.inr rfl, by simp [ri_nn], rfl, rfl, hr, Or.inr ⟨8, fl, (RX8, TX8, 26), hs, rfl, beq_self_eq_true RX8⟩⟩
theorem ct_281 {a0 : Jvm.Term} {k : Nat} {fl : List (Option Jvm.Term)} (hi : ra_inst i = some (0, idx)) (hc : ri_cp (g_Gs n f) M idx = some (kd, 281, 1, tx)) (hk : kd = 20 ∨ kd = 30) (hs : g_sh[k]? = some (.inl (8, fl))) (hr : rest.length ≤ 4) : ra_ct (g_Gs n f) g_sh M i (a0 :: .index k :: rest) [.index k, a0] rest 281 :=
  ⟨0, idx, kd, 1, tx, g_m_X8_behind, hi, hc, hk, mt_281, Or.inr rfl, by simp [ri_nn], rfl, rfl, hr, Or.inr ⟨8, fl, (RX8, TX8, 26), hs, rfl, beq_self_eq_true RX8⟩⟩
theorem ct_282 {a0 a1 : Jvm.Term} {k : Nat} {fl : List (Option Jvm.Term)} (hi : ra_inst i = some (0, idx)) (hc : ri_cp (g_Gs n f) M idx = some (kd, 282, 2, tx)) (hk : kd = 20 ∨ kd = 30) (hs : g_sh[k]? = some (.inl (8, fl))) (hr : rest.length ≤ 4) : ra_ct (g_Gs n f) g_sh M i (a1 :: a0 :: .index k :: rest) [.index k, a0, a1] rest 282 :=
  ⟨0, idx, kd, 2, tx, g_m_X8_gap, hi, hc, hk, mt_282, Or.inr rfl, by simp [ri_nn], rfl, rfl, hr, Or.inr ⟨8, fl, (RX8, TX8, 26), hs, rfl, beq_self_eq_true RX8⟩⟩
theorem ct_283 {k : Nat} {fl : List (Option Jvm.Term)} (hi : ra_inst i = some (0, idx)) (hc : ri_cp (g_Gs n f) M idx = some (kd, 283, 0, tx)) (hk : kd = 20 ∨ kd = 30) (hs : g_sh[k]? = some (.inl (8, fl))) (hr : rest.length ≤ 4) : ra_ct (g_Gs n f) g_sh M i (.index k :: rest) [.index k] rest 283 :=
  ⟨0, idx, kd, 0, tx, g_m_X8_greatestGap, hi, hc, hk, mt_283, Or.inr rfl, by simp [ri_nn], rfl, rfl, hr, Or.inr ⟨8, fl, (RX8, TX8, 26), hs, rfl, beq_self_eq_true RX8⟩⟩
theorem ct_284 {k : Nat} {fl : List (Option Jvm.Term)} (hi : ra_inst i = some (0, idx)) (hc : ri_cp (g_Gs n f) M idx = some (kd, 284, 0, tx)) (hk : kd = 20 ∨ kd = 30) (hs : g_sh[k]? = some (.inl (8, fl))) (hr : rest.length ≤ 4) : ra_ct (g_Gs n f) g_sh M i (.index k :: rest) [.index k] rest 284 :=
  ⟨0, idx, kd, 0, tx, g_m_X8_largestGap, hi, hc, hk, mt_284, Or.inr rfl, by simp [ri_nn], rfl, rfl, hr, Or.inr ⟨8, fl, (RX8, TX8, 26), hs, rfl, beq_self_eq_true RX8⟩⟩
theorem ct_285 {a0 : Jvm.Term} {k : Nat} {fl : List (Option Jvm.Term)} (hi : ra_inst i = some (0, idx)) (hc : ri_cp (g_Gs n f) M idx = some (kd, 285, 1, tx)) (hk : kd = 20 ∨ kd = 30) (hs : g_sh[k]? = some (.inl (8, fl))) (hr : rest.length ≤ 4) : ra_ct (g_Gs n f) g_sh M i (a0 :: .index k :: rest) [.index k, a0] rest 285 :=
  ⟨0, idx, kd, 1, tx, g_m_X8_gapAt, hi, hc, hk, mt_285, Or.inr rfl, by simp [ri_nn], rfl, rfl, hr, Or.inr ⟨8, fl, (RX8, TX8, 26), hs, rfl, beq_self_eq_true RX8⟩⟩
theorem ct_286 {a0 a1 : Jvm.Term} {k : Nat} {fl : List (Option Jvm.Term)} (hi : ra_inst i = some (0, idx)) (hc : ri_cp (g_Gs n f) M idx = some (kd, 286, 2, tx)) (hk : kd = 20 ∨ kd = 30) (hs : g_sh[k]? = some (.inl (8, fl))) (hr : rest.length ≤ 4) : ra_ct (g_Gs n f) g_sh M i (a1 :: a0 :: .index k :: rest) [.index k, a0, a1] rest 286 :=
  ⟨0, idx, kd, 2, tx, g_m_X8_fit, hi, hc, hk, mt_286, Or.inr rfl, by simp [ri_nn], rfl, rfl, hr, Or.inr ⟨8, fl, (RX8, TX8, 26), hs, rfl, beq_self_eq_true RX8⟩⟩
theorem ct_287 {a0 a1 : Jvm.Term} {k : Nat} {fl : List (Option Jvm.Term)} (hi : ra_inst i = some (0, idx)) (hc : ri_cp (g_Gs n f) M idx = some (kd, 287, 2, tx)) (hk : kd = 20 ∨ kd = 30) (hs : g_sh[k]? = some (.inl (8, fl))) (hr : rest.length ≤ 4) : ra_ct (g_Gs n f) g_sh M i (a1 :: a0 :: .index k :: rest) [.index k, a0, a1] rest 287 :=
  ⟨0, idx, kd, 2, tx, g_m_X8_reason, hi, hc, hk, mt_287, Or.inr rfl, by simp [ri_nn], rfl, rfl, hr, Or.inr ⟨8, fl, (RX8, TX8, 26), hs, rfl, beq_self_eq_true RX8⟩⟩
theorem ct_288 {a0 a1 : Jvm.Term} {k : Nat} {fl : List (Option Jvm.Term)} (hi : ra_inst i = some (0, idx)) (hc : ri_cp (g_Gs n f) M idx = some (kd, 288, 2, tx)) (hk : kd = 20 ∨ kd = 30) (hs : g_sh[k]? = some (.inl (8, fl))) (hr : rest.length ≤ 4) : ra_ct (g_Gs n f) g_sh M i (a1 :: a0 :: .index k :: rest) [.index k, a0, a1] rest 288 :=
  ⟨0, idx, kd, 2, tx, g_m_X8_overlapped, hi, hc, hk, mt_288, Or.inr rfl, by simp [ri_nn], rfl, rfl, hr, Or.inr ⟨8, fl, (RX8, TX8, 26), hs, rfl, beq_self_eq_true RX8⟩⟩
theorem ct_289 {k : Nat} {fl : List (Option Jvm.Term)} (hi : ra_inst i = some (0, idx)) (hc : ri_cp (g_Gs n f) M idx = some (kd, 289, 0, tx)) (hk : kd = 20 ∨ kd = 30) (hs : g_sh[k]? = some (.inl (8, fl))) (hr : rest.length ≤ 4) : ra_ct (g_Gs n f) g_sh M i (.index k :: rest) [.index k] rest 289 :=
  ⟨0, idx, kd, 0, tx, g_m_X8_waste, hi, hc, hk, mt_289, Or.inr rfl, by simp [ri_nn], rfl, rfl, hr, Or.inr ⟨8, fl, (RX8, TX8, 26), hs, rfl, beq_self_eq_true RX8⟩⟩
theorem ct_290 {k : Nat} {fl : List (Option Jvm.Term)} (hi : ra_inst i = some (0, idx)) (hc : ri_cp (g_Gs n f) M idx = some (kd, 290, 0, tx)) (hk : kd = 20 ∨ kd = 30) (hs : g_sh[k]? = some (.inl (8, fl))) (hr : rest.length ≤ 4) : ra_ct (g_Gs n f) g_sh M i (.index k :: rest) [.index k] rest 290 :=
  ⟨0, idx, kd, 0, tx, g_m_X8_scatter, hi, hc, hk, mt_290, Or.inr rfl, by simp [ri_nn], rfl, rfl, hr, Or.inr ⟨8, fl, (RX8, TX8, 26), hs, rfl, beq_self_eq_true RX8⟩⟩
theorem ct_291 {k : Nat} {fl : List (Option Jvm.Term)} (hi : ra_inst i = some (0, idx)) (hc : ri_cp (g_Gs n f) M idx = some (kd, 291, 0, tx)) (hk : kd = 20 ∨ kd = 30) (hs : g_sh[k]? = some (.inl (8, fl))) (hr : rest.length ≤ 4) : ra_ct (g_Gs n f) g_sh M i (.index k :: rest) [.index k] rest 291 :=
  ⟨0, idx, kd, 0, tx, g_m_X8_sizes, hi, hc, hk, mt_291, Or.inr rfl, by simp [ri_nn], rfl, rfl, hr, Or.inr ⟨8, fl, (RX8, TX8, 26), hs, rfl, beq_self_eq_true RX8⟩⟩
theorem ct_292 {k : Nat} {fl : List (Option Jvm.Term)} (hi : ra_inst i = some (0, idx)) (hc : ri_cp (g_Gs n f) M idx = some (kd, 292, 0, tx)) (hk : kd = 20 ∨ kd = 30) (hs : g_sh[k]? = some (.inl (8, fl))) (hr : rest.length ≤ 4) : ra_ct (g_Gs n f) g_sh M i (.index k :: rest) [.index k] rest 292 :=
  ⟨0, idx, kd, 0, tx, g_m_X8_used, hi, hc, hk, mt_292, Or.inr rfl, by simp [ri_nn], rfl, rfl, hr, Or.inr ⟨8, fl, (RX8, TX8, 26), hs, rfl, beq_self_eq_true RX8⟩⟩
theorem ct_293 {a0 : Jvm.Term} {k : Nat} {fl : List (Option Jvm.Term)} (hi : ra_inst i = some (0, idx)) (hc : ri_cp (g_Gs n f) M idx = some (kd, 293, 1, tx)) (hk : kd = 20 ∨ kd = 30) (hs : g_sh[k]? = some (.inl (8, fl))) (hr : rest.length ≤ 4) : ra_ct (g_Gs n f) g_sh M i (a0 :: .index k :: rest) [.index k, a0] rest 293 :=
  ⟨0, idx, kd, 1, tx, g_m_X8_slackOf, hi, hc, hk, mt_293, Or.inr rfl, by simp [ri_nn], rfl, rfl, hr, Or.inr ⟨8, fl, (RX8, TX8, 26), hs, rfl, beq_self_eq_true RX8⟩⟩
theorem ct_294 {k : Nat} {fl : List (Option Jvm.Term)} (hi : ra_inst i = some (0, idx)) (hc : ri_cp (g_Gs n f) M idx = some (kd, 294, 0, tx)) (hk : kd = 20 ∨ kd = 30) (hs : g_sh[k]? = some (.inl (8, fl))) (hr : rest.length ≤ 4) : ra_ct (g_Gs n f) g_sh M i (.index k :: rest) [.index k] rest 294 :=
  ⟨0, idx, kd, 0, tx, g_m_X8_slack, hi, hc, hk, mt_294, Or.inr rfl, by simp [ri_nn], rfl, rfl, hr, Or.inr ⟨8, fl, (RX8, TX8, 26), hs, rfl, beq_self_eq_true RX8⟩⟩
theorem ct_295 {a0 : Jvm.Term} {k : Nat} {fl : List (Option Jvm.Term)} (hi : ra_inst i = some (0, idx)) (hc : ri_cp (g_Gs n f) M idx = some (kd, 295, 1, tx)) (hk : kd = 20 ∨ kd = 30) (hs : g_sh[k]? = some (.inl (8, fl))) (hr : rest.length ≤ 4) : ra_ct (g_Gs n f) g_sh M i (a0 :: .index k :: rest) [.index k, a0] rest 295 :=
  ⟨0, idx, kd, 1, tx, g_m_X8_ofKind, hi, hc, hk, mt_295, Or.inr rfl, by simp [ri_nn], rfl, rfl, hr, Or.inr ⟨8, fl, (RX8, TX8, 26), hs, rfl, beq_self_eq_true RX8⟩⟩
theorem ct_296 {a0 a1 a2 : Jvm.Term} (hi : ra_inst i = some (1, idx)) (hc : ri_cp (g_Gs n f) M idx = some (kd, 296, 3, tx)) (hk : kd = 21 ∨ (kd = 31 ∧ (ri_hh g_m_X8_isTold).isEmpty = true)) (hr : rest.length ≤ 4) : ra_ct (g_Gs n f) g_sh M i (a2 :: a1 :: a0 :: rest) [a0, a1, a2] rest 296 :=
  ⟨1, idx, kd, 3, tx, g_m_X8_isTold, hi, hc, by rcases hk with h | h <;> omega, mt_296, by rcases hk with h | h; exact Or.inl h; exact Or.inr h.2, by simp [ri_nn], rfl, rfl, hr, Or.inl rfl⟩
theorem ct_297 {a0 a1 a2 a3 : Jvm.Term} {k : Nat} {fl : List (Option Jvm.Term)} (hi : ra_inst i = some (0, idx)) (hc : ri_cp (g_Gs n f) M idx = some (kd, 297, 4, tx)) (hk : kd = 20 ∨ kd = 30) (hs : g_sh[k]? = some (.inl (8, fl))) (hr : rest.length ≤ 4) : ra_ct (g_Gs n f) g_sh M i (a3 :: a2 :: a1 :: a0 :: .index k :: rest) [.index k, a0, a1, a2, a3] rest 297 :=
  ⟨0, idx, kd, 4, tx, g_m_X8_add, hi, hc, hk, mt_297, Or.inr rfl, by simp [ri_nn], rfl, rfl, hr, Or.inr ⟨8, fl, (RX8, TX8, 26), hs, rfl, beq_self_eq_true RX8⟩⟩
theorem ct_298 {a0 a1 a2 a3 : Jvm.Term} {k : Nat} {fl : List (Option Jvm.Term)} (hi : ra_inst i = some (0, idx)) (hc : ri_cp (g_Gs n f) M idx = some (kd, 298, 4, tx)) (hk : kd = 20 ∨ kd = 30) (hs : g_sh[k]? = some (.inl (8, fl))) (hr : rest.length ≤ 4) : ra_ct (g_Gs n f) g_sh M i (a3 :: a2 :: a1 :: a0 :: .index k :: rest) [.index k, a0, a1, a2, a3] rest 298 :=
  ⟨0, idx, kd, 4, tx, g_m_X8_addBy, hi, hc, hk, mt_298, Or.inr rfl, by simp [ri_nn], rfl, rfl, hr, Or.inr ⟨8, fl, (RX8, TX8, 26), hs, rfl, beq_self_eq_true RX8⟩⟩
theorem ct_299 {a0 : Jvm.Term} {k : Nat} {fl : List (Option Jvm.Term)} (hi : ra_inst i = some (0, idx)) (hc : ri_cp (g_Gs n f) M idx = some (kd, 299, 1, tx)) (hk : kd = 20 ∨ kd = 30) (hs : g_sh[k]? = some (.inl (8, fl))) (hr : rest.length ≤ 4) : ra_ct (g_Gs n f) g_sh M i (a0 :: .index k :: rest) [.index k, a0] rest 299 :=
  ⟨0, idx, kd, 1, tx, g_m_X8_remove, hi, hc, hk, mt_299, Or.inr rfl, by simp [ri_nn], rfl, rfl, hr, Or.inr ⟨8, fl, (RX8, TX8, 26), hs, rfl, beq_self_eq_true RX8⟩⟩
theorem ct_300 {a0 a1 : Jvm.Term} {k : Nat} {fl : List (Option Jvm.Term)} (hi : ra_inst i = some (0, idx)) (hc : ri_cp (g_Gs n f) M idx = some (kd, 300, 2, tx)) (hk : kd = 20 ∨ kd = 30) (hs : g_sh[k]? = some (.inl (8, fl))) (hr : rest.length ≤ 4) : ra_ct (g_Gs n f) g_sh M i (a1 :: a0 :: .index k :: rest) [.index k, a0, a1] rest 300 :=
  ⟨0, idx, kd, 2, tx, g_m_X8_lock, hi, hc, hk, mt_300, Or.inr rfl, by simp [ri_nn], rfl, rfl, hr, Or.inr ⟨8, fl, (RX8, TX8, 26), hs, rfl, beq_self_eq_true RX8⟩⟩
theorem ct_301 {a0 a1 : Jvm.Term} {k : Nat} {fl : List (Option Jvm.Term)} (hi : ra_inst i = some (0, idx)) (hc : ri_cp (g_Gs n f) M idx = some (kd, 301, 2, tx)) (hk : kd = 20 ∨ kd = 30) (hs : g_sh[k]? = some (.inl (8, fl))) (hr : rest.length ≤ 4) : ra_ct (g_Gs n f) g_sh M i (a1 :: a0 :: .index k :: rest) [.index k, a0, a1] rest 301 :=
  ⟨0, idx, kd, 2, tx, g_m_X8_whyNotSized, hi, hc, hk, mt_301, Or.inr rfl, by simp [ri_nn], rfl, rfl, hr, Or.inr ⟨8, fl, (RX8, TX8, 26), hs, rfl, beq_self_eq_true RX8⟩⟩
theorem ct_302 {a0 a1 : Jvm.Term} {k : Nat} {fl : List (Option Jvm.Term)} (hi : ra_inst i = some (0, idx)) (hc : ri_cp (g_Gs n f) M idx = some (kd, 302, 2, tx)) (hk : kd = 20 ∨ kd = 30) (hs : g_sh[k]? = some (.inl (8, fl))) (hr : rest.length ≤ 4) : ra_ct (g_Gs n f) g_sh M i (a1 :: a0 :: .index k :: rest) [.index k, a0, a1] rest 302 :=
  ⟨0, idx, kd, 2, tx, g_m_X8_whyNotResized, hi, hc, hk, mt_302, Or.inr rfl, by simp [ri_nn], rfl, rfl, hr, Or.inr ⟨8, fl, (RX8, TX8, 26), hs, rfl, beq_self_eq_true RX8⟩⟩
theorem ct_303 {a0 a1 : Jvm.Term} {k : Nat} {fl : List (Option Jvm.Term)} (hi : ra_inst i = some (0, idx)) (hc : ri_cp (g_Gs n f) M idx = some (kd, 303, 2, tx)) (hk : kd = 20 ∨ kd = 30) (hs : g_sh[k]? = some (.inl (8, fl))) (hr : rest.length ≤ 4) : ra_ct (g_Gs n f) g_sh M i (a1 :: a0 :: .index k :: rest) [.index k, a0, a1] rest 303 :=
  ⟨0, idx, kd, 2, tx, g_m_X8_resizeReason, hi, hc, hk, mt_303, Or.inr rfl, by simp [ri_nn], rfl, rfl, hr, Or.inr ⟨8, fl, (RX8, TX8, 26), hs, rfl, beq_self_eq_true RX8⟩⟩
theorem ct_304 {a0 a1 : Jvm.Term} {k : Nat} {fl : List (Option Jvm.Term)} (hi : ra_inst i = some (0, idx)) (hc : ri_cp (g_Gs n f) M idx = some (kd, 304, 2, tx)) (hk : kd = 20 ∨ kd = 30) (hs : g_sh[k]? = some (.inl (8, fl))) (hr : rest.length ≤ 4) : ra_ct (g_Gs n f) g_sh M i (a1 :: a0 :: .index k :: rest) [.index k, a0, a1] rest 304 :=
  ⟨0, idx, kd, 2, tx, g_m_X8_resizes, hi, hc, hk, mt_304, Or.inr rfl, by simp [ri_nn], rfl, rfl, hr, Or.inr ⟨8, fl, (RX8, TX8, 26), hs, rfl, beq_self_eq_true RX8⟩⟩
theorem ct_305 {a0 a1 : Jvm.Term} {k : Nat} {fl : List (Option Jvm.Term)} (hi : ra_inst i = some (0, idx)) (hc : ri_cp (g_Gs n f) M idx = some (kd, 305, 2, tx)) (hk : kd = 20 ∨ kd = 30) (hs : g_sh[k]? = some (.inl (8, fl))) (hr : rest.length ≤ 4) : ra_ct (g_Gs n f) g_sh M i (a1 :: a0 :: .index k :: rest) [.index k, a0, a1] rest 305 :=
  ⟨0, idx, kd, 2, tx, g_m_X8_resize, hi, hc, hk, mt_305, Or.inr rfl, by simp [ri_nn], rfl, rfl, hr, Or.inr ⟨8, fl, (RX8, TX8, 26), hs, rfl, beq_self_eq_true RX8⟩⟩
theorem ct_306 {a0 : Jvm.Term} {k : Nat} {fl : List (Option Jvm.Term)} (hi : ra_inst i = some (0, idx)) (hc : ri_cp (g_Gs n f) M idx = some (kd, 306, 1, tx)) (hk : kd = 20 ∨ kd = 30) (hs : g_sh[k]? = some (.inl (8, fl))) (hr : rest.length ≤ 4) : ra_ct (g_Gs n f) g_sh M i (a0 :: .index k :: rest) [.index k, a0] rest 306 :=
  ⟨0, idx, kd, 1, tx, g_m_X8_roundUp, hi, hc, hk, mt_306, Or.inr rfl, by simp [ri_nn], rfl, rfl, hr, Or.inr ⟨8, fl, (RX8, TX8, 26), hs, rfl, beq_self_eq_true RX8⟩⟩
theorem ct_307 {a0 a1 : Jvm.Term} {k : Nat} {fl : List (Option Jvm.Term)} (hi : ra_inst i = some (0, idx)) (hc : ri_cp (g_Gs n f) M idx = some (kd, 307, 2, tx)) (hk : kd = 20 ∨ kd = 30) (hs : g_sh[k]? = some (.inl (8, fl))) (hr : rest.length ≤ 4) : ra_ct (g_Gs n f) g_sh M i (a1 :: a0 :: .index k :: rest) [.index k, a0, a1] rest 307 :=
  ⟨0, idx, kd, 2, tx, g_m_X8_setMinimum, hi, hc, hk, mt_307, Or.inr rfl, by simp [ri_nn], rfl, rfl, hr, Or.inr ⟨8, fl, (RX8, TX8, 26), hs, rfl, beq_self_eq_true RX8⟩⟩
theorem ct_308 {a0 : Jvm.Term} {k : Nat} {fl : List (Option Jvm.Term)} (hi : ra_inst i = some (0, idx)) (hc : ri_cp (g_Gs n f) M idx = some (kd, 308, 1, tx)) (hk : kd = 20 ∨ kd = 30) (hs : g_sh[k]? = some (.inl (8, fl))) (hr : rest.length ≤ 4) : ra_ct (g_Gs n f) g_sh M i (a0 :: .index k :: rest) [.index k, a0] rest 308 :=
  ⟨0, idx, kd, 1, tx, g_m_X8_growsTo, hi, hc, hk, mt_308, Or.inr rfl, by simp [ri_nn], rfl, rfl, hr, Or.inr ⟨8, fl, (RX8, TX8, 26), hs, rfl, beq_self_eq_true RX8⟩⟩
theorem ct_309 {a0 a1 : Jvm.Term} {k : Nat} {fl : List (Option Jvm.Term)} (hi : ra_inst i = some (0, idx)) (hc : ri_cp (g_Gs n f) M idx = some (kd, 309, 2, tx)) (hk : kd = 20 ∨ kd = 30) (hs : g_sh[k]? = some (.inl (8, fl))) (hr : rest.length ≤ 4) : ra_ct (g_Gs n f) g_sh M i (a1 :: a0 :: .index k :: rest) [.index k, a0, a1] rest 309 :=
  ⟨0, idx, kd, 2, tx, g_m_X8_split, hi, hc, hk, mt_309, Or.inr rfl, by simp [ri_nn], rfl, rfl, hr, Or.inr ⟨8, fl, (RX8, TX8, 26), hs, rfl, beq_self_eq_true RX8⟩⟩
theorem ct_310 {a0 : Jvm.Term} {k : Nat} {fl : List (Option Jvm.Term)} (hi : ra_inst i = some (0, idx)) (hc : ri_cp (g_Gs n f) M idx = some (kd, 310, 1, tx)) (hk : kd = 20 ∨ kd = 30) (hs : g_sh[k]? = some (.inl (8, fl))) (hr : rest.length ≤ 4) : ra_ct (g_Gs n f) g_sh M i (a0 :: .index k :: rest) [.index k, a0] rest 310 :=
  ⟨0, idx, kd, 1, tx, g_m_X8_neighbour, hi, hc, hk, mt_310, Or.inr rfl, by simp [ri_nn], rfl, rfl, hr, Or.inr ⟨8, fl, (RX8, TX8, 26), hs, rfl, beq_self_eq_true RX8⟩⟩
theorem ct_311 {a0 : Jvm.Term} {k : Nat} {fl : List (Option Jvm.Term)} (hi : ra_inst i = some (0, idx)) (hc : ri_cp (g_Gs n f) M idx = some (kd, 311, 1, tx)) (hk : kd = 20 ∨ kd = 30) (hs : g_sh[k]? = some (.inl (8, fl))) (hr : rest.length ≤ 4) : ra_ct (g_Gs n f) g_sh M i (a0 :: .index k :: rest) [.index k, a0] rest 311 :=
  ⟨0, idx, kd, 1, tx, g_m_X8_canJoin, hi, hc, hk, mt_311, Or.inr rfl, by simp [ri_nn], rfl, rfl, hr, Or.inr ⟨8, fl, (RX8, TX8, 26), hs, rfl, beq_self_eq_true RX8⟩⟩
theorem ct_312 {a0 : Jvm.Term} {k : Nat} {fl : List (Option Jvm.Term)} (hi : ra_inst i = some (0, idx)) (hc : ri_cp (g_Gs n f) M idx = some (kd, 312, 1, tx)) (hk : kd = 20 ∨ kd = 30) (hs : g_sh[k]? = some (.inl (8, fl))) (hr : rest.length ≤ 4) : ra_ct (g_Gs n f) g_sh M i (a0 :: .index k :: rest) [.index k, a0] rest 312 :=
  ⟨0, idx, kd, 1, tx, g_m_X8_join, hi, hc, hk, mt_312, Or.inr rfl, by simp [ri_nn], rfl, rfl, hr, Or.inr ⟨8, fl, (RX8, TX8, 26), hs, rfl, beq_self_eq_true RX8⟩⟩
theorem ct_313 {k : Nat} {fl : List (Option Jvm.Term)} (hi : ra_inst i = some (0, idx)) (hc : ri_cp (g_Gs n f) M idx = some (kd, 313, 0, tx)) (hk : kd = 20 ∨ kd = 30) (hs : g_sh[k]? = some (.inl (8, fl))) (hr : rest.length ≤ 4) : ra_ct (g_Gs n f) g_sh M i (.index k :: rest) [.index k] rest 313 :=
  ⟨0, idx, kd, 0, tx, g_m_X8_shrinkAll, hi, hc, hk, mt_313, Or.inr rfl, by simp [ri_nn], rfl, rfl, hr, Or.inr ⟨8, fl, (RX8, TX8, 26), hs, rfl, beq_self_eq_true RX8⟩⟩
theorem ct_314 {k : Nat} {fl : List (Option Jvm.Term)} (hi : ra_inst i = some (0, idx)) (hc : ri_cp (g_Gs n f) M idx = some (kd, 314, 0, tx)) (hk : kd = 20 ∨ kd = 30) (hs : g_sh[k]? = some (.inl (8, fl))) (hr : rest.length ≤ 4) : ra_ct (g_Gs n f) g_sh M i (.index k :: rest) [.index k] rest 314 :=
  ⟨0, idx, kd, 0, tx, g_m_X8_wipe, hi, hc, hk, mt_314, Or.inr rfl, by simp [ri_nn], rfl, rfl, hr, Or.inr ⟨8, fl, (RX8, TX8, 26), hs, rfl, beq_self_eq_true RX8⟩⟩
theorem ct_315 {a0 a1 : Jvm.Term} {k : Nat} {fl : List (Option Jvm.Term)} (hi : ra_inst i = some (0, idx)) (hc : ri_cp (g_Gs n f) M idx = some (kd, 315, 2, tx)) (hk : kd = 20 ∨ kd = 30) (hs : g_sh[k]? = some (.inl (8, fl))) (hr : rest.length ≤ 4) : ra_ct (g_Gs n f) g_sh M i (a1 :: a0 :: .index k :: rest) [.index k, a0, a1] rest 315 :=
  ⟨0, idx, kd, 2, tx, g_m_X8_set, hi, hc, hk, mt_315, Or.inr rfl, by simp [ri_nn], rfl, rfl, hr, Or.inr ⟨8, fl, (RX8, TX8, 26), hs, rfl, beq_self_eq_true RX8⟩⟩
theorem ct_316 {a0 a1 : Jvm.Term} {k : Nat} {fl : List (Option Jvm.Term)} (hi : ra_inst i = some (0, idx)) (hc : ri_cp (g_Gs n f) M idx = some (kd, 316, 2, tx)) (hk : kd = 20 ∨ kd = 30) (hs : g_sh[k]? = some (.inl (8, fl))) (hr : rest.length ≤ 4) : ra_ct (g_Gs n f) g_sh M i (a1 :: a0 :: .index k :: rest) [.index k, a0, a1] rest 316 :=
  ⟨0, idx, kd, 2, tx, g_m_X8_moveReason, hi, hc, hk, mt_316, Or.inr rfl, by simp [ri_nn], rfl, rfl, hr, Or.inr ⟨8, fl, (RX8, TX8, 26), hs, rfl, beq_self_eq_true RX8⟩⟩
theorem ct_317 {a0 a1 : Jvm.Term} {k : Nat} {fl : List (Option Jvm.Term)} (hi : ra_inst i = some (0, idx)) (hc : ri_cp (g_Gs n f) M idx = some (kd, 317, 2, tx)) (hk : kd = 20 ∨ kd = 30) (hs : g_sh[k]? = some (.inl (8, fl))) (hr : rest.length ≤ 4) : ra_ct (g_Gs n f) g_sh M i (a1 :: a0 :: .index k :: rest) [.index k, a0, a1] rest 317 :=
  ⟨0, idx, kd, 2, tx, g_m_X8_stepsFor, hi, hc, hk, mt_317, Or.inr rfl, by simp [ri_nn], rfl, rfl, hr, Or.inr ⟨8, fl, (RX8, TX8, 26), hs, rfl, beq_self_eq_true RX8⟩⟩
theorem ct_318 {a0 a1 : Jvm.Term} {k : Nat} {fl : List (Option Jvm.Term)} (hi : ra_inst i = some (0, idx)) (hc : ri_cp (g_Gs n f) M idx = some (kd, 318, 2, tx)) (hk : kd = 20 ∨ kd = 30) (hs : g_sh[k]? = some (.inl (8, fl))) (hr : rest.length ≤ 4) : ra_ct (g_Gs n f) g_sh M i (a1 :: a0 :: .index k :: rest) [.index k, a0, a1] rest 318 :=
  ⟨0, idx, kd, 2, tx, g_m_X8_begin, hi, hc, hk, mt_318, Or.inr rfl, by simp [ri_nn], rfl, rfl, hr, Or.inr ⟨8, fl, (RX8, TX8, 26), hs, rfl, beq_self_eq_true RX8⟩⟩
theorem ct_319 {a0 : Jvm.Term} {k : Nat} {fl : List (Option Jvm.Term)} (hi : ra_inst i = some (0, idx)) (hc : ri_cp (g_Gs n f) M idx = some (kd, 319, 1, tx)) (hk : kd = 20 ∨ kd = 30) (hs : g_sh[k]? = some (.inl (8, fl))) (hr : rest.length ≤ 4) : ra_ct (g_Gs n f) g_sh M i (a0 :: .index k :: rest) [.index k, a0] rest 319 :=
  ⟨0, idx, kd, 1, tx, g_m_X8_run, hi, hc, hk, mt_319, Or.inr rfl, by simp [ri_nn], rfl, rfl, hr, Or.inr ⟨8, fl, (RX8, TX8, 26), hs, rfl, beq_self_eq_true RX8⟩⟩
theorem ct_320 {k : Nat} {fl : List (Option Jvm.Term)} (hi : ra_inst i = some (0, idx)) (hc : ri_cp (g_Gs n f) M idx = some (kd, 320, 0, tx)) (hk : kd = 20 ∨ kd = 30) (hs : g_sh[k]? = some (.inl (8, fl))) (hr : rest.length ≤ 4) : ra_ct (g_Gs n f) g_sh M i (.index k :: rest) [.index k] rest 320 :=
  ⟨0, idx, kd, 0, tx, g_m_X8_tear, hi, hc, hk, mt_320, Or.inr rfl, by simp [ri_nn], rfl, rfl, hr, Or.inr ⟨8, fl, (RX8, TX8, 26), hs, rfl, beq_self_eq_true RX8⟩⟩
theorem ct_321 {k : Nat} {fl : List (Option Jvm.Term)} (hi : ra_inst i = some (0, idx)) (hc : ri_cp (g_Gs n f) M idx = some (kd, 321, 0, tx)) (hk : kd = 20 ∨ kd = 30) (hs : g_sh[k]? = some (.inl (8, fl))) (hr : rest.length ≤ 4) : ra_ct (g_Gs n f) g_sh M i (.index k :: rest) [.index k] rest 321 :=
  ⟨0, idx, kd, 0, tx, g_m_X8_turnBack, hi, hc, hk, mt_321, Or.inr rfl, by simp [ri_nn], rfl, rfl, hr, Or.inr ⟨8, fl, (RX8, TX8, 26), hs, rfl, beq_self_eq_true RX8⟩⟩
theorem ct_322 {a0 : Jvm.Term} {k : Nat} {fl : List (Option Jvm.Term)} (hi : ra_inst i = some (0, idx)) (hc : ri_cp (g_Gs n f) M idx = some (kd, 322, 1, tx)) (hk : kd = 20 ∨ kd = 30) (hs : g_sh[k]? = some (.inl (8, fl))) (hr : rest.length ≤ 4) : ra_ct (g_Gs n f) g_sh M i (a0 :: .index k :: rest) [.index k, a0] rest 322 :=
  ⟨0, idx, kd, 1, tx, g_m_X8_move, hi, hc, hk, mt_322, Or.inr rfl, by simp [ri_nn], rfl, rfl, hr, Or.inr ⟨8, fl, (RX8, TX8, 26), hs, rfl, beq_self_eq_true RX8⟩⟩
theorem ct_323 {a0 : Jvm.Term} {k : Nat} {fl : List (Option Jvm.Term)} (hi : ra_inst i = some (0, idx)) (hc : ri_cp (g_Gs n f) M idx = some (kd, 323, 1, tx)) (hk : kd = 20 ∨ kd = 30) (hs : g_sh[k]? = some (.inl (8, fl))) (hr : rest.length ≤ 4) : ra_ct (g_Gs n f) g_sh M i (a0 :: .index k :: rest) [.index k, a0] rest 323 :=
  ⟨0, idx, kd, 1, tx, g_m_X8_blocksAt, hi, hc, hk, mt_323, Or.inr rfl, by simp [ri_nn], rfl, rfl, hr, Or.inr ⟨8, fl, (RX8, TX8, 26), hs, rfl, beq_self_eq_true RX8⟩⟩
theorem ct_324 {a0 : Jvm.Term} {k : Nat} {fl : List (Option Jvm.Term)} (hi : ra_inst i = some (0, idx)) (hc : ri_cp (g_Gs n f) M idx = some (kd, 324, 1, tx)) (hk : kd = 20 ∨ kd = 30) (hs : g_sh[k]? = some (.inl (8, fl))) (hr : rest.length ≤ 4) : ra_ct (g_Gs n f) g_sh M i (a0 :: .index k :: rest) [.index k, a0] rest 324 :=
  ⟨0, idx, kd, 1, tx, g_m_X8_nextStep, hi, hc, hk, mt_324, Or.inr rfl, by simp [ri_nn], rfl, rfl, hr, Or.inr ⟨8, fl, (RX8, TX8, 26), hs, rfl, beq_self_eq_true RX8⟩⟩
theorem ct_325 {a0 a1 : Jvm.Term} {k : Nat} {fl : List (Option Jvm.Term)} (hi : ra_inst i = some (0, idx)) (hc : ri_cp (g_Gs n f) M idx = some (kd, 325, 2, tx)) (hk : kd = 20 ∨ kd = 30) (hs : g_sh[k]? = some (.inl (8, fl))) (hr : rest.length ≤ 4) : ra_ct (g_Gs n f) g_sh M i (a1 :: a0 :: .index k :: rest) [.index k, a0, a1] rest 325 :=
  ⟨0, idx, kd, 2, tx, g_m_X8_stepSector, hi, hc, hk, mt_325, Or.inr rfl, by simp [ri_nn], rfl, rfl, hr, Or.inr ⟨8, fl, (RX8, TX8, 26), hs, rfl, beq_self_eq_true RX8⟩⟩
theorem ct_326 {a0 : Jvm.Term} {k : Nat} {fl : List (Option Jvm.Term)} (hi : ra_inst i = some (0, idx)) (hc : ri_cp (g_Gs n f) M idx = some (kd, 326, 1, tx)) (hk : kd = 20 ∨ kd = 30) (hs : g_sh[k]? = some (.inl (8, fl))) (hr : rest.length ≤ 4) : ra_ct (g_Gs n f) g_sh M i (a0 :: .index k :: rest) [.index k, a0] rest 326 :=
  ⟨0, idx, kd, 1, tx, g_m_X8_copies_, hi, hc, hk, mt_326, Or.inr rfl, by simp [ri_nn], rfl, rfl, hr, Or.inr ⟨8, fl, (RX8, TX8, 26), hs, rfl, beq_self_eq_true RX8⟩⟩
theorem ct_327 {a0 : Jvm.Term} {k : Nat} {fl : List (Option Jvm.Term)} (hi : ra_inst i = some (0, idx)) (hc : ri_cp (g_Gs n f) M idx = some (kd, 327, 1, tx)) (hk : kd = 20 ∨ kd = 30) (hs : g_sh[k]? = some (.inl (8, fl))) (hr : rest.length ≤ 4) : ra_ct (g_Gs n f) g_sh M i (a0 :: .index k :: rest) [.index k, a0] rest 327 :=
  ⟨0, idx, kd, 1, tx, g_m_X8_leftmost, hi, hc, hk, mt_327, Or.inr rfl, by simp [ri_nn], rfl, rfl, hr, Or.inr ⟨8, fl, (RX8, TX8, 26), hs, rfl, beq_self_eq_true RX8⟩⟩
theorem ct_328 {a0 : Jvm.Term} {k : Nat} {fl : List (Option Jvm.Term)} (hi : ra_inst i = some (0, idx)) (hc : ri_cp (g_Gs n f) M idx = some (kd, 328, 1, tx)) (hk : kd = 20 ∨ kd = 30) (hs : g_sh[k]? = some (.inl (8, fl))) (hr : rest.length ≤ 4) : ra_ct (g_Gs n f) g_sh M i (a0 :: .index k :: rest) [.index k, a0] rest 328 :=
  ⟨0, idx, kd, 1, tx, g_m_X8_rightmost, hi, hc, hk, mt_328, Or.inr rfl, by simp [ri_nn], rfl, rfl, hr, Or.inr ⟨8, fl, (RX8, TX8, 26), hs, rfl, beq_self_eq_true RX8⟩⟩
theorem ct_329 {k : Nat} {fl : List (Option Jvm.Term)} (hi : ra_inst i = some (0, idx)) (hc : ri_cp (g_Gs n f) M idx = some (kd, 329, 0, tx)) (hk : kd = 20 ∨ kd = 30) (hs : g_sh[k]? = some (.inl (8, fl))) (hr : rest.length ≤ 4) : ra_ct (g_Gs n f) g_sh M i (.index k :: rest) [.index k] rest 329 :=
  ⟨0, idx, kd, 0, tx, g_m_X8_compacts, hi, hc, hk, mt_329, Or.inr rfl, by simp [ri_nn], rfl, rfl, hr, Or.inr ⟨8, fl, (RX8, TX8, 26), hs, rfl, beq_self_eq_true RX8⟩⟩
theorem ct_330 {k : Nat} {fl : List (Option Jvm.Term)} (hi : ra_inst i = some (0, idx)) (hc : ri_cp (g_Gs n f) M idx = some (kd, 330, 0, tx)) (hk : kd = 20 ∨ kd = 30) (hs : g_sh[k]? = some (.inl (8, fl))) (hr : rest.length ≤ 4) : ra_ct (g_Gs n f) g_sh M i (.index k :: rest) [.index k] rest 330 :=
  ⟨0, idx, kd, 0, tx, g_m_X8_compact, hi, hc, hk, mt_330, Or.inr rfl, by simp [ri_nn], rfl, rfl, hr, Or.inr ⟨8, fl, (RX8, TX8, 26), hs, rfl, beq_self_eq_true RX8⟩⟩
theorem ct_331 {k : Nat} {fl : List (Option Jvm.Term)} (hi : ra_inst i = some (0, idx)) (hc : ri_cp (g_Gs n f) M idx = some (kd, 331, 0, tx)) (hk : kd = 20 ∨ kd = 30) (hs : g_sh[k]? = some (.inl (8, fl))) (hr : rest.length ≤ 4) : ra_ct (g_Gs n f) g_sh M i (.index k :: rest) [.index k] rest 331 :=
  ⟨0, idx, kd, 0, tx, g_m_X8_compactSteps, hi, hc, hk, mt_331, Or.inr rfl, by simp [ri_nn], rfl, rfl, hr, Or.inr ⟨8, fl, (RX8, TX8, 26), hs, rfl, beq_self_eq_true RX8⟩⟩
theorem ct_332 {a0 : Jvm.Term} {k : Nat} {fl : List (Option Jvm.Term)} (hi : ra_inst i = some (0, idx)) (hc : ri_cp (g_Gs n f) M idx = some (kd, 332, 1, tx)) (hk : kd = 20 ∨ kd = 30) (hs : g_sh[k]? = some (.inl (8, fl))) (hr : rest.length ≤ 4) : ra_ct (g_Gs n f) g_sh M i (a0 :: .index k :: rest) [.index k, a0] rest 332 :=
  ⟨0, idx, kd, 1, tx, g_m_X8_cheapestMove, hi, hc, hk, mt_332, Or.inr rfl, by simp [ri_nn], rfl, rfl, hr, Or.inr ⟨8, fl, (RX8, TX8, 26), hs, rfl, beq_self_eq_true RX8⟩⟩
theorem ct_333 {a0 a1 a2 : Jvm.Term} {k : Nat} {fl : List (Option Jvm.Term)} (hi : ra_inst i = some (0, idx)) (hc : ri_cp (g_Gs n f) M idx = some (kd, 333, 3, tx)) (hk : kd = 20 ∨ kd = 30) (hs : g_sh[k]? = some (.inl (8, fl))) (hr : rest.length ≤ 4) : ra_ct (g_Gs n f) g_sh M i (a2 :: a1 :: a0 :: .index k :: rest) [.index k, a0, a1, a2] rest 333 :=
  ⟨0, idx, kd, 3, tx, g_m_X8_brings, hi, hc, hk, mt_333, Or.inr rfl, by simp [ri_nn], rfl, rfl, hr, Or.inr ⟨8, fl, (RX8, TX8, 26), hs, rfl, beq_self_eq_true RX8⟩⟩
theorem ct_334 {a0 a1 : Jvm.Term} {k : Nat} {fl : List (Option Jvm.Term)} (hi : ra_inst i = some (0, idx)) (hc : ri_cp (g_Gs n f) M idx = some (kd, 334, 2, tx)) (hk : kd = 20 ∨ kd = 30) (hs : g_sh[k]? = some (.inl (8, fl))) (hr : rest.length ≤ 4) : ra_ct (g_Gs n f) g_sh M i (a1 :: a0 :: .index k :: rest) [.index k, a0, a1] rest 334 :=
  ⟨0, idx, kd, 2, tx, g_m_X8_bestChunk, hi, hc, hk, mt_334, Or.inr rfl, by simp [ri_nn], rfl, rfl, hr, Or.inr ⟨8, fl, (RX8, TX8, 26), hs, rfl, beq_self_eq_true RX8⟩⟩
theorem ct_335 {a0 : Jvm.Term} {k : Nat} {fl : List (Option Jvm.Term)} (hi : ra_inst i = some (0, idx)) (hc : ri_cp (g_Gs n f) M idx = some (kd, 335, 1, tx)) (hk : kd = 20 ∨ kd = 30) (hs : g_sh[k]? = some (.inl (8, fl))) (hr : rest.length ≤ 4) : ra_ct (g_Gs n f) g_sh M i (a0 :: .index k :: rest) [.index k, a0] rest 335 :=
  ⟨0, idx, kd, 1, tx, g_m_X8_write, hi, hc, hk, mt_335, Or.inr rfl, by simp [ri_nn], rfl, rfl, hr, Or.inr ⟨8, fl, (RX8, TX8, 26), hs, rfl, beq_self_eq_true RX8⟩⟩
theorem ct_336 {a0 : Jvm.Term} {k : Nat} {fl : List (Option Jvm.Term)} (hi : ra_inst i = some (0, idx)) (hc : ri_cp (g_Gs n f) M idx = some (kd, 336, 1, tx)) (hk : kd = 20 ∨ kd = 30) (hs : g_sh[k]? = some (.inl (8, fl))) (hr : rest.length ≤ 4) : ra_ct (g_Gs n f) g_sh M i (a0 :: .index k :: rest) [.index k, a0] rest 336 :=
  ⟨0, idx, kd, 1, tx, g_m_X8_writeNumber, hi, hc, hk, mt_336, Or.inr rfl, by simp [ri_nn], rfl, rfl, hr, Or.inr ⟨8, fl, (RX8, TX8, 26), hs, rfl, beq_self_eq_true RX8⟩⟩
theorem ct_337 {k : Nat} {fl : List (Option Jvm.Term)} (hi : ra_inst i = some (0, idx)) (hc : ri_cp (g_Gs n f) M idx = some (kd, 337, 0, tx)) (hk : kd = 20 ∨ kd = 30) (hs : g_sh[k]? = some (.inl (8, fl))) (hr : rest.length ≤ 4) : ra_ct (g_Gs n f) g_sh M i (.index k :: rest) [.index k] rest 337 :=
  ⟨0, idx, kd, 0, tx, g_m_X8_printDisk, hi, hc, hk, mt_337, Or.inr rfl, by simp [ri_nn], rfl, rfl, hr, Or.inr ⟨8, fl, (RX8, TX8, 26), hs, rfl, beq_self_eq_true RX8⟩⟩
theorem ct_338 {a0 : Jvm.Term} {k : Nat} {fl : List (Option Jvm.Term)} (hi : ra_inst i = some (0, idx)) (hc : ri_cp (g_Gs n f) M idx = some (kd, 338, 1, tx)) (hk : kd = 20 ∨ kd = 30) (hs : g_sh[k]? = some (.inl (8, fl))) (hr : rest.length ≤ 4) : ra_ct (g_Gs n f) g_sh M i (a0 :: .index k :: rest) [.index k, a0] rest 338 :=
  ⟨0, idx, kd, 1, tx, g_m_X8_writePart, hi, hc, hk, mt_338, Or.inr rfl, by simp [ri_nn], rfl, rfl, hr, Or.inr ⟨8, fl, (RX8, TX8, 26), hs, rfl, beq_self_eq_true RX8⟩⟩
theorem ct_339 {a0 : Jvm.Term} {k : Nat} {fl : List (Option Jvm.Term)} (hi : ra_inst i = some (0, idx)) (hc : ri_cp (g_Gs n f) M idx = some (kd, 339, 1, tx)) (hk : kd = 20 ∨ kd = 30) (hs : g_sh[k]? = some (.inl (8, fl))) (hr : rest.length ≤ 4) : ra_ct (g_Gs n f) g_sh M i (a0 :: .index k :: rest) [.index k, a0] rest 339 :=
  ⟨0, idx, kd, 1, tx, g_m_X8_outputByte, hi, hc, hk, mt_339, Or.inr rfl, by simp [ri_nn], rfl, rfl, hr, Or.inr ⟨8, fl, (RX8, TX8, 26), hs, rfl, beq_self_eq_true RX8⟩⟩
theorem ct_340 {k : Nat} {fl : List (Option Jvm.Term)} (hi : ra_inst i = some (0, idx)) (hc : ri_cp (g_Gs n f) M idx = some (kd, 340, 0, tx)) (hk : kd = 20 ∨ kd = 30) (hs : g_sh[k]? = some (.inl (8, fl))) (hr : rest.length ≤ 4) : ra_ct (g_Gs n f) g_sh M i (.index k :: rest) [.index k] rest 340 :=
  ⟨0, idx, kd, 0, tx, g_m_X8_undo, hi, hc, hk, mt_340, Or.inr rfl, by simp [ri_nn], rfl, rfl, hr, Or.inr ⟨8, fl, (RX8, TX8, 26), hs, rfl, beq_self_eq_true RX8⟩⟩
theorem ct_341 {k : Nat} {fl : List (Option Jvm.Term)} (hi : ra_inst i = some (0, idx)) (hc : ri_cp (g_Gs n f) M idx = some (kd, 341, 0, tx)) (hk : kd = 20 ∨ kd = 30) (hs : g_sh[k]? = some (.inl (8, fl))) (hr : rest.length ≤ 4) : ra_ct (g_Gs n f) g_sh M i (.index k :: rest) [.index k] rest 341 :=
  ⟨0, idx, kd, 0, tx, g_m_X8_saveState, hi, hc, hk, mt_341, Or.inr rfl, by simp [ri_nn], rfl, rfl, hr, Or.inr ⟨8, fl, (RX8, TX8, 26), hs, rfl, beq_self_eq_true RX8⟩⟩
theorem ct_342 {k : Nat} {fl : List (Option Jvm.Term)} (hi : ra_inst i = some (0, idx)) (hc : ri_cp (g_Gs n f) M idx = some (kd, 342, 0, tx)) (hk : kd = 20 ∨ kd = 30) (hs : g_sh[k]? = some (.inl (8, fl))) (hr : rest.length ≤ 4) : ra_ct (g_Gs n f) g_sh M i (.index k :: rest) [.index k] rest 342 :=
  ⟨0, idx, kd, 0, tx, g_m_X8_restoreState, hi, hc, hk, mt_342, Or.inr rfl, by simp [ri_nn], rfl, rfl, hr, Or.inr ⟨8, fl, (RX8, TX8, 26), hs, rfl, beq_self_eq_true RX8⟩⟩
theorem ct_343 {a0 a1 a2 : Jvm.Term} (hi : ra_inst i = some (1, idx)) (hc : ri_cp (g_Gs n f) M idx = some (kd, 343, 3, tx)) (hk : kd = 21 ∨ (kd = 31 ∧ (ri_hh g_m_L_count).isEmpty = true)) (hr : rest.length ≤ 4) : ra_ct (g_Gs n f) g_sh M i (a2 :: a1 :: a0 :: rest) [a0, a1, a2] rest 343 :=
  ⟨1, idx, kd, 3, tx, g_m_L_count, hi, hc, by rcases hk with h | h <;> omega, mt_343, by rcases hk with h | h; exact Or.inl h; exact Or.inr h.2, by simp [ri_nn], rfl, rfl, hr, Or.inl rfl⟩
theorem ct_344 {a0 a1 a2 a3 : Jvm.Term} (hi : ra_inst i = some (1, idx)) (hc : ri_cp (g_Gs n f) M idx = some (kd, 344, 4, tx)) (hk : kd = 21 ∨ (kd = 31 ∧ (ri_hh g_m_L_part).isEmpty = true)) (hr : rest.length ≤ 4) : ra_ct (g_Gs n f) g_sh M i (a3 :: a2 :: a1 :: a0 :: rest) [a0, a1, a2, a3] rest 344 :=
  ⟨1, idx, kd, 4, tx, g_m_L_part, hi, hc, by rcases hk with h | h <;> omega, mt_344, by rcases hk with h | h; exact Or.inl h; exact Or.inr h.2, by simp [ri_nn], rfl, rfl, hr, Or.inl rfl⟩
theorem ct_345 {a0 a1 a2 : Jvm.Term} (hi : ra_inst i = some (1, idx)) (hc : ri_cp (g_Gs n f) M idx = some (kd, 345, 3, tx)) (hk : kd = 21 ∨ (kd = 31 ∧ (ri_hh g_m_L_sector).isEmpty = true)) (hr : rest.length ≤ 4) : ra_ct (g_Gs n f) g_sh M i (a2 :: a1 :: a0 :: rest) [a0, a1, a2] rest 345 :=
  ⟨1, idx, kd, 3, tx, g_m_L_sector, hi, hc, by rcases hk with h | h <;> omega, mt_345, by rcases hk with h | h; exact Or.inl h; exact Or.inr h.2, by simp [ri_nn], rfl, rfl, hr, Or.inl rfl⟩
theorem ct_346 {a0 a1 a2 : Jvm.Term} (hi : ra_inst i = some (1, idx)) (hc : ri_cp (g_Gs n f) M idx = some (kd, 346, 3, tx)) (hk : kd = 21 ∨ (kd = 31 ∧ (ri_hh g_m_L_owner).isEmpty = true)) (hr : rest.length ≤ 4) : ra_ct (g_Gs n f) g_sh M i (a2 :: a1 :: a0 :: rest) [a0, a1, a2] rest 346 :=
  ⟨1, idx, kd, 3, tx, g_m_L_owner, hi, hc, by rcases hk with h | h <;> omega, mt_346, by rcases hk with h | h; exact Or.inl h; exact Or.inr h.2, by simp [ri_nn], rfl, rfl, hr, Or.inl rfl⟩
theorem ct_347 {a0 a1 a2 a3 : Jvm.Term} (hi : ra_inst i = some (1, idx)) (hc : ri_cp (g_Gs n f) M idx = some (kd, 347, 4, tx)) (hk : kd = 21 ∨ (kd = 31 ∧ (ri_hh g_m_L_place).isEmpty = true)) (hr : rest.length ≤ 4) : ra_ct (g_Gs n f) g_sh M i (a3 :: a2 :: a1 :: a0 :: rest) [a0, a1, a2, a3] rest 347 :=
  ⟨1, idx, kd, 4, tx, g_m_L_place, hi, hc, by rcases hk with h | h <;> omega, mt_347, by rcases hk with h | h; exact Or.inl h; exact Or.inr h.2, by simp [ri_nn], rfl, rfl, hr, Or.inl rfl⟩
theorem ct_348 {a0 a1 a2 : Jvm.Term} (hi : ra_inst i = some (1, idx)) (hc : ri_cp (g_Gs n f) M idx = some (kd, 348, 3, tx)) (hk : kd = 21 ∨ (kd = 31 ∧ (ri_hh g_m_L_isWhole).isEmpty = true)) (hr : rest.length ≤ 4) : ra_ct (g_Gs n f) g_sh M i (a2 :: a1 :: a0 :: rest) [a0, a1, a2] rest 348 :=
  ⟨1, idx, kd, 3, tx, g_m_L_isWhole, hi, hc, by rcases hk with h | h <;> omega, mt_348, by rcases hk with h | h; exact Or.inl h; exact Or.inr h.2, by simp [ri_nn], rfl, rfl, hr, Or.inl rfl⟩
theorem ct_349 {a0 a1 a2 : Jvm.Term} (hi : ra_inst i = some (1, idx)) (hc : ri_cp (g_Gs n f) M idx = some (kd, 349, 3, tx)) (hk : kd = 21 ∨ (kd = 31 ∧ (ri_hh g_m_L_byStart).isEmpty = true)) (hr : rest.length ≤ 4) : ra_ct (g_Gs n f) g_sh M i (a2 :: a1 :: a0 :: rest) [a0, a1, a2] rest 349 :=
  ⟨1, idx, kd, 3, tx, g_m_L_byStart, hi, hc, by rcases hk with h | h <;> omega, mt_349, by rcases hk with h | h; exact Or.inl h; exact Or.inr h.2, by simp [ri_nn], rfl, rfl, hr, Or.inl rfl⟩
theorem ct_350 {a0 a1 a2 a3 : Jvm.Term} (hi : ra_inst i = some (1, idx)) (hc : ri_cp (g_Gs n f) M idx = some (kd, 350, 4, tx)) (hk : kd = 21 ∨ (kd = 31 ∧ (ri_hh g_m_L_gap).isEmpty = true)) (hr : rest.length ≤ 4) : ra_ct (g_Gs n f) g_sh M i (a3 :: a2 :: a1 :: a0 :: rest) [a0, a1, a2, a3] rest 350 :=
  ⟨1, idx, kd, 4, tx, g_m_L_gap, hi, hc, by rcases hk with h | h <;> omega, mt_350, by rcases hk with h | h; exact Or.inl h; exact Or.inr h.2, by simp [ri_nn], rfl, rfl, hr, Or.inl rfl⟩
theorem ct_351 {a0 a1 a2 a3 : Jvm.Term} (hi : ra_inst i = some (1, idx)) (hc : ri_cp (g_Gs n f) M idx = some (kd, 351, 4, tx)) (hk : kd = 21 ∨ (kd = 31 ∧ (ri_hh g_m_L_fit).isEmpty = true)) (hr : rest.length ≤ 4) : ra_ct (g_Gs n f) g_sh M i (a3 :: a2 :: a1 :: a0 :: rest) [a0, a1, a2, a3] rest 351 :=
  ⟨1, idx, kd, 4, tx, g_m_L_fit, hi, hc, by rcases hk with h | h <;> omega, mt_351, by rcases hk with h | h; exact Or.inl h; exact Or.inr h.2, by simp [ri_nn], rfl, rfl, hr, Or.inl rfl⟩
theorem ct_352 {a0 a1 a2 a3 a4 a5 : Jvm.Term} (hi : ra_inst i = some (1, idx)) (hc : ri_cp (g_Gs n f) M idx = some (kd, 352, 6, tx)) (hk : kd = 21 ∨ (kd = 31 ∧ (ri_hh g_m_L_add).isEmpty = true)) (hr : rest.length ≤ 4) : ra_ct (g_Gs n f) g_sh M i (a5 :: a4 :: a3 :: a2 :: a1 :: a0 :: rest) [a0, a1, a2, a3, a4, a5] rest 352 :=
  ⟨1, idx, kd, 6, tx, g_m_L_add, hi, hc, by rcases hk with h | h <;> omega, mt_352, by rcases hk with h | h; exact Or.inl h; exact Or.inr h.2, by simp [ri_nn], rfl, rfl, hr, Or.inl rfl⟩
theorem ct_353 {a0 a1 a2 a3 a4 a5 : Jvm.Term} (hi : ra_inst i = some (1, idx)) (hc : ri_cp (g_Gs n f) M idx = some (kd, 353, 6, tx)) (hk : kd = 21 ∨ (kd = 31 ∧ (ri_hh g_m_L_addBy).isEmpty = true)) (hr : rest.length ≤ 4) : ra_ct (g_Gs n f) g_sh M i (a5 :: a4 :: a3 :: a2 :: a1 :: a0 :: rest) [a0, a1, a2, a3, a4, a5] rest 353 :=
  ⟨1, idx, kd, 6, tx, g_m_L_addBy, hi, hc, by rcases hk with h | h <;> omega, mt_353, by rcases hk with h | h; exact Or.inl h; exact Or.inr h.2, by simp [ri_nn], rfl, rfl, hr, Or.inl rfl⟩
theorem ct_354 {a0 a1 a2 : Jvm.Term} (hi : ra_inst i = some (1, idx)) (hc : ri_cp (g_Gs n f) M idx = some (kd, 354, 3, tx)) (hk : kd = 21 ∨ (kd = 31 ∧ (ri_hh g_m_L_remove).isEmpty = true)) (hr : rest.length ≤ 4) : ra_ct (g_Gs n f) g_sh M i (a2 :: a1 :: a0 :: rest) [a0, a1, a2] rest 354 :=
  ⟨1, idx, kd, 3, tx, g_m_L_remove, hi, hc, by rcases hk with h | h <;> omega, mt_354, by rcases hk with h | h; exact Or.inl h; exact Or.inr h.2, by simp [ri_nn], rfl, rfl, hr, Or.inl rfl⟩
theorem ct_355 {a0 a1 a2 a3 : Jvm.Term} (hi : ra_inst i = some (1, idx)) (hc : ri_cp (g_Gs n f) M idx = some (kd, 355, 4, tx)) (hk : kd = 21 ∨ (kd = 31 ∧ (ri_hh g_m_L_lock).isEmpty = true)) (hr : rest.length ≤ 4) : ra_ct (g_Gs n f) g_sh M i (a3 :: a2 :: a1 :: a0 :: rest) [a0, a1, a2, a3] rest 355 :=
  ⟨1, idx, kd, 4, tx, g_m_L_lock, hi, hc, by rcases hk with h | h <;> omega, mt_355, by rcases hk with h | h; exact Or.inl h; exact Or.inr h.2, by simp [ri_nn], rfl, rfl, hr, Or.inl rfl⟩
theorem ct_356 {a0 a1 a2 a3 : Jvm.Term} (hi : ra_inst i = some (1, idx)) (hc : ri_cp (g_Gs n f) M idx = some (kd, 356, 4, tx)) (hk : kd = 21 ∨ (kd = 31 ∧ (ri_hh g_m_L_resizeReason).isEmpty = true)) (hr : rest.length ≤ 4) : ra_ct (g_Gs n f) g_sh M i (a3 :: a2 :: a1 :: a0 :: rest) [a0, a1, a2, a3] rest 356 :=
  ⟨1, idx, kd, 4, tx, g_m_L_resizeReason, hi, hc, by rcases hk with h | h <;> omega, mt_356, by rcases hk with h | h; exact Or.inl h; exact Or.inr h.2, by simp [ri_nn], rfl, rfl, hr, Or.inl rfl⟩
theorem ct_357 {a0 a1 a2 a3 : Jvm.Term} (hi : ra_inst i = some (1, idx)) (hc : ri_cp (g_Gs n f) M idx = some (kd, 357, 4, tx)) (hk : kd = 21 ∨ (kd = 31 ∧ (ri_hh g_m_L_resize).isEmpty = true)) (hr : rest.length ≤ 4) : ra_ct (g_Gs n f) g_sh M i (a3 :: a2 :: a1 :: a0 :: rest) [a0, a1, a2, a3] rest 357 :=
  ⟨1, idx, kd, 4, tx, g_m_L_resize, hi, hc, by rcases hk with h | h <;> omega, mt_357, by rcases hk with h | h; exact Or.inl h; exact Or.inr h.2, by simp [ri_nn], rfl, rfl, hr, Or.inl rfl⟩
theorem ct_358 {a0 a1 a2 a3 : Jvm.Term} (hi : ra_inst i = some (1, idx)) (hc : ri_cp (g_Gs n f) M idx = some (kd, 358, 4, tx)) (hk : kd = 21 ∨ (kd = 31 ∧ (ri_hh g_m_L_setMinimum).isEmpty = true)) (hr : rest.length ≤ 4) : ra_ct (g_Gs n f) g_sh M i (a3 :: a2 :: a1 :: a0 :: rest) [a0, a1, a2, a3] rest 358 :=
  ⟨1, idx, kd, 4, tx, g_m_L_setMinimum, hi, hc, by rcases hk with h | h <;> omega, mt_358, by rcases hk with h | h; exact Or.inl h; exact Or.inr h.2, by simp [ri_nn], rfl, rfl, hr, Or.inl rfl⟩
theorem ct_359 {a0 a1 a2 : Jvm.Term} (hi : ra_inst i = some (1, idx)) (hc : ri_cp (g_Gs n f) M idx = some (kd, 359, 3, tx)) (hk : kd = 21 ∨ (kd = 31 ∧ (ri_hh g_m_L_growsTo).isEmpty = true)) (hr : rest.length ≤ 4) : ra_ct (g_Gs n f) g_sh M i (a2 :: a1 :: a0 :: rest) [a0, a1, a2] rest 359 :=
  ⟨1, idx, kd, 3, tx, g_m_L_growsTo, hi, hc, by rcases hk with h | h <;> omega, mt_359, by rcases hk with h | h; exact Or.inl h; exact Or.inr h.2, by simp [ri_nn], rfl, rfl, hr, Or.inl rfl⟩
theorem ct_360 {a0 a1 a2 a3 : Jvm.Term} (hi : ra_inst i = some (1, idx)) (hc : ri_cp (g_Gs n f) M idx = some (kd, 360, 4, tx)) (hk : kd = 21 ∨ (kd = 31 ∧ (ri_hh g_m_L_set).isEmpty = true)) (hr : rest.length ≤ 4) : ra_ct (g_Gs n f) g_sh M i (a3 :: a2 :: a1 :: a0 :: rest) [a0, a1, a2, a3] rest 360 :=
  ⟨1, idx, kd, 4, tx, g_m_L_set, hi, hc, by rcases hk with h | h <;> omega, mt_360, by rcases hk with h | h; exact Or.inl h; exact Or.inr h.2, by simp [ri_nn], rfl, rfl, hr, Or.inl rfl⟩
theorem ct_361 {a0 a1 a2 a3 : Jvm.Term} (hi : ra_inst i = some (1, idx)) (hc : ri_cp (g_Gs n f) M idx = some (kd, 361, 4, tx)) (hk : kd = 21 ∨ (kd = 31 ∧ (ri_hh g_m_L_moveReason).isEmpty = true)) (hr : rest.length ≤ 4) : ra_ct (g_Gs n f) g_sh M i (a3 :: a2 :: a1 :: a0 :: rest) [a0, a1, a2, a3] rest 361 :=
  ⟨1, idx, kd, 4, tx, g_m_L_moveReason, hi, hc, by rcases hk with h | h <;> omega, mt_361, by rcases hk with h | h; exact Or.inl h; exact Or.inr h.2, by simp [ri_nn], rfl, rfl, hr, Or.inl rfl⟩
theorem ct_362 {a0 a1 a2 a3 : Jvm.Term} (hi : ra_inst i = some (1, idx)) (hc : ri_cp (g_Gs n f) M idx = some (kd, 362, 4, tx)) (hk : kd = 21 ∨ (kd = 31 ∧ (ri_hh g_m_L_stepsFor).isEmpty = true)) (hr : rest.length ≤ 4) : ra_ct (g_Gs n f) g_sh M i (a3 :: a2 :: a1 :: a0 :: rest) [a0, a1, a2, a3] rest 362 :=
  ⟨1, idx, kd, 4, tx, g_m_L_stepsFor, hi, hc, by rcases hk with h | h <;> omega, mt_362, by rcases hk with h | h; exact Or.inl h; exact Or.inr h.2, by simp [ri_nn], rfl, rfl, hr, Or.inl rfl⟩
theorem ct_363 {a0 a1 a2 a3 : Jvm.Term} (hi : ra_inst i = some (1, idx)) (hc : ri_cp (g_Gs n f) M idx = some (kd, 363, 4, tx)) (hk : kd = 21 ∨ (kd = 31 ∧ (ri_hh g_m_L_begin).isEmpty = true)) (hr : rest.length ≤ 4) : ra_ct (g_Gs n f) g_sh M i (a3 :: a2 :: a1 :: a0 :: rest) [a0, a1, a2, a3] rest 363 :=
  ⟨1, idx, kd, 4, tx, g_m_L_begin, hi, hc, by rcases hk with h | h <;> omega, mt_363, by rcases hk with h | h; exact Or.inl h; exact Or.inr h.2, by simp [ri_nn], rfl, rfl, hr, Or.inl rfl⟩
theorem ct_364 {a0 a1 a2 : Jvm.Term} (hi : ra_inst i = some (1, idx)) (hc : ri_cp (g_Gs n f) M idx = some (kd, 364, 3, tx)) (hk : kd = 21 ∨ (kd = 31 ∧ (ri_hh g_m_L_run).isEmpty = true)) (hr : rest.length ≤ 4) : ra_ct (g_Gs n f) g_sh M i (a2 :: a1 :: a0 :: rest) [a0, a1, a2] rest 364 :=
  ⟨1, idx, kd, 3, tx, g_m_L_run, hi, hc, by rcases hk with h | h <;> omega, mt_364, by rcases hk with h | h; exact Or.inl h; exact Or.inr h.2, by simp [ri_nn], rfl, rfl, hr, Or.inl rfl⟩
theorem ct_365 {a0 a1 : Jvm.Term} (hi : ra_inst i = some (1, idx)) (hc : ri_cp (g_Gs n f) M idx = some (kd, 365, 2, tx)) (hk : kd = 21 ∨ (kd = 31 ∧ (ri_hh g_m_L_tear).isEmpty = true)) (hr : rest.length ≤ 4) : ra_ct (g_Gs n f) g_sh M i (a1 :: a0 :: rest) [a0, a1] rest 365 :=
  ⟨1, idx, kd, 2, tx, g_m_L_tear, hi, hc, by rcases hk with h | h <;> omega, mt_365, by rcases hk with h | h; exact Or.inl h; exact Or.inr h.2, by simp [ri_nn], rfl, rfl, hr, Or.inl rfl⟩
theorem ct_366 {a0 a1 : Jvm.Term} (hi : ra_inst i = some (1, idx)) (hc : ri_cp (g_Gs n f) M idx = some (kd, 366, 2, tx)) (hk : kd = 21 ∨ (kd = 31 ∧ (ri_hh g_m_L_turnBack).isEmpty = true)) (hr : rest.length ≤ 4) : ra_ct (g_Gs n f) g_sh M i (a1 :: a0 :: rest) [a0, a1] rest 366 :=
  ⟨1, idx, kd, 2, tx, g_m_L_turnBack, hi, hc, by rcases hk with h | h <;> omega, mt_366, by rcases hk with h | h; exact Or.inl h; exact Or.inr h.2, by simp [ri_nn], rfl, rfl, hr, Or.inl rfl⟩
theorem ct_367 {a0 a1 a2 : Jvm.Term} (hi : ra_inst i = some (1, idx)) (hc : ri_cp (g_Gs n f) M idx = some (kd, 367, 3, tx)) (hk : kd = 21 ∨ (kd = 31 ∧ (ri_hh g_m_L_move).isEmpty = true)) (hr : rest.length ≤ 4) : ra_ct (g_Gs n f) g_sh M i (a2 :: a1 :: a0 :: rest) [a0, a1, a2] rest 367 :=
  ⟨1, idx, kd, 3, tx, g_m_L_move, hi, hc, by rcases hk with h | h <;> omega, mt_367, by rcases hk with h | h; exact Or.inl h; exact Or.inr h.2, by simp [ri_nn], rfl, rfl, hr, Or.inl rfl⟩
theorem ct_368 {a0 a1 a2 : Jvm.Term} (hi : ra_inst i = some (1, idx)) (hc : ri_cp (g_Gs n f) M idx = some (kd, 368, 3, tx)) (hk : kd = 21 ∨ (kd = 31 ∧ (ri_hh g_m_L_leftmost).isEmpty = true)) (hr : rest.length ≤ 4) : ra_ct (g_Gs n f) g_sh M i (a2 :: a1 :: a0 :: rest) [a0, a1, a2] rest 368 :=
  ⟨1, idx, kd, 3, tx, g_m_L_leftmost, hi, hc, by rcases hk with h | h <;> omega, mt_368, by rcases hk with h | h; exact Or.inl h; exact Or.inr h.2, by simp [ri_nn], rfl, rfl, hr, Or.inl rfl⟩
theorem ct_369 {a0 a1 : Jvm.Term} (hi : ra_inst i = some (1, idx)) (hc : ri_cp (g_Gs n f) M idx = some (kd, 369, 2, tx)) (hk : kd = 21 ∨ (kd = 31 ∧ (ri_hh g_m_L_compact).isEmpty = true)) (hr : rest.length ≤ 4) : ra_ct (g_Gs n f) g_sh M i (a1 :: a0 :: rest) [a0, a1] rest 369 :=
  ⟨1, idx, kd, 2, tx, g_m_L_compact, hi, hc, by rcases hk with h | h <;> omega, mt_369, by rcases hk with h | h; exact Or.inl h; exact Or.inr h.2, by simp [ri_nn], rfl, rfl, hr, Or.inl rfl⟩
theorem ct_370 {a0 a1 a2 : Jvm.Term} (hi : ra_inst i = some (1, idx)) (hc : ri_cp (g_Gs n f) M idx = some (kd, 370, 3, tx)) (hk : kd = 21 ∨ (kd = 31 ∧ (ri_hh g_m_L_cheapestMove).isEmpty = true)) (hr : rest.length ≤ 4) : ra_ct (g_Gs n f) g_sh M i (a2 :: a1 :: a0 :: rest) [a0, a1, a2] rest 370 :=
  ⟨1, idx, kd, 3, tx, g_m_L_cheapestMove, hi, hc, by rcases hk with h | h <;> omega, mt_370, by rcases hk with h | h; exact Or.inl h; exact Or.inr h.2, by simp [ri_nn], rfl, rfl, hr, Or.inl rfl⟩
theorem ct_371 {a0 a1 a2 : Jvm.Term} (hi : ra_inst i = some (1, idx)) (hc : ri_cp (g_Gs n f) M idx = some (kd, 371, 3, tx)) (hk : kd = 21 ∨ (kd = 31 ∧ (ri_hh g_m_L_ofKind).isEmpty = true)) (hr : rest.length ≤ 4) : ra_ct (g_Gs n f) g_sh M i (a2 :: a1 :: a0 :: rest) [a0, a1, a2] rest 371 :=
  ⟨1, idx, kd, 3, tx, g_m_L_ofKind, hi, hc, by rcases hk with h | h <;> omega, mt_371, by rcases hk with h | h; exact Or.inl h; exact Or.inr h.2, by simp [ri_nn], rfl, rfl, hr, Or.inl rfl⟩
theorem ct_372 {a0 a1 a2 : Jvm.Term} (hi : ra_inst i = some (1, idx)) (hc : ri_cp (g_Gs n f) M idx = some (kd, 372, 3, tx)) (hk : kd = 21 ∨ (kd = 31 ∧ (ri_hh g_m_L_blocksAt).isEmpty = true)) (hr : rest.length ≤ 4) : ra_ct (g_Gs n f) g_sh M i (a2 :: a1 :: a0 :: rest) [a0, a1, a2] rest 372 :=
  ⟨1, idx, kd, 3, tx, g_m_L_blocksAt, hi, hc, by rcases hk with h | h <;> omega, mt_372, by rcases hk with h | h; exact Or.inl h; exact Or.inr h.2, by simp [ri_nn], rfl, rfl, hr, Or.inl rfl⟩
theorem ct_373 {a0 a1 a2 : Jvm.Term} (hi : ra_inst i = some (1, idx)) (hc : ri_cp (g_Gs n f) M idx = some (kd, 373, 3, tx)) (hk : kd = 21 ∨ (kd = 31 ∧ (ri_hh g_m_L_copies).isEmpty = true)) (hr : rest.length ≤ 4) : ra_ct (g_Gs n f) g_sh M i (a2 :: a1 :: a0 :: rest) [a0, a1, a2] rest 373 :=
  ⟨1, idx, kd, 3, tx, g_m_L_copies, hi, hc, by rcases hk with h | h <;> omega, mt_373, by rcases hk with h | h; exact Or.inl h; exact Or.inr h.2, by simp [ri_nn], rfl, rfl, hr, Or.inl rfl⟩
theorem ct_374 {a0 a1 a2 a3 : Jvm.Term} (hi : ra_inst i = some (1, idx)) (hc : ri_cp (g_Gs n f) M idx = some (kd, 374, 4, tx)) (hk : kd = 21 ∨ (kd = 31 ∧ (ri_hh g_m_L_split).isEmpty = true)) (hr : rest.length ≤ 4) : ra_ct (g_Gs n f) g_sh M i (a3 :: a2 :: a1 :: a0 :: rest) [a0, a1, a2, a3] rest 374 :=
  ⟨1, idx, kd, 4, tx, g_m_L_split, hi, hc, by rcases hk with h | h <;> omega, mt_374, by rcases hk with h | h; exact Or.inl h; exact Or.inr h.2, by simp [ri_nn], rfl, rfl, hr, Or.inl rfl⟩
theorem ct_375 {a0 a1 a2 : Jvm.Term} (hi : ra_inst i = some (1, idx)) (hc : ri_cp (g_Gs n f) M idx = some (kd, 375, 3, tx)) (hk : kd = 21 ∨ (kd = 31 ∧ (ri_hh g_m_L_join).isEmpty = true)) (hr : rest.length ≤ 4) : ra_ct (g_Gs n f) g_sh M i (a2 :: a1 :: a0 :: rest) [a0, a1, a2] rest 375 :=
  ⟨1, idx, kd, 3, tx, g_m_L_join, hi, hc, by rcases hk with h | h <;> omega, mt_375, by rcases hk with h | h; exact Or.inl h; exact Or.inr h.2, by simp [ri_nn], rfl, rfl, hr, Or.inl rfl⟩
theorem ct_376 {a0 a1 a2 : Jvm.Term} (hi : ra_inst i = some (1, idx)) (hc : ri_cp (g_Gs n f) M idx = some (kd, 376, 3, tx)) (hk : kd = 21 ∨ (kd = 31 ∧ (ri_hh g_m_L_roundUp).isEmpty = true)) (hr : rest.length ≤ 4) : ra_ct (g_Gs n f) g_sh M i (a2 :: a1 :: a0 :: rest) [a0, a1, a2] rest 376 :=
  ⟨1, idx, kd, 3, tx, g_m_L_roundUp, hi, hc, by rcases hk with h | h <;> omega, mt_376, by rcases hk with h | h; exact Or.inl h; exact Or.inr h.2, by simp [ri_nn], rfl, rfl, hr, Or.inl rfl⟩
theorem ct_377 {a0 a1 a2 a3 : Jvm.Term} (hi : ra_inst i = some (1, idx)) (hc : ri_cp (g_Gs n f) M idx = some (kd, 377, 4, tx)) (hk : kd = 21 ∨ (kd = 31 ∧ (ri_hh g_m_L_bestChunk).isEmpty = true)) (hr : rest.length ≤ 4) : ra_ct (g_Gs n f) g_sh M i (a3 :: a2 :: a1 :: a0 :: rest) [a0, a1, a2, a3] rest 377 :=
  ⟨1, idx, kd, 4, tx, g_m_L_bestChunk, hi, hc, by rcases hk with h | h <;> omega, mt_377, by rcases hk with h | h; exact Or.inl h; exact Or.inr h.2, by simp [ri_nn], rfl, rfl, hr, Or.inl rfl⟩
theorem ct_378 {a0 a1 a2 : Jvm.Term} (hi : ra_inst i = some (1, idx)) (hc : ri_cp (g_Gs n f) M idx = some (kd, 378, 3, tx)) (hk : kd = 21 ∨ (kd = 31 ∧ (ri_hh g_m_L_rightmost).isEmpty = true)) (hr : rest.length ≤ 4) : ra_ct (g_Gs n f) g_sh M i (a2 :: a1 :: a0 :: rest) [a0, a1, a2] rest 378 :=
  ⟨1, idx, kd, 3, tx, g_m_L_rightmost, hi, hc, by rcases hk with h | h <;> omega, mt_378, by rcases hk with h | h; exact Or.inl h; exact Or.inr h.2, by simp [ri_nn], rfl, rfl, hr, Or.inl rfl⟩
theorem ct_379 {a0 a1 a2 : Jvm.Term} (hi : ra_inst i = some (1, idx)) (hc : ri_cp (g_Gs n f) M idx = some (kd, 379, 3, tx)) (hk : kd = 21 ∨ (kd = 31 ∧ (ri_hh g_m_L_behind).isEmpty = true)) (hr : rest.length ≤ 4) : ra_ct (g_Gs n f) g_sh M i (a2 :: a1 :: a0 :: rest) [a0, a1, a2] rest 379 :=
  ⟨1, idx, kd, 3, tx, g_m_L_behind, hi, hc, by rcases hk with h | h <;> omega, mt_379, by rcases hk with h | h; exact Or.inl h; exact Or.inr h.2, by simp [ri_nn], rfl, rfl, hr, Or.inl rfl⟩
theorem ct_380 {a0 a1 a2 : Jvm.Term} (hi : ra_inst i = some (1, idx)) (hc : ri_cp (g_Gs n f) M idx = some (kd, 380, 3, tx)) (hk : kd = 21 ∨ (kd = 31 ∧ (ri_hh g_m_L_gapAt).isEmpty = true)) (hr : rest.length ≤ 4) : ra_ct (g_Gs n f) g_sh M i (a2 :: a1 :: a0 :: rest) [a0, a1, a2] rest 380 :=
  ⟨1, idx, kd, 3, tx, g_m_L_gapAt, hi, hc, by rcases hk with h | h <;> omega, mt_380, by rcases hk with h | h; exact Or.inl h; exact Or.inr h.2, by simp [ri_nn], rfl, rfl, hr, Or.inl rfl⟩
theorem ct_381 {a0 a1 a2 : Jvm.Term} (hi : ra_inst i = some (1, idx)) (hc : ri_cp (g_Gs n f) M idx = some (kd, 381, 3, tx)) (hk : kd = 21 ∨ (kd = 31 ∧ (ri_hh g_m_L_nextStep).isEmpty = true)) (hr : rest.length ≤ 4) : ra_ct (g_Gs n f) g_sh M i (a2 :: a1 :: a0 :: rest) [a0, a1, a2] rest 381 :=
  ⟨1, idx, kd, 3, tx, g_m_L_nextStep, hi, hc, by rcases hk with h | h <;> omega, mt_381, by rcases hk with h | h; exact Or.inl h; exact Or.inr h.2, by simp [ri_nn], rfl, rfl, hr, Or.inl rfl⟩
theorem ct_382 {a0 a1 : Jvm.Term} (hi : ra_inst i = some (1, idx)) (hc : ri_cp (g_Gs n f) M idx = some (kd, 382, 2, tx)) (hk : kd = 21 ∨ (kd = 31 ∧ (ri_hh g_m_L_restoreState).isEmpty = true)) (hr : rest.length ≤ 4) : ra_ct (g_Gs n f) g_sh M i (a1 :: a0 :: rest) [a0, a1] rest 382 :=
  ⟨1, idx, kd, 2, tx, g_m_L_restoreState, hi, hc, by rcases hk with h | h <;> omega, mt_382, by rcases hk with h | h; exact Or.inl h; exact Or.inr h.2, by simp [ri_nn], rfl, rfl, hr, Or.inl rfl⟩
end CT
