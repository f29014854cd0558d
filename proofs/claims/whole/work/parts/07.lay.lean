/-! ===== the layout's facts ===== -/
theorem io_0 : isO 0 5 := ⟨_, rfl⟩
theorem ir_0_0 : isR 0 5 0 1 := ⟨_, rfl, rfl⟩
theorem ir_0_1 : isR 0 5 1 2 := ⟨_, rfl, rfl⟩
theorem ir_0_2 : isR 0 5 2 3 := ⟨_, rfl, rfl⟩
theorem ir_0_3 : isR 0 5 3 4 := ⟨_, rfl, rfl⟩
theorem ir_0_4 : isR 0 5 4 5 := ⟨_, rfl, rfl⟩
theorem ir_0_5 : isR 0 5 5 6 := ⟨_, rfl, rfl⟩
theorem ir_0_6 : isR 0 5 6 7 := ⟨_, rfl, rfl⟩
theorem ir_0_7 : isR 0 5 7 8 := ⟨_, rfl, rfl⟩
theorem ir_0_8 : isR 0 5 8 9 := ⟨_, rfl, rfl⟩
theorem ii_0_9 : isI 0 5 9 := ⟨_, rfl, rfl⟩
theorem ii_0_10 : isI 0 5 10 := ⟨_, rfl, rfl⟩
theorem io_1 : isO 1 3 := ⟨_, rfl⟩
theorem ir_1_0 : isR 1 3 0 14 := ⟨_, rfl, rfl⟩
theorem ir_1_1 : isR 1 3 1 15 := ⟨_, rfl, rfl⟩
theorem ir_1_2 : isR 1 3 2 16 := ⟨_, rfl, rfl⟩
theorem ir_1_3 : isR 1 3 3 17 := ⟨_, rfl, rfl⟩
theorem ii_1_4 : isI 1 3 4 := ⟨_, rfl, rfl⟩
theorem ii_1_5 : isI 1 3 5 := ⟨_, rfl, rfl⟩
theorem ii_1_6 : isI 1 3 6 := ⟨_, rfl, rfl⟩
theorem io_2 : isO 2 4 := ⟨_, rfl⟩
theorem ir_2_0 : isR 2 4 0 18 := ⟨_, rfl, rfl⟩
theorem ir_2_1 : isR 2 4 1 19 := ⟨_, rfl, rfl⟩
theorem ir_2_2 : isR 2 4 2 20 := ⟨_, rfl, rfl⟩
theorem ii_2_3 : isI 2 4 3 := ⟨_, rfl, rfl⟩
theorem io_3 : isO 3 4 := ⟨_, rfl⟩
theorem ir_3_0 : isR 3 4 0 21 := ⟨_, rfl, rfl⟩
theorem ir_3_1 : isR 3 4 1 22 := ⟨_, rfl, rfl⟩
theorem ir_3_2 : isR 3 4 2 23 := ⟨_, rfl, rfl⟩
theorem ii_3_3 : isI 3 4 3 := ⟨_, rfl, rfl⟩
theorem io_4 : isO 4 1 := ⟨_, rfl⟩
theorem ir_4_0 : isR 4 1 0 24 := ⟨_, rfl, rfl⟩
theorem ir_4_1 : isR 4 1 1 25 := ⟨_, rfl, rfl⟩
theorem ir_4_2 : isR 4 1 2 26 := ⟨_, rfl, rfl⟩
theorem ir_4_3 : isR 4 1 3 27 := ⟨_, rfl, rfl⟩
theorem ir_4_4 : isR 4 1 4 28 := ⟨_, rfl, rfl⟩
theorem ir_4_5 : isR 4 1 5 29 := ⟨_, rfl, rfl⟩
theorem ir_4_6 : isR 4 1 6 30 := ⟨_, rfl, rfl⟩
theorem ir_4_7 : isR 4 1 7 31 := ⟨_, rfl, rfl⟩
theorem ii_4_8 : isI 4 1 8 := ⟨_, rfl, rfl⟩
theorem ii_4_9 : isI 4 1 9 := ⟨_, rfl, rfl⟩
theorem ii_4_10 : isI 4 1 10 := ⟨_, rfl, rfl⟩
theorem ii_4_11 : isI 4 1 11 := ⟨_, rfl, rfl⟩
theorem ii_4_12 : isI 4 1 12 := ⟨_, rfl, rfl⟩
theorem ii_4_13 : isI 4 1 13 := ⟨_, rfl, rfl⟩
theorem ii_4_14 : isI 4 1 14 := ⟨_, rfl, rfl⟩
theorem io_5 : isO 5 1 := ⟨_, rfl⟩
theorem ir_5_0 : isR 5 1 0 32 := ⟨_, rfl, rfl⟩
theorem ir_5_1 : isR 5 1 1 33 := ⟨_, rfl, rfl⟩
theorem ir_5_2 : isR 5 1 2 34 := ⟨_, rfl, rfl⟩
theorem ir_5_3 : isR 5 1 3 35 := ⟨_, rfl, rfl⟩
theorem ir_5_4 : isR 5 1 4 36 := ⟨_, rfl, rfl⟩
theorem ir_5_5 : isR 5 1 5 37 := ⟨_, rfl, rfl⟩
theorem ir_5_6 : isR 5 1 6 38 := ⟨_, rfl, rfl⟩
theorem ir_5_7 : isR 5 1 7 39 := ⟨_, rfl, rfl⟩
theorem ii_5_8 : isI 5 1 8 := ⟨_, rfl, rfl⟩
theorem ii_5_9 : isI 5 1 9 := ⟨_, rfl, rfl⟩
theorem ii_5_10 : isI 5 1 10 := ⟨_, rfl, rfl⟩
theorem ii_5_11 : isI 5 1 11 := ⟨_, rfl, rfl⟩
theorem ii_5_12 : isI 5 1 12 := ⟨_, rfl, rfl⟩
theorem ii_5_13 : isI 5 1 13 := ⟨_, rfl, rfl⟩
theorem ii_5_14 : isI 5 1 14 := ⟨_, rfl, rfl⟩
theorem io_6 : isO 6 0 := ⟨_, rfl⟩
theorem ii_6_0 : isI 6 0 0 := ⟨_, rfl, rfl⟩
theorem ii_6_1 : isI 6 0 1 := ⟨_, rfl, rfl⟩
theorem ia_8 : isA 8 160 := rfl
theorem ia_9 : isA 9 256 := rfl
theorem io_10 : isO 10 2 := ⟨_, rfl⟩
theorem ir_10_0 : isR 10 2 0 40 := ⟨_, rfl, rfl⟩
theorem ii_10_1 : isI 10 2 1 := ⟨_, rfl, rfl⟩
theorem ii_10_2 : isI 10 2 2 := ⟨_, rfl, rfl⟩
theorem io_11 : isO 11 2 := ⟨_, rfl⟩
theorem ir_11_0 : isR 11 2 0 41 := ⟨_, rfl, rfl⟩
theorem ii_11_1 : isI 11 2 1 := ⟨_, rfl, rfl⟩
theorem ii_11_2 : isI 11 2 2 := ⟨_, rfl, rfl⟩
theorem io_12 : isO 12 2 := ⟨_, rfl⟩
theorem ir_12_0 : isR 12 2 0 42 := ⟨_, rfl, rfl⟩
theorem ii_12_1 : isI 12 2 1 := ⟨_, rfl, rfl⟩
theorem ii_12_2 : isI 12 2 2 := ⟨_, rfl, rfl⟩
theorem io_13 : isO 13 2 := ⟨_, rfl⟩
theorem ir_13_0 : isR 13 2 0 43 := ⟨_, rfl, rfl⟩
theorem ii_13_1 : isI 13 2 1 := ⟨_, rfl, rfl⟩
theorem ii_13_2 : isI 13 2 2 := ⟨_, rfl, rfl⟩
theorem ia_14 : isA 14 31 := rfl
theorem ia_15 : isA 15 8 := rfl
theorem ia_16 : isA 16 8 := rfl
theorem ia_17 : isA 17 8 := rfl
theorem ia_18 : isA 18 8 := rfl
theorem ia_19 : isA 19 8 := rfl
theorem ia_20 : isA 20 8 := rfl
theorem ia_21 : isA 21 8 := rfl
theorem ia_22 : isA 22 8 := rfl
theorem ia_23 : isA 23 8 := rfl
theorem ia_24 : isA 24 8 := rfl
theorem ia_25 : isA 25 8 := rfl
theorem ia_26 : isA 26 8 := rfl
theorem ia_27 : isA 27 16 := rfl
theorem ia_28 : isA 28 8 := rfl
theorem ia_29 : isA 29 8 := rfl
theorem ia_30 : isA 30 12 := rfl
theorem ia_31 : isA 31 128 := rfl
theorem ia_32 : isA 32 8 := rfl
theorem ia_33 : isA 33 8 := rfl
theorem ia_34 : isA 34 8 := rfl
theorem ia_35 : isA 35 16 := rfl
theorem ia_36 : isA 36 8 := rfl
theorem ia_37 : isA 37 8 := rfl
theorem ia_38 : isA 38 12 := rfl
theorem ia_39 : isA 39 128 := rfl
theorem ia_40 : isA 40 60 := rfl
theorem ia_41 : isA 41 60 := rfl
theorem ia_42 : isA 42 60 := rfl
theorem ia_43 : isA 43 60 := rfl
theorem io_44 : isO 44 6 := ⟨_, rfl⟩
theorem ir_44_0 : isR 44 6 0 45 := ⟨_, rfl, rfl⟩
theorem ir_44_1 : isR 44 6 1 46 := ⟨_, rfl, rfl⟩
theorem ir_44_2 : isR 44 6 2 47 := ⟨_, rfl, rfl⟩
theorem ir_44_3 : isR 44 6 3 48 := ⟨_, rfl, rfl⟩
theorem ii_44_4 : isI 44 6 4 := ⟨_, rfl, rfl⟩
theorem ir_44_5 : isR 44 6 5 49 := ⟨_, rfl, rfl⟩
theorem ii_44_6 : isI 44 6 6 := ⟨_, rfl, rfl⟩
theorem ii_44_7 : isI 44 6 7 := ⟨_, rfl, rfl⟩
theorem ir_44_8 : isR 44 6 8 50 := ⟨_, rfl, rfl⟩
theorem ii_44_9 : isI 44 6 9 := ⟨_, rfl, rfl⟩
theorem ir_44_10 : isR 44 6 10 51 := ⟨_, rfl, rfl⟩
theorem ii_44_11 : isI 44 6 11 := ⟨_, rfl, rfl⟩
theorem ii_44_12 : isI 44 6 12 := ⟨_, rfl, rfl⟩
theorem ii_44_13 : isI 44 6 13 := ⟨_, rfl, rfl⟩
theorem ii_44_14 : isI 44 6 14 := ⟨_, rfl, rfl⟩
theorem ir_44_15 : isR 44 6 15 52 := ⟨_, rfl, rfl⟩
theorem ir_44_16 : isR 44 6 16 53 := ⟨_, rfl, rfl⟩
theorem ir_44_17 : isR 44 6 17 54 := ⟨_, rfl, rfl⟩
theorem ir_44_18 : isR 44 6 18 55 := ⟨_, rfl, rfl⟩
theorem ir_44_19 : isR 44 6 19 56 := ⟨_, rfl, rfl⟩
theorem ir_44_20 : isR 44 6 20 57 := ⟨_, rfl, rfl⟩
theorem ir_44_21 : isR 44 6 21 58 := ⟨_, rfl, rfl⟩
theorem ir_44_22 : isR 44 6 22 59 := ⟨_, rfl, rfl⟩
theorem ii_44_23 : isI 44 6 23 := ⟨_, rfl, rfl⟩
theorem ii_44_24 : isI 44 6 24 := ⟨_, rfl, rfl⟩
theorem ii_44_25 : isI 44 6 25 := ⟨_, rfl, rfl⟩
theorem ii_44_26 : isI 44 6 26 := ⟨_, rfl, rfl⟩
theorem ii_44_27 : isI 44 6 27 := ⟨_, rfl, rfl⟩
theorem ii_44_28 : isI 44 6 28 := ⟨_, rfl, rfl⟩
theorem ir_44_29 : isR 44 6 29 60 := ⟨_, rfl, rfl⟩
theorem ir_44_30 : isR 44 6 30 61 := ⟨_, rfl, rfl⟩
theorem ii_44_31 : isI 44 6 31 := ⟨_, rfl, rfl⟩
theorem ir_44_32 : isR 44 6 32 62 := ⟨_, rfl, rfl⟩
theorem ia_45 : isA 45 4 := rfl
theorem ia_46 : isA 46 4 := rfl
theorem ia_47 : isA 47 240 := rfl
theorem ia_48 : isA 48 60 := rfl
theorem ia_49 : isA 49 32 := rfl
theorem ia_50 : isA 50 24 := rfl
theorem ia_51 : isA 51 24 := rfl
theorem ia_52 : isA 52 8 := rfl
theorem ia_53 : isA 53 8 := rfl
theorem ia_54 : isA 54 8 := rfl
theorem ia_55 : isA 55 8 := rfl
theorem ia_56 : isA 56 128 := rfl
theorem ia_57 : isA 57 128 := rfl
theorem ia_58 : isA 58 128 := rfl
theorem ia_59 : isA 59 128 := rfl
theorem ia_60 : isA 60 24 := rfl
theorem ia_61 : isA 61 128 := rfl
theorem ia_62 : isA 62 24 := rfl
theorem iO_C {t : Nat} (ht : t < 2) : isO (4 + t) 1 := by
  rcases (show t = 0 ∨ t = 1 by omega) with rfl | rfl
  · exact io_4
  · exact io_5
theorem iR_C0 {t : Nat} (ht : t < 2) : isR (4 + t) 1 0 (24 + 8 * t) := by
  rcases (show t = 0 ∨ t = 1 by omega) with rfl | rfl
  · exact ir_4_0
  · exact ir_5_0
theorem iA_C0 {t : Nat} (ht : t < 2) : isA (24 + 8 * t) 8 := by
  rcases (show t = 0 ∨ t = 1 by omega) with rfl | rfl
  · exact ia_24
  · exact ia_32
theorem iR_C1 {t : Nat} (ht : t < 2) : isR (4 + t) 1 1 (25 + 8 * t) := by
  rcases (show t = 0 ∨ t = 1 by omega) with rfl | rfl
  · exact ir_4_1
  · exact ir_5_1
theorem iA_C1 {t : Nat} (ht : t < 2) : isA (25 + 8 * t) 8 := by
  rcases (show t = 0 ∨ t = 1 by omega) with rfl | rfl
  · exact ia_25
  · exact ia_33
theorem iR_C2 {t : Nat} (ht : t < 2) : isR (4 + t) 1 2 (26 + 8 * t) := by
  rcases (show t = 0 ∨ t = 1 by omega) with rfl | rfl
  · exact ir_4_2
  · exact ir_5_2
theorem iA_C2 {t : Nat} (ht : t < 2) : isA (26 + 8 * t) 8 := by
  rcases (show t = 0 ∨ t = 1 by omega) with rfl | rfl
  · exact ia_26
  · exact ia_34
theorem iR_C3 {t : Nat} (ht : t < 2) : isR (4 + t) 1 3 (27 + 8 * t) := by
  rcases (show t = 0 ∨ t = 1 by omega) with rfl | rfl
  · exact ir_4_3
  · exact ir_5_3
theorem iA_C3 {t : Nat} (ht : t < 2) : isA (27 + 8 * t) 16 := by
  rcases (show t = 0 ∨ t = 1 by omega) with rfl | rfl
  · exact ia_27
  · exact ia_35
theorem iR_C4 {t : Nat} (ht : t < 2) : isR (4 + t) 1 4 (28 + 8 * t) := by
  rcases (show t = 0 ∨ t = 1 by omega) with rfl | rfl
  · exact ir_4_4
  · exact ir_5_4
theorem iA_C4 {t : Nat} (ht : t < 2) : isA (28 + 8 * t) 8 := by
  rcases (show t = 0 ∨ t = 1 by omega) with rfl | rfl
  · exact ia_28
  · exact ia_36
theorem iR_C5 {t : Nat} (ht : t < 2) : isR (4 + t) 1 5 (29 + 8 * t) := by
  rcases (show t = 0 ∨ t = 1 by omega) with rfl | rfl
  · exact ir_4_5
  · exact ir_5_5
theorem iA_C5 {t : Nat} (ht : t < 2) : isA (29 + 8 * t) 8 := by
  rcases (show t = 0 ∨ t = 1 by omega) with rfl | rfl
  · exact ia_29
  · exact ia_37
theorem iR_C6 {t : Nat} (ht : t < 2) : isR (4 + t) 1 6 (30 + 8 * t) := by
  rcases (show t = 0 ∨ t = 1 by omega) with rfl | rfl
  · exact ir_4_6
  · exact ir_5_6
theorem iA_C6 {t : Nat} (ht : t < 2) : isA (30 + 8 * t) 12 := by
  rcases (show t = 0 ∨ t = 1 by omega) with rfl | rfl
  · exact ia_30
  · exact ia_38
theorem iR_C7 {t : Nat} (ht : t < 2) : isR (4 + t) 1 7 (31 + 8 * t) := by
  rcases (show t = 0 ∨ t = 1 by omega) with rfl | rfl
  · exact ir_4_7
  · exact ir_5_7
theorem iA_C7 {t : Nat} (ht : t < 2) : isA (31 + 8 * t) 128 := by
  rcases (show t = 0 ∨ t = 1 by omega) with rfl | rfl
  · exact ia_31
  · exact ia_39
theorem iI_C8 {t : Nat} (ht : t < 2) : isI (4 + t) 1 8 := by
  rcases (show t = 0 ∨ t = 1 by omega) with rfl | rfl
  · exact ii_4_8
  · exact ii_5_8
theorem iI_C9 {t : Nat} (ht : t < 2) : isI (4 + t) 1 9 := by
  rcases (show t = 0 ∨ t = 1 by omega) with rfl | rfl
  · exact ii_4_9
  · exact ii_5_9
theorem iI_C10 {t : Nat} (ht : t < 2) : isI (4 + t) 1 10 := by
  rcases (show t = 0 ∨ t = 1 by omega) with rfl | rfl
  · exact ii_4_10
  · exact ii_5_10
theorem iI_C11 {t : Nat} (ht : t < 2) : isI (4 + t) 1 11 := by
  rcases (show t = 0 ∨ t = 1 by omega) with rfl | rfl
  · exact ii_4_11
  · exact ii_5_11
theorem iI_C12 {t : Nat} (ht : t < 2) : isI (4 + t) 1 12 := by
  rcases (show t = 0 ∨ t = 1 by omega) with rfl | rfl
  · exact ii_4_12
  · exact ii_5_12
theorem iI_C13 {t : Nat} (ht : t < 2) : isI (4 + t) 1 13 := by
  rcases (show t = 0 ∨ t = 1 by omega) with rfl | rfl
  · exact ii_4_13
  · exact ii_5_13
theorem iI_C14 {t : Nat} (ht : t < 2) : isI (4 + t) 1 14 := by
  rcases (show t = 0 ∨ t = 1 by omega) with rfl | rfl
  · exact ii_4_14
  · exact ii_5_14
theorem iO_T {t : Nat} (ht : t < 2) : isO (2 + t) 4 := by
  rcases (show t = 0 ∨ t = 1 by omega) with rfl | rfl
  · exact io_2
  · exact io_3
theorem iR_T0 {t : Nat} (ht : t < 2) : isR (2 + t) 4 0 (18 + 3 * t) := by
  rcases (show t = 0 ∨ t = 1 by omega) with rfl | rfl
  · exact ir_2_0
  · exact ir_3_0
theorem iA_T0 {t : Nat} (ht : t < 2) : isA (18 + 3 * t) 8 := by
  rcases (show t = 0 ∨ t = 1 by omega) with rfl | rfl
  · exact ia_18
  · exact ia_21
theorem iR_T1 {t : Nat} (ht : t < 2) : isR (2 + t) 4 1 (19 + 3 * t) := by
  rcases (show t = 0 ∨ t = 1 by omega) with rfl | rfl
  · exact ir_2_1
  · exact ir_3_1
theorem iA_T1 {t : Nat} (ht : t < 2) : isA (19 + 3 * t) 8 := by
  rcases (show t = 0 ∨ t = 1 by omega) with rfl | rfl
  · exact ia_19
  · exact ia_22
theorem iR_T2 {t : Nat} (ht : t < 2) : isR (2 + t) 4 2 (20 + 3 * t) := by
  rcases (show t = 0 ∨ t = 1 by omega) with rfl | rfl
  · exact ir_2_2
  · exact ir_3_2
theorem iA_T2 {t : Nat} (ht : t < 2) : isA (20 + 3 * t) 8 := by
  rcases (show t = 0 ∨ t = 1 by omega) with rfl | rfl
  · exact ia_20
  · exact ia_23
theorem iI_T3 {t : Nat} (ht : t < 2) : isI (2 + t) 4 3 := by
  rcases (show t = 0 ∨ t = 1 by omega) with rfl | rfl
  · exact ii_2_3
  · exact ii_3_3
theorem iO_W {s : Nat} (hs : s < 4) : isO (10 + s) 2 := by
  rcases (show s = 0 ∨ s = 1 ∨ s = 2 ∨ s = 3 by omega) with rfl | rfl | rfl | rfl
  · exact io_10
  · exact io_11
  · exact io_12
  · exact io_13
theorem iR_W0 {s : Nat} (hs : s < 4) : isR (10 + s) 2 0 (40 + s) := by
  rcases (show s = 0 ∨ s = 1 ∨ s = 2 ∨ s = 3 by omega) with rfl | rfl | rfl | rfl
  · exact ir_10_0
  · exact ir_11_0
  · exact ir_12_0
  · exact ir_13_0
theorem iI_W1 {s : Nat} (hs : s < 4) : isI (10 + s) 2 1 := by
  rcases (show s = 0 ∨ s = 1 ∨ s = 2 ∨ s = 3 by omega) with rfl | rfl | rfl | rfl
  · exact ii_10_1
  · exact ii_11_1
  · exact ii_12_1
  · exact ii_13_1
theorem iI_W2 {s : Nat} (hs : s < 4) : isI (10 + s) 2 2 := by
  rcases (show s = 0 ∨ s = 1 ∨ s = 2 ∨ s = 3 by omega) with rfl | rfl | rfl | rfl
  · exact ii_10_2
  · exact ii_11_2
  · exact ii_12_2
  · exact ii_13_2
theorem iA_W {s : Nat} (hs : s < 4) : isA (40 + s) 60 := by
  rcases (show s = 0 ∨ s = 1 ∨ s = 2 ∨ s = 3 by omega) with rfl | rfl | rfl | rfl
  · exact ia_40
  · exact ia_41
  · exact ia_42
  · exact ia_43
theorem row_at {s : Nat} {i : Int} (hi : i = (s : Int)) (hs : s < 4) : ([10, 11, 12, 13] : List Nat)[i.toNat]? = some (10 + s) := by
  subst hi
  rw [Int.toNat_natCast]
  rcases (show s = 0 ∨ s = 1 ∨ s = 2 ∨ s = 3 by omega) with rfl | rfl | rfl | rfl <;> rfl
theorem NW.a (s : State) (h : NW s) : va_Nw (.methodLinkNest RX3 35 yX5_hasBit "PartingMap") s := h.1
theorem NW.b (s : State) (h : NW s) : va_Nw (.methodLinkNest RX1 63 yX5_hasBit "PartingMap") s := h.2.1
theorem NW.c (s : State) (h : NW s) : va_Nw (.methodLinkNest RX2 22 yX5_isBelow "PartingMap") s := h.2.2
theorem sw0_2 {x : Int} : x = 0 ∨ x = 1 ∨ x = 2 ∨ (x < 0 ∨ 2 < x) := by omega
theorem sw0_3 {x : Int} : x = 0 ∨ x = 1 ∨ x = 2 ∨ x = 3 ∨ (x < 0 ∨ 3 < x) := by omega
theorem sw0_8 {x : Int} : x = 0 ∨ x = 1 ∨ x = 2 ∨ x = 3 ∨ x = 4 ∨ x = 5 ∨ x = 6 ∨ x = 7 ∨ x = 8 ∨ (x < 0 ∨ 8 < x) := by omega
theorem sw0_34 {x : Int} : x = 0 ∨ x = 1 ∨ x = 2 ∨ x = 3 ∨ x = 4 ∨ x = 5 ∨ x = 6 ∨ x = 7 ∨ x = 8 ∨ x = 9 ∨ x = 10 ∨ x = 11 ∨ x = 12 ∨ x = 13 ∨ x = 14 ∨ x = 15 ∨ x = 16 ∨ x = 17 ∨ x = 18 ∨ x = 19 ∨ x = 20 ∨ x = 21 ∨ x = 22 ∨ x = 23 ∨ x = 24 ∨ x = 25 ∨ x = 26 ∨ x = 27 ∨ x = 28 ∨ x = 29 ∨ x = 30 ∨ x = 31 ∨ x = 32 ∨ x = 33 ∨ x = 34 ∨ (x < 0 ∨ 34 < x) := by omega
