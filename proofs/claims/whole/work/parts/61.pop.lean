theorem bc_0 : bcAll 0 1024 = true := by decide +kernel
theorem bc_1 : bcAll 1024 1024 = true := by decide +kernel
theorem bc_2 : bcAll 2048 1024 = true := by decide +kernel
theorem bc_3 : bcAll 3072 1024 = true := by decide +kernel
theorem bc_4 : bcAll 4096 1024 = true := by decide +kernel
theorem bc_5 : bcAll 5120 1024 = true := by decide +kernel
theorem bc_6 : bcAll 6144 1024 = true := by decide +kernel
theorem bc_7 : bcAll 7168 1024 = true := by decide +kernel
theorem bc_8 : bcAll 8192 1024 = true := by decide +kernel
theorem bc_9 : bcAll 9216 1024 = true := by decide +kernel
theorem bc_10 : bcAll 10240 1024 = true := by decide +kernel
theorem bc_11 : bcAll 11264 1024 = true := by decide +kernel
theorem bc_12 : bcAll 12288 1024 = true := by decide +kernel
theorem bc_13 : bcAll 13312 1024 = true := by decide +kernel
theorem bc_14 : bcAll 14336 1024 = true := by decide +kernel
theorem bc_15 : bcAll 15360 1024 = true := by decide +kernel
theorem bc_16 : bcAll 16384 1024 = true := by decide +kernel
theorem bc_17 : bcAll 17408 1024 = true := by decide +kernel
theorem bc_18 : bcAll 18432 1024 = true := by decide +kernel
theorem bc_19 : bcAll 19456 1024 = true := by decide +kernel
theorem bc_20 : bcAll 20480 1024 = true := by decide +kernel
theorem bc_21 : bcAll 21504 1024 = true := by decide +kernel
theorem bc_22 : bcAll 22528 1024 = true := by decide +kernel
theorem bc_23 : bcAll 23552 1024 = true := by decide +kernel
theorem bc_24 : bcAll 24576 1024 = true := by decide +kernel
theorem bc_25 : bcAll 25600 1024 = true := by decide +kernel
theorem bc_26 : bcAll 26624 1024 = true := by decide +kernel
theorem bc_27 : bcAll 27648 1024 = true := by decide +kernel
theorem bc_28 : bcAll 28672 1024 = true := by decide +kernel
theorem bc_29 : bcAll 29696 1024 = true := by decide +kernel
theorem bc_30 : bcAll 30720 1024 = true := by decide +kernel
theorem bc_31 : bcAll 31744 1024 = true := by decide +kernel
theorem bc_32 : bcAll 32768 1024 = true := by decide +kernel
theorem bc_33 : bcAll 33792 1024 = true := by decide +kernel
theorem bc_34 : bcAll 34816 1024 = true := by decide +kernel
theorem bc_35 : bcAll 35840 1024 = true := by decide +kernel
theorem bc_36 : bcAll 36864 1024 = true := by decide +kernel
theorem bc_37 : bcAll 37888 1024 = true := by decide +kernel
theorem bc_38 : bcAll 38912 1024 = true := by decide +kernel
theorem bc_39 : bcAll 39936 1024 = true := by decide +kernel
theorem bc_40 : bcAll 40960 1024 = true := by decide +kernel
theorem bc_41 : bcAll 41984 1024 = true := by decide +kernel
theorem bc_42 : bcAll 43008 1024 = true := by decide +kernel
theorem bc_43 : bcAll 44032 1024 = true := by decide +kernel
theorem bc_44 : bcAll 45056 1024 = true := by decide +kernel
theorem bc_45 : bcAll 46080 1024 = true := by decide +kernel
theorem bc_46 : bcAll 47104 1024 = true := by decide +kernel
theorem bc_47 : bcAll 48128 1024 = true := by decide +kernel
theorem bc_48 : bcAll 49152 1024 = true := by decide +kernel
theorem bc_49 : bcAll 50176 1024 = true := by decide +kernel
theorem bc_50 : bcAll 51200 1024 = true := by decide +kernel
theorem bc_51 : bcAll 52224 1024 = true := by decide +kernel
theorem bc_52 : bcAll 53248 1024 = true := by decide +kernel
theorem bc_53 : bcAll 54272 1024 = true := by decide +kernel
theorem bc_54 : bcAll 55296 1024 = true := by decide +kernel
theorem bc_55 : bcAll 56320 1024 = true := by decide +kernel
theorem bc_56 : bcAll 57344 1024 = true := by decide +kernel
theorem bc_57 : bcAll 58368 1024 = true := by decide +kernel
theorem bc_58 : bcAll 59392 1024 = true := by decide +kernel
theorem bc_59 : bcAll 60416 1024 = true := by decide +kernel
theorem bc_60 : bcAll 61440 1024 = true := by decide +kernel
theorem bc_61 : bcAll 62464 1024 = true := by decide +kernel
theorem bc_62 : bcAll 63488 1024 = true := by decide +kernel
theorem bc_63 : bcAll 64512 1024 = true := by decide +kernel
theorem bc_ok {i : Nat} (h : i < 65536) : bcOK i = true := by
  rcases Nat.lt_or_ge i 32768 with g | g
  · rcases Nat.lt_or_ge i 16384 with g | g
    · rcases Nat.lt_or_ge i 8192 with g | g
      · rcases Nat.lt_or_ge i 4096 with g | g
        · rcases Nat.lt_or_ge i 2048 with g | g
          · rcases Nat.lt_or_ge i 1024 with g | g
            · exact bcAll_at bc_0 (by omega) (by omega)
            · exact bcAll_at bc_1 (by omega) (by omega)
          · rcases Nat.lt_or_ge i 3072 with g | g
            · exact bcAll_at bc_2 (by omega) (by omega)
            · exact bcAll_at bc_3 (by omega) (by omega)
        · rcases Nat.lt_or_ge i 6144 with g | g
          · rcases Nat.lt_or_ge i 5120 with g | g
            · exact bcAll_at bc_4 (by omega) (by omega)
            · exact bcAll_at bc_5 (by omega) (by omega)
          · rcases Nat.lt_or_ge i 7168 with g | g
            · exact bcAll_at bc_6 (by omega) (by omega)
            · exact bcAll_at bc_7 (by omega) (by omega)
      · rcases Nat.lt_or_ge i 12288 with g | g
        · rcases Nat.lt_or_ge i 10240 with g | g
          · rcases Nat.lt_or_ge i 9216 with g | g
            · exact bcAll_at bc_8 (by omega) (by omega)
            · exact bcAll_at bc_9 (by omega) (by omega)
          · rcases Nat.lt_or_ge i 11264 with g | g
            · exact bcAll_at bc_10 (by omega) (by omega)
            · exact bcAll_at bc_11 (by omega) (by omega)
        · rcases Nat.lt_or_ge i 14336 with g | g
          · rcases Nat.lt_or_ge i 13312 with g | g
            · exact bcAll_at bc_12 (by omega) (by omega)
            · exact bcAll_at bc_13 (by omega) (by omega)
          · rcases Nat.lt_or_ge i 15360 with g | g
            · exact bcAll_at bc_14 (by omega) (by omega)
            · exact bcAll_at bc_15 (by omega) (by omega)
    · rcases Nat.lt_or_ge i 24576 with g | g
      · rcases Nat.lt_or_ge i 20480 with g | g
        · rcases Nat.lt_or_ge i 18432 with g | g
          · rcases Nat.lt_or_ge i 17408 with g | g
            · exact bcAll_at bc_16 (by omega) (by omega)
            · exact bcAll_at bc_17 (by omega) (by omega)
          · rcases Nat.lt_or_ge i 19456 with g | g
            · exact bcAll_at bc_18 (by omega) (by omega)
            · exact bcAll_at bc_19 (by omega) (by omega)
        · rcases Nat.lt_or_ge i 22528 with g | g
          · rcases Nat.lt_or_ge i 21504 with g | g
            · exact bcAll_at bc_20 (by omega) (by omega)
            · exact bcAll_at bc_21 (by omega) (by omega)
          · rcases Nat.lt_or_ge i 23552 with g | g
            · exact bcAll_at bc_22 (by omega) (by omega)
            · exact bcAll_at bc_23 (by omega) (by omega)
      · rcases Nat.lt_or_ge i 28672 with g | g
        · rcases Nat.lt_or_ge i 26624 with g | g
          · rcases Nat.lt_or_ge i 25600 with g | g
            · exact bcAll_at bc_24 (by omega) (by omega)
            · exact bcAll_at bc_25 (by omega) (by omega)
          · rcases Nat.lt_or_ge i 27648 with g | g
            · exact bcAll_at bc_26 (by omega) (by omega)
            · exact bcAll_at bc_27 (by omega) (by omega)
        · rcases Nat.lt_or_ge i 30720 with g | g
          · rcases Nat.lt_or_ge i 29696 with g | g
            · exact bcAll_at bc_28 (by omega) (by omega)
            · exact bcAll_at bc_29 (by omega) (by omega)
          · rcases Nat.lt_or_ge i 31744 with g | g
            · exact bcAll_at bc_30 (by omega) (by omega)
            · exact bcAll_at bc_31 (by omega) (by omega)
  · rcases Nat.lt_or_ge i 49152 with g | g
    · rcases Nat.lt_or_ge i 40960 with g | g
      · rcases Nat.lt_or_ge i 36864 with g | g
        · rcases Nat.lt_or_ge i 34816 with g | g
          · rcases Nat.lt_or_ge i 33792 with g | g
            · exact bcAll_at bc_32 (by omega) (by omega)
            · exact bcAll_at bc_33 (by omega) (by omega)
          · rcases Nat.lt_or_ge i 35840 with g | g
            · exact bcAll_at bc_34 (by omega) (by omega)
            · exact bcAll_at bc_35 (by omega) (by omega)
        · rcases Nat.lt_or_ge i 38912 with g | g
          · rcases Nat.lt_or_ge i 37888 with g | g
            · exact bcAll_at bc_36 (by omega) (by omega)
            · exact bcAll_at bc_37 (by omega) (by omega)
          · rcases Nat.lt_or_ge i 39936 with g | g
            · exact bcAll_at bc_38 (by omega) (by omega)
            · exact bcAll_at bc_39 (by omega) (by omega)
      · rcases Nat.lt_or_ge i 45056 with g | g
        · rcases Nat.lt_or_ge i 43008 with g | g
          · rcases Nat.lt_or_ge i 41984 with g | g
            · exact bcAll_at bc_40 (by omega) (by omega)
            · exact bcAll_at bc_41 (by omega) (by omega)
          · rcases Nat.lt_or_ge i 44032 with g | g
            · exact bcAll_at bc_42 (by omega) (by omega)
            · exact bcAll_at bc_43 (by omega) (by omega)
        · rcases Nat.lt_or_ge i 47104 with g | g
          · rcases Nat.lt_or_ge i 46080 with g | g
            · exact bcAll_at bc_44 (by omega) (by omega)
            · exact bcAll_at bc_45 (by omega) (by omega)
          · rcases Nat.lt_or_ge i 48128 with g | g
            · exact bcAll_at bc_46 (by omega) (by omega)
            · exact bcAll_at bc_47 (by omega) (by omega)
    · rcases Nat.lt_or_ge i 57344 with g | g
      · rcases Nat.lt_or_ge i 53248 with g | g
        · rcases Nat.lt_or_ge i 51200 with g | g
          · rcases Nat.lt_or_ge i 50176 with g | g
            · exact bcAll_at bc_48 (by omega) (by omega)
            · exact bcAll_at bc_49 (by omega) (by omega)
          · rcases Nat.lt_or_ge i 52224 with g | g
            · exact bcAll_at bc_50 (by omega) (by omega)
            · exact bcAll_at bc_51 (by omega) (by omega)
        · rcases Nat.lt_or_ge i 55296 with g | g
          · rcases Nat.lt_or_ge i 54272 with g | g
            · exact bcAll_at bc_52 (by omega) (by omega)
            · exact bcAll_at bc_53 (by omega) (by omega)
          · rcases Nat.lt_or_ge i 56320 with g | g
            · exact bcAll_at bc_54 (by omega) (by omega)
            · exact bcAll_at bc_55 (by omega) (by omega)
      · rcases Nat.lt_or_ge i 61440 with g | g
        · rcases Nat.lt_or_ge i 59392 with g | g
          · rcases Nat.lt_or_ge i 58368 with g | g
            · exact bcAll_at bc_56 (by omega) (by omega)
            · exact bcAll_at bc_57 (by omega) (by omega)
          · rcases Nat.lt_or_ge i 60416 with g | g
            · exact bcAll_at bc_58 (by omega) (by omega)
            · exact bcAll_at bc_59 (by omega) (by omega)
        · rcases Nat.lt_or_ge i 63488 with g | g
          · rcases Nat.lt_or_ge i 62464 with g | g
            · exact bcAll_at bc_60 (by omega) (by omega)
            · exact bcAll_at bc_61 (by omega) (by omega)
          · rcases Nat.lt_or_ge i 64512 with g | g
            · exact bcAll_at bc_62 (by omega) (by omega)
            · exact bcAll_at bc_63 (by omega) (by omega)
theorem c_bitCount {d b : Nat} {h : AH} (hd : 9 ≤ d) (hb : b < 65536) : evC d 268 [.int (nI b)] h = some (.inl (some (.int (nI (cnt 16 (fun i => b.testBit i = true))))), h) := by
  have hk := bc_ok hb
  unfold bcOK at hk
  simp only [Bool.and_eq_true, Nat.ble_eq, Nat.beq_eq] at hk
  obtain ⟨g1, g2, g3, g4, g5, g6⟩ := hk
  rw [E_J6_bitCount_0f7a4 hd, ← pop_cnt, ← g6]
  have e1 : nI b - nI (b / 2 ^ 1 &&& 1431655765) = nI (bc1 b) := pk_sub g1
  have e2 : nI (bc1 b &&& 858993459) + nI (bc1 b / 2 ^ 2 &&& 858993459) = nI (bc2 (bc1 b)) := nI_add _ _
  have e3 : nI (bc2 (bc1 b) + bc2 (bc1 b) / 2 ^ 4) &&& nI 252645135 = nI (bc3 (bc2 (bc1 b))) := bi_and _ _
  have e4 : nI (bc3 (bc2 (bc1 b))) + nI (bc3 (bc2 (bc1 b)) / 2 ^ 8) = nI (bc4 (bc3 (bc2 (bc1 b)))) := nI_add _ _
  have e5 : nI (bc4 (bc3 (bc2 (bc1 b))) + bc4 (bc3 (bc2 (bc1 b))) / 2 ^ 16) &&& nI 63 = nI (bc5 (bc4 (bc3 (bc2 (bc1 b))))) := bi_and _ _
  simp (disch := first | assumption | (simp only [List.length_cons, List.length_nil] <;> omega) | omega) only [ev_sqb, t_J6_bitCount_0f7a4, x_iload_n0, y_iload_n0, x_iconst_1, y_iconst_1, x_iushr, y_iushr, x_ldc_w_i, y_ldc_w_i, x_iand, y_iand, x_isub, y_isub, x_istore_n0, y_istore_n0, x_iconst_2, y_iconst_2, x_iadd, y_iadd, x_iconst_4, y_iconst_4, x_bipush_8, y_bipush_8, x_bipush_16, y_bipush_16, x_bipush_63, y_bipush_63, y_iret, ev_bk, sq0, sq1, sq2, bk0, bk1, bk2, sq_if, bk_if, rt_if, cr_if, cr0, cr1, crE, rt1, rtE, va_rf_s, va_rf_n, ls_0, ls_1i, ls_1r, ls_1n, ls_1j, ls_1l, ls_2, ls_3, ls_4, ls_5, ls_6, ls_7, ls_8, ls_9, ls_10, ls_11, ls_12, bi_ushr, bi_and, e1, nI_add, e2]
  rw [nI_add] at e2 e4
  rw [bi_and] at e3 e5
  simp (disch := first | assumption | (simp only [List.length_cons, List.length_nil] <;> omega) | omega) only [bi_ushr, bi_and, nI_add, e1, e2, e3, e4, e5, rt1]
