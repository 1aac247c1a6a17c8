/-! ===== Integer's own ===== -/
section JDK1
variable {E : EnvT} {σ : Sg} {Q : Int32 → Sg → Prop}
theorem sp_J6_bitCount_0f7a4 {m : Nat} (hm : m < 128) (K : Q (bsum (nI m) 7) σ) : Mi E mJ6_bitCount_0f7a4 [.int (nI m)] σ Q := by
  refine Mw_of (L0 := [some (.int (nI m))]) pn_J6 rfl rfl (Nat.le_of_ble_eq_true rfl) ?_
  refine r_iload_n dJ6_bitCount_0f7a4_0 rfl ?_
  refine r_iload_n dJ6_bitCount_0f7a4_1 rfl ?_
  refine r_iconst (1) dJ6_bitCount_0f7a4_2 rfl ?_
  refine r_iushr dJ6_bitCount_0f7a4_3 ?_
  refine r_ldc_w kcJ6_265 dJ6_bitCount_0f7a4_4 ?_
  refine r_iand dJ6_bitCount_0f7a4_7 ?_
  refine r_isub dJ6_bitCount_0f7a4_8 ?_
  refine r_istore_n_0 dJ6_bitCount_0f7a4_9 ?_
  refine r_iload_n dJ6_bitCount_0f7a4_10 rfl ?_
  refine r_ldc_w kcJ6_266 dJ6_bitCount_0f7a4_11 ?_
  refine r_iand dJ6_bitCount_0f7a4_14 ?_
  refine r_iload_n dJ6_bitCount_0f7a4_15 rfl ?_
  refine r_iconst (2) dJ6_bitCount_0f7a4_16 rfl ?_
  refine r_iushr dJ6_bitCount_0f7a4_17 ?_
  refine r_ldc_w kcJ6_266 dJ6_bitCount_0f7a4_18 ?_
  refine r_iand dJ6_bitCount_0f7a4_21 ?_
  refine r_iadd dJ6_bitCount_0f7a4_22 ?_
  refine r_istore_n_0 dJ6_bitCount_0f7a4_23 ?_
  refine r_iload_n dJ6_bitCount_0f7a4_24 rfl ?_
  refine r_iload_n dJ6_bitCount_0f7a4_25 rfl ?_
  refine r_iconst (4) dJ6_bitCount_0f7a4_26 rfl ?_
  refine r_iushr dJ6_bitCount_0f7a4_27 ?_
  refine r_iadd dJ6_bitCount_0f7a4_28 ?_
  refine r_ldc_w kcJ6_267 dJ6_bitCount_0f7a4_29 ?_
  refine r_iand dJ6_bitCount_0f7a4_32 ?_
  refine r_istore_n_0 dJ6_bitCount_0f7a4_33 ?_
  refine r_iload_n dJ6_bitCount_0f7a4_34 rfl ?_
  refine r_iload_n dJ6_bitCount_0f7a4_35 rfl ?_
  refine r_bipush (8) dJ6_bitCount_0f7a4_36 rfl ?_
  refine r_iushr dJ6_bitCount_0f7a4_38 ?_
  refine r_iadd dJ6_bitCount_0f7a4_39 ?_
  refine r_istore_n_0 dJ6_bitCount_0f7a4_40 ?_
  refine r_iload_n dJ6_bitCount_0f7a4_41 rfl ?_
  refine r_iload_n dJ6_bitCount_0f7a4_42 rfl ?_
  refine r_bipush (16) dJ6_bitCount_0f7a4_43 rfl ?_
  refine r_iushr dJ6_bitCount_0f7a4_45 ?_
  refine r_iadd dJ6_bitCount_0f7a4_46 ?_
  refine r_istore_n_0 dJ6_bitCount_0f7a4_47 ?_
  refine r_iload_n dJ6_bitCount_0f7a4_48 rfl ?_
  refine r_bipush (63) dJ6_bitCount_0f7a4_49 rfl ?_
  refine r_iand dJ6_bitCount_0f7a4_51 ?_
  refine r_ireturn rfl (by first | rfl | exact nar_bi _ | assumption) dJ6_bitCount_0f7a4_52 ⟨_, rfl, ?_⟩
  exact qof K (by clear K; revert m; decide +kernel) rfl
theorem sp_J6_numberOfTrailingZeros_0f7a4 {m : Nat} (hm : m < 128) (h0 : m ≠ 0) (K : Q (oI (whc false (nI m) 7)) σ) : Mi E mJ6_numberOfTrailingZeros_0f7a4 [.int (nI m)] σ Q := by
  refine Mw_of (L0 := [some (.int (nI m)), none]) pn_J6 rfl rfl (Nat.le_of_ble_eq_true rfl) ?_
  refine r_iload_n dJ6_numberOfTrailingZeros_0f7a4_0 rfl ?_
  refine r_iconst (-1) dJ6_numberOfTrailingZeros_0f7a4_1 rfl ?_
  refine r_ixor dJ6_numberOfTrailingZeros_0f7a4_2 ?_
  refine r_iload_n dJ6_numberOfTrailingZeros_0f7a4_3 rfl ?_
  refine r_iconst (1) dJ6_numberOfTrailingZeros_0f7a4_4 rfl ?_
  refine r_isub dJ6_numberOfTrailingZeros_0f7a4_5 ?_
  refine r_iand dJ6_numberOfTrailingZeros_0f7a4_6 ?_
  refine r_istore_n_0 dJ6_numberOfTrailingZeros_0f7a4_7 ?_
  refine r_iload_n dJ6_numberOfTrailingZeros_0f7a4_8 rfl ?_
  refine r_if_gt 17 dJ6_numberOfTrailingZeros_0f7a4_9 rfl (fun h9 => ?_) (fun h9 => ?_)
  · refine r_iconst (1) dJ6_numberOfTrailingZeros_0f7a4_17 rfl ?_
    refine r_istore_n_1 dJ6_numberOfTrailingZeros_0f7a4_18 rfl ?_
    refine r_iload_n dJ6_numberOfTrailingZeros_0f7a4_19 rfl ?_
    refine r_ldc_w kcJ6_264 dJ6_numberOfTrailingZeros_0f7a4_20 ?_
    refine r_icmp_le 34 dJ6_numberOfTrailingZeros_0f7a4_23 rfl (fun h23 => ?_) (fun h23 => ?_)
    · clear h23
      refine r_iload_n dJ6_numberOfTrailingZeros_0f7a4_34 rfl ?_
      refine r_sipush (256) dJ6_numberOfTrailingZeros_0f7a4_35 rfl ?_
      refine r_icmp_le 49 dJ6_numberOfTrailingZeros_0f7a4_38 rfl (fun h38 => ?_) (fun h38 => ?_)
      · clear h38
        refine r_iload_n dJ6_numberOfTrailingZeros_0f7a4_49 rfl ?_
        refine r_bipush (16) dJ6_numberOfTrailingZeros_0f7a4_50 rfl ?_
        refine r_icmp_le 62 dJ6_numberOfTrailingZeros_0f7a4_52 rfl (fun h52 => ?_) (fun h52 => ?_)
        · refine r_iload_n dJ6_numberOfTrailingZeros_0f7a4_62 rfl ?_
          refine r_iconst (4) dJ6_numberOfTrailingZeros_0f7a4_63 rfl ?_
          refine r_icmp_le 74 dJ6_numberOfTrailingZeros_0f7a4_64 rfl (fun h64 => ?_) (fun h64 => ?_)
          · refine r_iload_n dJ6_numberOfTrailingZeros_0f7a4_74 rfl ?_
            refine r_iload_n dJ6_numberOfTrailingZeros_0f7a4_75 rfl ?_
            refine r_iconst (1) dJ6_numberOfTrailingZeros_0f7a4_76 rfl ?_
            refine r_iushr dJ6_numberOfTrailingZeros_0f7a4_77 ?_
            refine r_iadd dJ6_numberOfTrailingZeros_0f7a4_78 ?_
            refine r_ireturn rfl (by first | rfl | exact nar_bi _ | assumption) dJ6_numberOfTrailingZeros_0f7a4_79 ⟨_, rfl, ?_⟩
            exact qof K (by clear K; revert m; decide +kernel) rfl
          · refine r_iinc_1 dJ6_numberOfTrailingZeros_0f7a4_67 rfl ?_
            refine r_iload_n dJ6_numberOfTrailingZeros_0f7a4_70 rfl ?_
            refine r_iconst (2) dJ6_numberOfTrailingZeros_0f7a4_71 rfl ?_
            refine r_iushr dJ6_numberOfTrailingZeros_0f7a4_72 ?_
            refine r_istore_n_0 dJ6_numberOfTrailingZeros_0f7a4_73 ?_
            refine r_iload_n dJ6_numberOfTrailingZeros_0f7a4_74 rfl ?_
            refine r_iload_n dJ6_numberOfTrailingZeros_0f7a4_75 rfl ?_
            refine r_iconst (1) dJ6_numberOfTrailingZeros_0f7a4_76 rfl ?_
            refine r_iushr dJ6_numberOfTrailingZeros_0f7a4_77 ?_
            refine r_iadd dJ6_numberOfTrailingZeros_0f7a4_78 ?_
            refine r_ireturn rfl (by first | rfl | exact nar_bi _ | assumption) dJ6_numberOfTrailingZeros_0f7a4_79 ⟨_, rfl, ?_⟩
            exact qof K (by clear K; revert m; decide +kernel) rfl
        · refine r_iinc_1 dJ6_numberOfTrailingZeros_0f7a4_55 rfl ?_
          refine r_iload_n dJ6_numberOfTrailingZeros_0f7a4_58 rfl ?_
          refine r_iconst (4) dJ6_numberOfTrailingZeros_0f7a4_59 rfl ?_
          refine r_iushr dJ6_numberOfTrailingZeros_0f7a4_60 ?_
          refine r_istore_n_0 dJ6_numberOfTrailingZeros_0f7a4_61 ?_
          refine r_iload_n dJ6_numberOfTrailingZeros_0f7a4_62 rfl ?_
          refine r_iconst (4) dJ6_numberOfTrailingZeros_0f7a4_63 rfl ?_
          refine r_icmp_le 74 dJ6_numberOfTrailingZeros_0f7a4_64 rfl (fun h64 => ?_) (fun h64 => ?_)
          · refine r_iload_n dJ6_numberOfTrailingZeros_0f7a4_74 rfl ?_
            refine r_iload_n dJ6_numberOfTrailingZeros_0f7a4_75 rfl ?_
            refine r_iconst (1) dJ6_numberOfTrailingZeros_0f7a4_76 rfl ?_
            refine r_iushr dJ6_numberOfTrailingZeros_0f7a4_77 ?_
            refine r_iadd dJ6_numberOfTrailingZeros_0f7a4_78 ?_
            refine r_ireturn rfl (by first | rfl | exact nar_bi _ | assumption) dJ6_numberOfTrailingZeros_0f7a4_79 ⟨_, rfl, ?_⟩
            exact qof K (by clear K; revert m; decide +kernel) rfl
          · refine r_iinc_1 dJ6_numberOfTrailingZeros_0f7a4_67 rfl ?_
            refine r_iload_n dJ6_numberOfTrailingZeros_0f7a4_70 rfl ?_
            refine r_iconst (2) dJ6_numberOfTrailingZeros_0f7a4_71 rfl ?_
            refine r_iushr dJ6_numberOfTrailingZeros_0f7a4_72 ?_
            refine r_istore_n_0 dJ6_numberOfTrailingZeros_0f7a4_73 ?_
            refine r_iload_n dJ6_numberOfTrailingZeros_0f7a4_74 rfl ?_
            refine r_iload_n dJ6_numberOfTrailingZeros_0f7a4_75 rfl ?_
            refine r_iconst (1) dJ6_numberOfTrailingZeros_0f7a4_76 rfl ?_
            refine r_iushr dJ6_numberOfTrailingZeros_0f7a4_77 ?_
            refine r_iadd dJ6_numberOfTrailingZeros_0f7a4_78 ?_
            refine r_ireturn rfl (by first | rfl | exact nar_bi _ | assumption) dJ6_numberOfTrailingZeros_0f7a4_79 ⟨_, rfl, ?_⟩
            exact qof K (by clear K; revert m; decide +kernel) rfl
      · exfalso; clear K; revert m; decide +kernel
    · exfalso; clear K; revert m; decide +kernel
  · refine r_iload_n dJ6_numberOfTrailingZeros_0f7a4_12 rfl ?_
    refine r_bipush (32) dJ6_numberOfTrailingZeros_0f7a4_13 rfl ?_
    refine r_iand dJ6_numberOfTrailingZeros_0f7a4_15 ?_
    refine r_ireturn rfl (by first | rfl | exact nar_bi _ | assumption) dJ6_numberOfTrailingZeros_0f7a4_16 ⟨_, rfl, ?_⟩
    exact qof K (by clear K; revert m; decide +kernel) rfl
theorem sp_J6_numberOfLeadingZeros_0f7a4 {m : Nat} (hm : m < 128) (h0 : m ≠ 0) (K : Q (31 - oI (whc true (nI m) 7)) σ) : Mi E mJ6_numberOfLeadingZeros_0f7a4 [.int (nI m)] σ Q := by
  refine Mw_of (L0 := [some (.int (nI m)), none]) pn_J6 rfl rfl (Nat.le_of_ble_eq_true rfl) ?_
  refine r_iload_n dJ6_numberOfLeadingZeros_0f7a4_0 rfl ?_
  refine r_if_gt 15 dJ6_numberOfLeadingZeros_0f7a4_1 rfl (fun h1 => ?_) (fun h1 => ?_)
  · refine r_bipush (31) dJ6_numberOfLeadingZeros_0f7a4_15 rfl ?_
    refine r_istore_n_1 dJ6_numberOfLeadingZeros_0f7a4_17 rfl ?_
    refine r_iload_n dJ6_numberOfLeadingZeros_0f7a4_18 rfl ?_
    refine r_ldc_w kcJ6_264 dJ6_numberOfLeadingZeros_0f7a4_19 ?_
    refine r_icmp_lt 33 dJ6_numberOfLeadingZeros_0f7a4_22 rfl (fun h22 => ?_) (fun h22 => ?_)
    · clear h22
      refine r_iload_n dJ6_numberOfLeadingZeros_0f7a4_33 rfl ?_
      refine r_sipush (256) dJ6_numberOfLeadingZeros_0f7a4_34 rfl ?_
      refine r_icmp_lt 48 dJ6_numberOfLeadingZeros_0f7a4_37 rfl (fun h37 => ?_) (fun h37 => ?_)
      · clear h37
        refine r_iload_n dJ6_numberOfLeadingZeros_0f7a4_48 rfl ?_
        refine r_bipush (16) dJ6_numberOfLeadingZeros_0f7a4_49 rfl ?_
        refine r_icmp_lt 61 dJ6_numberOfLeadingZeros_0f7a4_51 rfl (fun h51 => ?_) (fun h51 => ?_)
        · refine r_iload_n dJ6_numberOfLeadingZeros_0f7a4_61 rfl ?_
          refine r_iconst (4) dJ6_numberOfLeadingZeros_0f7a4_62 rfl ?_
          refine r_icmp_lt 73 dJ6_numberOfLeadingZeros_0f7a4_63 rfl (fun h63 => ?_) (fun h63 => ?_)
          · refine r_iload_n dJ6_numberOfLeadingZeros_0f7a4_73 rfl ?_
            refine r_iload_n dJ6_numberOfLeadingZeros_0f7a4_74 rfl ?_
            refine r_iconst (1) dJ6_numberOfLeadingZeros_0f7a4_75 rfl ?_
            refine r_iushr dJ6_numberOfLeadingZeros_0f7a4_76 ?_
            refine r_isub dJ6_numberOfLeadingZeros_0f7a4_77 ?_
            refine r_ireturn rfl (by first | rfl | exact nar_bi _ | assumption) dJ6_numberOfLeadingZeros_0f7a4_78 ⟨_, rfl, ?_⟩
            exact qof K (by clear K; revert m; decide +kernel) rfl
          · refine r_iinc_1 dJ6_numberOfLeadingZeros_0f7a4_66 rfl ?_
            refine r_iload_n dJ6_numberOfLeadingZeros_0f7a4_69 rfl ?_
            refine r_iconst (2) dJ6_numberOfLeadingZeros_0f7a4_70 rfl ?_
            refine r_iushr dJ6_numberOfLeadingZeros_0f7a4_71 ?_
            refine r_istore_n_0 dJ6_numberOfLeadingZeros_0f7a4_72 ?_
            refine r_iload_n dJ6_numberOfLeadingZeros_0f7a4_73 rfl ?_
            refine r_iload_n dJ6_numberOfLeadingZeros_0f7a4_74 rfl ?_
            refine r_iconst (1) dJ6_numberOfLeadingZeros_0f7a4_75 rfl ?_
            refine r_iushr dJ6_numberOfLeadingZeros_0f7a4_76 ?_
            refine r_isub dJ6_numberOfLeadingZeros_0f7a4_77 ?_
            refine r_ireturn rfl (by first | rfl | exact nar_bi _ | assumption) dJ6_numberOfLeadingZeros_0f7a4_78 ⟨_, rfl, ?_⟩
            exact qof K (by clear K; revert m; decide +kernel) rfl
        · refine r_iinc_1 dJ6_numberOfLeadingZeros_0f7a4_54 rfl ?_
          refine r_iload_n dJ6_numberOfLeadingZeros_0f7a4_57 rfl ?_
          refine r_iconst (4) dJ6_numberOfLeadingZeros_0f7a4_58 rfl ?_
          refine r_iushr dJ6_numberOfLeadingZeros_0f7a4_59 ?_
          refine r_istore_n_0 dJ6_numberOfLeadingZeros_0f7a4_60 ?_
          refine r_iload_n dJ6_numberOfLeadingZeros_0f7a4_61 rfl ?_
          refine r_iconst (4) dJ6_numberOfLeadingZeros_0f7a4_62 rfl ?_
          refine r_icmp_lt 73 dJ6_numberOfLeadingZeros_0f7a4_63 rfl (fun h63 => ?_) (fun h63 => ?_)
          · refine r_iload_n dJ6_numberOfLeadingZeros_0f7a4_73 rfl ?_
            refine r_iload_n dJ6_numberOfLeadingZeros_0f7a4_74 rfl ?_
            refine r_iconst (1) dJ6_numberOfLeadingZeros_0f7a4_75 rfl ?_
            refine r_iushr dJ6_numberOfLeadingZeros_0f7a4_76 ?_
            refine r_isub dJ6_numberOfLeadingZeros_0f7a4_77 ?_
            refine r_ireturn rfl (by first | rfl | exact nar_bi _ | assumption) dJ6_numberOfLeadingZeros_0f7a4_78 ⟨_, rfl, ?_⟩
            exact qof K (by clear K; revert m; decide +kernel) rfl
          · refine r_iinc_1 dJ6_numberOfLeadingZeros_0f7a4_66 rfl ?_
            refine r_iload_n dJ6_numberOfLeadingZeros_0f7a4_69 rfl ?_
            refine r_iconst (2) dJ6_numberOfLeadingZeros_0f7a4_70 rfl ?_
            refine r_iushr dJ6_numberOfLeadingZeros_0f7a4_71 ?_
            refine r_istore_n_0 dJ6_numberOfLeadingZeros_0f7a4_72 ?_
            refine r_iload_n dJ6_numberOfLeadingZeros_0f7a4_73 rfl ?_
            refine r_iload_n dJ6_numberOfLeadingZeros_0f7a4_74 rfl ?_
            refine r_iconst (1) dJ6_numberOfLeadingZeros_0f7a4_75 rfl ?_
            refine r_iushr dJ6_numberOfLeadingZeros_0f7a4_76 ?_
            refine r_isub dJ6_numberOfLeadingZeros_0f7a4_77 ?_
            refine r_ireturn rfl (by first | rfl | exact nar_bi _ | assumption) dJ6_numberOfLeadingZeros_0f7a4_78 ⟨_, rfl, ?_⟩
            exact qof K (by clear K; revert m; decide +kernel) rfl
      · exfalso; clear K; revert m; decide +kernel
    · exfalso; clear K; revert m; decide +kernel
  · exfalso; clear K; revert m; decide +kernel
end JDK1
