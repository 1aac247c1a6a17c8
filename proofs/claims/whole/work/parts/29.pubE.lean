/-! ===== both sides: count, falls ===== -/
section PUBE
variable {E : EnvT} {σ : Sg} {Q : Int32 → Sg → Prop} {Qv : Sg → Prop}
def cntV (r : Row) (n : Nat) (rf : Row) (tc lc : Int32) (w : Int32) : Int32 := if 11 ≤ w ∧ w ≤ 16 then rf (w.toNatClampNeg - 10) else if w = 0 then r 0 else if w = 1 then r 1 else if w = 2 then r 2 else if w = 3 then sumB r n else if w = 4 then sumT r n else if w = 5 then inO r (irm (r 1) 7) n else if w = 6 then tc else if w = 7 then lc else -9
theorem sub10 {j : Nat} (h : 10 ≤ j) : nI j - 10 = nI (j - 10) := pk_sub (b := 10) h
theorem sp_X8_count {n : Nat} {w : Int32} (hW : WF (σ 0) n) (K : Q (cntV (σ 0) n (σ 9) (σ 10 1) (σ 10 2) w) σ) : Mi E mX8_count [.ref (ad E 0 0), .int w] σ Q := by
  have hn6 := hW.2.1
  have h7 : ∀ o, o < 6 → R7 (σ 0 (5 + 5 * o)) := fun o ho => (hW.2.2 o ho).2.2.1
  have T : ¬ (11 ≤ w ∧ w ≤ 16) → GW E (ZM E 3 fun v σ' => ∃ r, v = some (.int r) ∧ Q r σ') mX8_count 22 [some (.ref (ad E 0 0)), some (.int w)] [] σ := by
    intro hw
    unfold cntV at K
    rw [if_neg hw] at K
    refine r_iload_n dX8_count_22 rfl ?_
    by_cases h0 : w = 0
    · subst h0
      refine r_tableIn 45 68 dX8_count_23 (by decide) (by decide) rfl rfl ?_
      refine r_aload_n dX8_count_68 rfl ?_
      refine getX8_10 rfl dX8_count_69 ?_
      refine getX8_189 (by omega) rfl dX8_count_72 ?_
      refine r_ireturn rfl (by first | rfl | exact nar_bi _ | assumption) dX8_count_75 ⟨_, rfl, ?_⟩
      exact K
    rw [if_neg h0] at K
    by_cases h1 : w = 1
    · subst h1
      refine r_tableIn 53 76 dX8_count_23 (by decide) (by decide) rfl rfl ?_
      refine r_aload_n dX8_count_76 rfl ?_
      refine getX8_10 rfl dX8_count_77 ?_
      refine getX8_148 (by omega) rfl dX8_count_80 ?_
      refine r_ireturn rfl (by first | rfl | exact nar_bi _ | assumption) dX8_count_83 ⟨_, rfl, ?_⟩
      exact K
    rw [if_neg h1] at K
    by_cases h2 : w = 2
    · subst h2
      refine r_tableIn 61 84 dX8_count_23 (by decide) (by decide) rfl rfl ?_
      refine r_aload_n dX8_count_84 rfl ?_
      refine getX8_10 rfl dX8_count_85 ?_
      refine getX8_154 (by omega) rfl dX8_count_88 ?_
      refine r_ireturn rfl (by first | rfl | exact nar_bi _ | assumption) dX8_count_91 ⟨_, rfl, ?_⟩
      exact K
    rw [if_neg h2] at K
    by_cases h3 : w = 3
    · subst h3
      refine r_tableIn 69 92 dX8_count_23 (by decide) (by decide) rfl rfl ?_
      refine r_aload_n dX8_count_92 rfl ?_
      refine getX8_10 rfl dX8_count_93 ?_
      refine cVN_i0 fX1_allOff (rcv_1 (by omega)) lkX8_254 rfl dX8_count_96 (sp_X1_allOff (by omega) hW.1 hn6 h7 ?_)
      refine r_ireturn rfl (by first | rfl | exact nar_bi _ | assumption) dX8_count_99 ⟨_, rfl, ?_⟩
      exact K
    rw [if_neg h3] at K
    by_cases h4 : w = 4
    · subst h4
      refine r_tableIn 77 100 dX8_count_23 (by decide) (by decide) rfl rfl ?_
      refine r_aload_n dX8_count_100 rfl ?_
      refine getX8_10 rfl dX8_count_101 ?_
      refine cVN_i0 fX1_allTired (rcv_1 (by omega)) lkX8_242 rfl dX8_count_104 (sp_X1_allTired (by omega) hW.1 hn6 ?_)
      refine r_ireturn rfl (by first | rfl | exact nar_bi _ | assumption) dX8_count_107 ⟨_, rfl, ?_⟩
      exact K
    rw [if_neg h4] at K
    by_cases h5 : w = 5
    · subst h5
      refine r_tableIn 85 108 dX8_count_23 (by decide) (by decide) rfl rfl ?_
      refine r_aload_n dX8_count_108 rfl ?_
      refine getX8_10 rfl dX8_count_109 ?_
      refine r_aload_n dX8_count_112 rfl ?_
      refine getX8_10 rfl dX8_count_113 ?_
      refine cVN_i0 fX1_weekday (rcv_1 (by omega)) lkX8_157 rfl dX8_count_116 (sp_X1_weekday (by omega) ?_)
      refine cVN_i1 fX1_whoIsIn (rcv_1 (by omega)) lkX8_160 rfl dX8_count_119 (sp_X1_whoIsIn (by omega) hW.1 hn6 ?_)
      refine r_ireturn rfl (by first | rfl | exact nar_bi _ | assumption) dX8_count_122 ⟨_, rfl, ?_⟩
      exact K
    rw [if_neg h5] at K
    by_cases h6 : w = 6
    · subst h6
      refine r_tableIn 100 123 dX8_count_23 (by decide) (by decide) rfl rfl ?_
      refine r_aload_n dX8_count_123 rfl ?_
      refine getX8_37 rfl dX8_count_124 ?_
      refine r_ireturn rfl (by first | rfl | exact nar_bi _ | assumption) dX8_count_127 ⟨_, rfl, ?_⟩
      exact K
    rw [if_neg h6] at K
    by_cases h77 : w = 7
    · subst h77
      refine r_tableIn 105 128 dX8_count_23 (by decide) (by decide) rfl rfl ?_
      refine r_aload_n dX8_count_128 rfl ?_
      refine getX8_29 rfl dX8_count_129 ?_
      refine getX8_60 rfl dX8_count_132 ?_
      refine r_ireturn rfl (by first | rfl | exact nar_bi _ | assumption) dX8_count_135 ⟨_, rfl, ?_⟩
      exact K
    rw [if_neg h77] at K
    have n0 := i32_ne (v := 0) 0 rfl h0
    have n1 := i32_ne (v := 1) 1 rfl h1
    have n2 := i32_ne (v := 2) 2 rfl h2
    have n3 := i32_ne (v := 3) 3 rfl h3
    have n4 := i32_ne (v := 4) 4 rfl h4
    have n5 := i32_ne (v := 5) 5 rfl h5
    have n6 := i32_ne (v := 6) 6 rfl h6
    have n7 := i32_ne (v := 7) 7 rfl h77
    refine r_tableOut 136 dX8_count_23 (by omega) rfl ?_
    refine r_bipush (-9) dX8_count_136 rfl ?_
    refine r_ireturn rfl (by first | rfl | exact nar_bi _ | assumption) dX8_count_138 ⟨_, rfl, ?_⟩
    exact K
  refine Mw_of (L0 := [some (.ref (ad E 0 0)), some (.int w)]) pn_X8 rfl rfl (Nat.le_of_ble_eq_true rfl) ?_
  refine r_iload_n dX8_count_0 rfl ?_
  refine r_bipush (11) dX8_count_1 rfl ?_
  refine r_icmp_lt 22 dX8_count_3 rfl (fun h3 => ?_) (fun h3 => ?_)
  · exact T (fun q => absurd q.1 (Int32.not_le.mpr h3))
  · refine r_iload_n dX8_count_6 rfl ?_
    refine r_bipush (16) dX8_count_7 rfl ?_
    refine r_icmp_gt 22 dX8_count_9 rfl (fun h9 => ?_) (fun h9 => ?_)
    · exact T (fun q => absurd q.2 (Int32.not_le.mpr h9))
    · have hw := And.intro (Int32.not_lt.mp h3) (Int32.not_lt.mp h9)
      unfold cntV at K
      rw [if_pos hw] at K
      obtain ⟨j, hj, rfl⟩ := nI_of (Int32.not_lt.mpr (Int32.le_trans (by decide : (0 : Int32) ≤ 11) hw.1))
      have j1 := (nI_leI (a := 11) (by omega) hj).mp hw.1
      have j2 := (nI_leI (b := 16) hj (by omega)).mp hw.2
      rw [nI_clamp hj] at K
      refine r_aload_n dX8_count_12 rfl ?_
      refine getX8_41 rfl dX8_count_13 ?_
      refine r_iload_n dX8_count_16 rfl ?_
      refine r_bipush (10) dX8_count_17 rfl ?_
      refine r_isub dX8_count_19 ?_
      rw [sub10 (by omega)]
      refine ld_17  (by omega) dX8_count_20 ?_
      refine r_ireturn rfl (by first | rfl | exact nar_bi _ | assumption) dX8_count_21 ⟨_, rfl, ?_⟩
      exact K
theorem sp_X9_count {n : Nat} {w : Int32} (hW : WF (σ 3) n) (K : Q (cntV (σ 3) n (σ 13) (σ 15 2) (σ 15 1) w) σ) : Mi E mX9_count [.ref (ad E 18 0), .int w] σ Q := by
  have hn6 := hW.2.1
  refine Mw_of (L0 := [some (.ref (ad E 18 0)), some (.int w), none, none]) pn_X9 rfl rfl (Nat.le_of_ble_eq_true rfl) ?_
  refine r_iload_n dX9_count_0 rfl ?_
  refine r_bipush (11) dX9_count_1 rfl ?_
  refine r_bipush (16) dX9_count_3 rfl ?_
  refine cS_i3 fX9_isIn lkX9_40 rfl dX9_count_5 (sp_X9_isIn  ?_)
  refine r_if_eq 21 dX9_count_8 rfl (fun h8 => ?_) (fun h8 => ?_)
  · have hw := of_decide_eq_false ((bi_eq0 _).mp h8)
    unfold cntV at K
    rw [if_neg hw] at K
    refine r_iconst (0) dX9_count_21 rfl ?_
    refine r_istore_n_2 dX9_count_22 rfl ?_
    refine r_iload_n dX9_count_23 rfl ?_
    by_cases h0 : w = 0
    · subst h0
      refine r_tableIn 48 72 dX9_count_24 (by decide) (by decide) rfl rfl ?_
      refine r_aload_n dX9_count_72 rfl ?_
      refine getX9_9 rfl dX9_count_73 ?_
      refine r_iload_n dX9_count_76 rfl ?_
      refine ld_19 (t := 0) (by omega) (by omega) dX9_count_77 ?_
      refine r_ireturn rfl (by first | rfl | exact nar_bi _ | assumption) dX9_count_78 ⟨_, rfl, ?_⟩
      exact K
    rw [if_neg h0] at K
    by_cases h1 : w = 1
    · subst h1
      refine r_tableIn 48 72 dX9_count_24 (by decide) (by decide) rfl rfl ?_
      refine r_aload_n dX9_count_72 rfl ?_
      refine getX9_9 rfl dX9_count_73 ?_
      refine r_iload_n dX9_count_76 rfl ?_
      refine ld_19 (t := 1) (by omega) (by omega) dX9_count_77 ?_
      refine r_ireturn rfl (by first | rfl | exact nar_bi _ | assumption) dX9_count_78 ⟨_, rfl, ?_⟩
      exact K
    rw [if_neg h1] at K
    by_cases h2 : w = 2
    · subst h2
      refine r_tableIn 48 72 dX9_count_24 (by decide) (by decide) rfl rfl ?_
      refine r_aload_n dX9_count_72 rfl ?_
      refine getX9_9 rfl dX9_count_73 ?_
      refine r_iload_n dX9_count_76 rfl ?_
      refine ld_19 (t := 2) (by omega) (by omega) dX9_count_77 ?_
      refine r_ireturn rfl (by first | rfl | exact nar_bi _ | assumption) dX9_count_78 ⟨_, rfl, ?_⟩
      exact K
    rw [if_neg h2] at K
    by_cases h3 : w = 3
    · subst h3
      rw [if_pos rfl] at K
      refine r_tableIn 55 79 dX9_count_24 (by decide) (by decide) rfl rfl ?_
      refine r_iconst (0) dX9_count_79 rfl ?_
      refine r_istore_n_3 dX9_count_80 rfl ?_
      have LOOP : ∀ k, k ≤ n → GW E (ZM E 2 fun v σ' => ∃ r, v = some (.int r) ∧ Q r σ') mX9_count 81 [some (.ref (ad E 18 0)), some (.int 3), some (.int (sumB (σ 3) k)), some (.int (nI k))] [] σ := by
        refine down ?_ ?_
        · refine r_iload_n dX9_count_81 rfl ?_
          refine r_aload_n dX9_count_82 rfl ?_
          refine getX9_9 rfl dX9_count_83 ?_
          refine r_iconst (0) dX9_count_86 rfl ?_
          refine ld_19 (t := 0)  (by omega) (by omega) dX9_count_87 ?_
          rw [hW.1]
          refine r_icmp_ge_N 113 dX9_count_88 rfl (by omega) (by omega) (fun h88 => ?_) (fun h88 => ?_)
          · refine r_iload_n dX9_count_113 rfl ?_
            refine r_ireturn rfl (by first | rfl | exact nar_bi _ | assumption) dX9_count_114 ⟨_, rfl, ?_⟩
            exact K
          · exfalso; omega
        · intro k hk ih
          refine r_iload_n dX9_count_81 rfl ?_
          refine r_aload_n dX9_count_82 rfl ?_
          refine getX9_9 rfl dX9_count_83 ?_
          refine r_iconst (0) dX9_count_86 rfl ?_
          refine ld_19 (t := 0)  (by omega) (by omega) dX9_count_87 ?_
          rw [hW.1]
          refine r_icmp_ge_N 113 dX9_count_88 rfl (by omega) (by omega) (fun h88 => ?_) (fun h88 => ?_)
          · exfalso; omega
          · refine r_iload_n dX9_count_91 rfl ?_
            refine r_aload_n dX9_count_92 rfl ?_
            refine getX9_9 rfl dX9_count_93 ?_
            refine r_iload_n dX9_count_96 rfl ?_
            refine r_iconst (2) dX9_count_97 rfl ?_
            refine cS_i2 fX9_of lkX9_44 rfl dX9_count_98 (sp_of2  ?_)
            refine ld_19  (by omega) (by omega) dX9_count_101 ?_
            refine cS_i1 fX9_bits lkX9_52 rfl dX9_count_102 (sp_X9_bits  ?_)
            refine r_iadd dX9_count_105 ?_
            refine r_istore_n_2 dX9_count_106 rfl ?_
            refine r_inc1_3 dX9_count_107 rfl ?_
            refine r_goto 81 dX9_count_110 rfl ?_
            exact ih
      exact LOOP 0 (by omega)
    rw [if_neg h3] at K
    by_cases h4 : w = 4
    · subst h4
      refine r_tableIn 91 115 dX9_count_24 (by decide) (by decide) rfl rfl ?_
      refine r_aload_n dX9_count_115 rfl ?_
      refine getX9_9 rfl dX9_count_116 ?_
      refine cS_i1 fX9_allTired lkX9_167 rfl dX9_count_119 (sp_X9_allTired (by omega) hW.1 hn6 ?_)
      refine r_ireturn rfl (by first | rfl | exact nar_bi _ | assumption) dX9_count_122 ⟨_, rfl, ?_⟩
      exact K
    rw [if_neg h4] at K
    by_cases h5 : w = 5
    · subst h5
      refine r_tableIn 99 123 dX9_count_24 (by decide) (by decide) rfl rfl ?_
      refine r_aload_n dX9_count_123 rfl ?_
      refine getX9_9 rfl dX9_count_124 ?_
      refine r_aload_n dX9_count_127 rfl ?_
      refine getX9_9 rfl dX9_count_128 ?_
      refine r_iconst (1) dX9_count_131 rfl ?_
      refine ld_19 (t := 1)  (by omega) (by omega) dX9_count_132 ?_
      refine r_bipush (7) dX9_count_133 rfl ?_
      refine r_irem dX9_count_135 (by decide) ?_
      refine cS_i2 fX9_inOn lkX9_144 rfl dX9_count_136 (sp_X9_inOn (by omega) hW.1 hn6 ?_)
      refine r_ireturn rfl (by first | rfl | exact nar_bi _ | assumption) dX9_count_139 ⟨_, rfl, ?_⟩
      exact K
    rw [if_neg h5] at K
    by_cases h6 : w = 6
    · subst h6
      refine r_tableIn 116 140 dX9_count_24 (by decide) (by decide) rfl rfl ?_
      refine r_aload_n dX9_count_140 rfl ?_
      refine getX9_192 rfl dX9_count_141 ?_
      refine r_ireturn rfl (by first | rfl | exact nar_bi _ | assumption) dX9_count_144 ⟨_, rfl, ?_⟩
      exact K
    rw [if_neg h6] at K
    by_cases h77 : w = 7
    · subst h77
      refine r_tableIn 121 145 dX9_count_24 (by decide) (by decide) rfl rfl ?_
      refine r_aload_n dX9_count_145 rfl ?_
      refine getX9_92 rfl dX9_count_146 ?_
      refine r_ireturn rfl (by first | rfl | exact nar_bi _ | assumption) dX9_count_149 ⟨_, rfl, ?_⟩
      exact K
    rw [if_neg h77] at K
    have n0 := i32_ne (v := 0) 0 rfl h0
    have n1 := i32_ne (v := 1) 1 rfl h1
    have n2 := i32_ne (v := 2) 2 rfl h2
    have n3 := i32_ne (v := 3) 3 rfl h3
    have n4 := i32_ne (v := 4) 4 rfl h4
    have n5 := i32_ne (v := 5) 5 rfl h5
    have n6 := i32_ne (v := 6) 6 rfl h6
    have n7 := i32_ne (v := 7) 7 rfl h77
    refine r_tableOut 150 dX9_count_24 (by omega) rfl ?_
    refine r_bipush (-9) dX9_count_150 rfl ?_
    refine r_ireturn rfl (by first | rfl | exact nar_bi _ | assumption) dX9_count_152 ⟨_, rfl, ?_⟩
    exact K
  · have hw := of_decide_eq_true (tb_of h8)
    unfold cntV at K
    rw [if_pos hw] at K
    obtain ⟨j, hj, rfl⟩ := nI_of (Int32.not_lt.mpr (Int32.le_trans (by decide : (0 : Int32) ≤ 11) hw.1))
    have j1 := (nI_leI (a := 11) (by omega) hj).mp hw.1
    have j2 := (nI_leI (b := 16) hj (by omega)).mp hw.2
    rw [nI_clamp hj] at K
    refine r_aload_n dX9_count_11 rfl ?_
    refine getX9_28 rfl dX9_count_12 ?_
    refine r_iload_n dX9_count_15 rfl ?_
    refine r_bipush (10) dX9_count_16 rfl ?_
    refine r_isub dX9_count_18 ?_
    rw [sub10 (by omega)]
    refine ld_22  (by omega) dX9_count_19 ?_
    refine r_ireturn rfl (by first | rfl | exact nar_bi _ | assumption) dX9_count_20 ⟨_, rfl, ?_⟩
    exact K
/-- falls -/
def fal (r : Row) (n p : Nat) : Option Nat := fnd (fun k => decide (20 ≤ dayN 0 n r k (6 + 5 * p))) 0 61
theorem sp_X9_fallsOf {n p : Nat} (hW : WF (σ 3) n) (hp : p < n) (K : ∀ r4, Q (oI (fal (σ 3) n p)) (va_up σ 4 r4)) : Mi E mX9_fallsOf [.ref (ad E 18 0), .int (nI p)] σ Q := by
  have hn6 := hW.2.1
  refine Mw_of (L0 := [some (.ref (ad E 18 0)), some (.int (nI p)), none]) pn_X9 rfl rfl (Nat.le_of_ble_eq_true rfl) ?_
  refine r_aload_n dX9_fallsOf_0 rfl ?_
  refine getX9_9 rfl dX9_fallsOf_1 ?_
  refine r_aload_n dX9_fallsOf_4 rfl ?_
  refine getX9_13 rfl dX9_fallsOf_5 ?_
  refine cS_v2 fX9_copies lkX9_129 rfl dX9_fallsOf_8 (sp_X9_copies (by omega) (by omega) (by omega) ?_)
  refine r_iconst (0) dX9_fallsOf_11 rfl ?_
  refine r_istore_n_2 dX9_fallsOf_12 rfl ?_
  have LOOP : ∀ k, k ≤ 61 → fal (σ 3) n p = fnd (fun k => decide (20 ≤ dayN 0 n (σ 3) k (6 + 5 * p))) k (61 - k) → GW E (ZM E 6 fun v σ' => ∃ r, v = some (.int r) ∧ Q r σ') mX9_fallsOf 13 [some (.ref (ad E 18 0)), some (.int (nI p)), some (.int (nI k))] [] (va_up σ 4 (dayN 0 n (σ 3) k)) := by
    refine down ?_ ?_
    · intro hf
      refine r_iload_n dX9_fallsOf_13 rfl ?_
      refine r_bipush (60) dX9_fallsOf_14 rfl ?_
      refine r_icmp_gt_N (b := 60) 50 dX9_fallsOf_16 rfl (by omega) (by omega) (fun h16 => ?_) (fun h16 => ?_)
      · refine r_bipush (-9) dX9_fallsOf_50 rfl ?_
        refine r_ireturn rfl (by first | rfl | exact nar_bi _ | assumption) dX9_fallsOf_52 ⟨_, rfl, ?_⟩
        exact qof (K _) (by rw [hf]; rfl) rfl
      · exfalso; omega
    · intro k hk ih hf
      rw [show 61 - k = (61 - (k + 1)) + 1 by omega, fnd] at hf
      refine r_iload_n dX9_fallsOf_13 rfl ?_
      refine r_bipush (60) dX9_fallsOf_14 rfl ?_
      refine r_icmp_gt_N (b := 60) 50 dX9_fallsOf_16 rfl (by omega) (by omega) (fun h16 => ?_) (fun h16 => ?_)
      · exfalso; omega
      · refine r_aload_n dX9_fallsOf_19 rfl ?_
        refine getX9_13 rfl dX9_fallsOf_20 ?_
        refine r_iload_n dX9_fallsOf_23 rfl ?_
        refine r_iconst (3) dX9_fallsOf_24 rfl ?_
        refine cS_i2 fX9_of lkX9_44 rfl dX9_fallsOf_25 (sp_of3  ?_)
        refine ld_19  (by omega) (by omega) dX9_fallsOf_28 ?_
        rw [up_at]
        refine r_bipush (20) dX9_fallsOf_29 rfl ?_
        refine r_icmp_lt 36 dX9_fallsOf_31 rfl (fun h31 => ?_) (fun h31 => ?_)
        · refine r_aload_n dX9_fallsOf_36 rfl ?_
          refine getX9_13 rfl dX9_fallsOf_37 ?_
          refine r_iconst (0) dX9_fallsOf_40 rfl ?_
          refine cS_v2 fX9_day lkX9_89 rfl dX9_fallsOf_41 (sp_X9_day (by omega) (by rw [up_at]; exact (dayN_WF hW k).1) hn6 ?_)
          rw [up_at, up_up]
          refine r_inc1_2 dX9_fallsOf_44 rfl ?_
          refine r_goto 13 dX9_fallsOf_47 rfl ?_
          exact ih (by rw [hf, if_neg (by simp only [decide_eq_true_eq]; exact Int32.not_le.mpr h31)])
        · refine r_iload_n dX9_fallsOf_34 rfl ?_
          refine r_ireturn rfl (by first | rfl | exact nar_bi _ | assumption) dX9_fallsOf_35 ⟨_, rfl, ?_⟩
          exact qof (K _) (by rw [hf, if_pos (decide_eq_true (Int32.not_lt.mp h31))]; rfl) rfl
  exact LOOP 0 (by omega) rfl
/-- the first to fall: whom, and when -/
def ffl (r : Row) (n : Nat) : Nat → Option (Nat × Nat)
  | 0 => none
  | p + 1 => match fal r n p with
    | none => ffl r n p
    | some k => match ffl r n p with
      | none => some (p, k)
      | some (q, b) => if k < b then some (p, k) else some (q, b)
def fflB (o : Option (Nat × Nat)) : Int32 := match o with
  | none => 1000000000
  | some q => nI q.2
theorem fal_lt {r : Row} {n p k : Nat} (h : fal r n p = some k) : k < 61 := by
  have := fnd_lt _ _ _ h
  omega
theorem ffl_lt {r : Row} {n : Nat} : ∀ p q b, ffl r n p = some (q, b) → q < p ∧ b < 61
  | 0, q, b, h => by cases h
  | p + 1, q, b, h => by
    unfold ffl at h
    cases hf : fal r n p with
    | none =>
      rw [hf] at h
      have := ffl_lt p q b h
      omega
    | some k =>
      have hk := fal_lt hf
      rw [hf] at h
      dsimp only at h
      cases hg : ffl r n p with
      | none => rw [hg] at h; cases h; omega
      | some x =>
        obtain ⟨q', b'⟩ := x
        have := ffl_lt p q' b' hg
        rw [hg] at h
        dsimp only at h
        split at h <;> cases h <;> omega
theorem sp_X9_firstFalls {n : Nat} (hW : WF (σ 3) n) (K : ∀ r4, Q (oI ((ffl (σ 3) n n).map (·.1))) (va_up σ 4 r4)) : Mi E mX9_firstFalls [.ref (ad E 18 0)] σ Q := by
  have hn6 := hW.2.1
  refine Mw_of (L0 := [some (.ref (ad E 18 0)), none, none, none, none]) pn_X9 rfl rfl (Nat.le_of_ble_eq_true rfl) ?_
  refine r_bipush (-9) dX9_firstFalls_0 rfl ?_
  refine r_istore_n_1 dX9_firstFalls_2 rfl ?_
  refine r_ldc kcX9_147 dX9_firstFalls_3 ?_
  refine r_istore_n_2 dX9_firstFalls_5 rfl ?_
  refine r_iconst (0) dX9_firstFalls_6 rfl ?_
  refine r_istore_n_3 dX9_firstFalls_7 rfl ?_
  have LOOP : ∀ k, k ≤ n → ∀ y r4, GW E (ZM E 7 fun v σ' => ∃ r, v = some (.int r) ∧ Q r σ') mX9_firstFalls 8 [some (.ref (ad E 18 0)), some (.int (oI ((ffl (σ 3) n k).map (·.1)))), some (.int (fflB (ffl (σ 3) n k))), some (.int (nI k)), y] [] (va_up σ 4 r4) := by
    refine down ?_ ?_
    · intro y r4
      refine r_iload_n dX9_firstFalls_8 rfl ?_
      refine r_aload_n dX9_firstFalls_9 rfl ?_
      refine getX9_9 rfl dX9_firstFalls_10 ?_
      refine r_iconst (0) dX9_firstFalls_13 rfl ?_
      refine ld_19 (t := 0)  (by omega) (by omega) dX9_firstFalls_14 ?_
      rw [up_ne (by omega), hW.1]
      refine r_icmp_ge_N 50 dX9_firstFalls_15 rfl (by omega) (by omega) (fun h15 => ?_) (fun h15 => ?_)
      · refine r_iload_n dX9_firstFalls_50 rfl ?_
        refine r_ireturn rfl (by first | rfl | exact nar_bi _ | assumption) dX9_firstFalls_51 ⟨_, rfl, ?_⟩
        exact K _
      · exfalso; omega
    · intro k hk ih y r4
      rw [ffl] at ih
      have e3 : (va_up σ 4 r4) 3 = σ 3 := up_ne (by omega)
      refine r_iload_n dX9_firstFalls_8 rfl ?_
      refine r_aload_n dX9_firstFalls_9 rfl ?_
      refine getX9_9 rfl dX9_firstFalls_10 ?_
      refine r_iconst (0) dX9_firstFalls_13 rfl ?_
      refine ld_19 (t := 0)  (by omega) (by omega) dX9_firstFalls_14 ?_
      rw [up_ne (by omega), hW.1]
      refine r_icmp_ge_N 50 dX9_firstFalls_15 rfl (by omega) (by omega) (fun h15 => ?_) (fun h15 => ?_)
      · exfalso; omega
      · refine r_aload_n dX9_firstFalls_18 rfl ?_
        refine r_iload_n dX9_firstFalls_19 rfl ?_
        refine cV_i1 fX9_fallsOf rcv_18 lkX9_148 rfl dX9_firstFalls_20 (sp_X9_fallsOf (by rw [e3]; exact hW) hk (fun r5 => ?_))
        refine r_istore_4 dX9_firstFalls_23 rfl ?_
        rw [up_up, e3]
        cases hf : fal (σ 3) n k with
        | none =>
          rw [hf] at ih
          rw [oI_none]
          refine r_iload dX9_firstFalls_25 rfl ?_
          refine r_if_lt 44 dX9_firstFalls_27 rfl (fun h27 => ?_) (fun h27 => ?_)
          · refine r_inc1_3 dX9_firstFalls_44 rfl ?_
            refine r_goto 8 dX9_firstFalls_47 rfl ?_
            exact ih _ _
          · exact absurd (by decide) h27
        | some d =>
          have hd := fal_lt hf
          rw [hf] at ih
          dsimp only at ih
          rw [oI_some]
          refine r_iload dX9_firstFalls_25 rfl ?_
          refine r_if_lt 44 dX9_firstFalls_27 rfl (fun h27 => ?_) (fun h27 => ?_)
          · exact absurd h27 (nI_pos (by omega))
          · cases hg : ffl (σ 3) n k with
            | none =>
              rw [hg] at ih
              refine r_iload dX9_firstFalls_30 rfl ?_
              refine r_iload_n dX9_firstFalls_32 rfl ?_
              refine r_icmp_lt 39 dX9_firstFalls_33 rfl (fun h33 => ?_) (fun h33 => ?_)
              · refine r_iload_n dX9_firstFalls_39 rfl ?_
                refine r_istore_n_1 dX9_firstFalls_40 rfl ?_
                refine r_iload dX9_firstFalls_41 rfl ?_
                refine r_istore_n_2 dX9_firstFalls_43 rfl ?_
                refine r_inc1_3 dX9_firstFalls_44 rfl ?_
                refine r_goto 8 dX9_firstFalls_47 rfl ?_
                exact ih _ _
              · refine absurd ?_ h33
                show nI d < nI 1000000000
                exact (nI_ltI (by omega) (by omega)).mpr (by omega)
            | some x =>
              obtain ⟨q', b'⟩ := x
              have hq := ffl_lt _ _ _ hg
              rw [hg] at ih
              dsimp only at ih
              refine r_iload dX9_firstFalls_30 rfl ?_
              refine r_iload_n dX9_firstFalls_32 rfl ?_
              refine r_icmp_lt 39 dX9_firstFalls_33 rfl (fun h33 => ?_) (fun h33 => ?_)
              · have h33 : nI d < nI b' := h33
                rw [if_pos ((nI_ltI (by omega) (by omega)).mp h33)] at ih
                refine r_iload_n dX9_firstFalls_39 rfl ?_
                refine r_istore_n_1 dX9_firstFalls_40 rfl ?_
                refine r_iload dX9_firstFalls_41 rfl ?_
                refine r_istore_n_2 dX9_firstFalls_43 rfl ?_
                refine r_inc1_3 dX9_firstFalls_44 rfl ?_
                refine r_goto 8 dX9_firstFalls_47 rfl ?_
                exact ih _ _
              · have h33 : ¬ nI d < nI b' := h33
                rw [if_neg (mt (nI_ltI (by omega) (by omega)).mpr h33)] at ih
                refine r_goto 44 dX9_firstFalls_36 rfl ?_
                refine r_inc1_3 dX9_firstFalls_44 rfl ?_
                refine r_goto 8 dX9_firstFalls_47 rfl ?_
                exact ih _ _
  have := LOOP 0 (by omega) none (σ 4)
  rw [up_same] at this
  exact this
def falV (r : Row) (n : Nat) (p : Int32) : Int32 := if p = -1 then oI ((ffl r n n).map (·.1)) else oI (fal r n p.toNatClampNeg)
theorem sp_X9_falls {n : Nat} {p : Int32} (hW : WF (σ 3) n) (Kr : (p ≠ -1 ∧ hasW p n = false) → Q (-1) (rfs σ 13 (-1))) (K : (p = -1 ∨ hasW p n = true) → ∀ r4, Q (falV (σ 3) n p) (va_up σ 4 r4)) : Mi E mX9_falls [.ref (ad E 18 0), .int p] σ Q := by
  have hn6 := hW.2.1
  refine Mw_of (L0 := [some (.ref (ad E 18 0)), some (.int p)]) pn_X9 rfl rfl (Nat.le_of_ble_eq_true rfl) ?_
  refine r_iload_n dX9_falls_0 rfl ?_
  refine r_iconst (-1) dX9_falls_1 rfl ?_
  refine r_icmp_ne 12 dX9_falls_2 rfl (fun h2 => ?_) (fun h2 => ?_)
  · refine r_aload_n dX9_falls_12 rfl ?_
    refine r_iload_n dX9_falls_13 rfl ?_
    refine cV_i1 fX9_isWorker rcv_18 lkX9_113 rfl dX9_falls_14 (sp_X9_isWorker hW.1 hn6 ?_)
    refine r_if_eq 28 dX9_falls_17 rfl (fun h17 => ?_) (fun h17 => ?_)
    · refine r_aload_n dX9_falls_28 rfl ?_
      refine r_iconst (-1) dX9_falls_29 rfl ?_
      refine cV_i1 fX9_no rcv_18 lkX9_36 rfl dX9_falls_30 (sp_X9_no (Or.inl rfl) ?_)
      refine r_ireturn rfl (by first | rfl | exact nar_bi _ | assumption) dX9_falls_33 ⟨_, rfl, ?_⟩
      exact Kr ⟨h2, (bi_eq0 _).mp h17⟩
    · have K := K (Or.inr (tb_of h17))
      unfold falV at K
      rw [if_neg h2] at K
      obtain ⟨q, hq, rfl⟩ := hasW_ex (tb_of h17) hn6
      rw [nI_clamp (by omega)] at K
      refine r_aload_n dX9_falls_20 rfl ?_
      refine r_iload_n dX9_falls_21 rfl ?_
      refine cV_i1 fX9_fallsOf rcv_18 lkX9_148 rfl dX9_falls_22 (sp_X9_fallsOf hW hq (fun r4 => ?_))
      refine r_goto 33 dX9_falls_25 rfl ?_
      refine r_ireturn rfl (by first | rfl | exact nar_bi _ | assumption) dX9_falls_33 ⟨_, rfl, ?_⟩
      exact K r4
  · have K := K (Or.inl h2)
    unfold falV at K
    rw [if_pos h2] at K
    refine r_aload_n dX9_falls_5 rfl ?_
    refine cV_i0 fX9_firstFalls rcv_18 lkX9_151 rfl dX9_falls_6 (sp_X9_firstFalls hW (fun r4 => ?_))
    refine r_goto 33 dX9_falls_9 rfl ?_
    refine r_ireturn rfl (by first | rfl | exact nar_bi _ | assumption) dX9_falls_33 ⟨_, rfl, ?_⟩
    exact K r4
/-- the class: days till one of the watched falls -/
def dtf (r : Row) (n : Nat) (wt : Int32) (m : Nat) : Option Nat := fnd (fun k => !(fel (dayN 0 n r k) n &&& wt == 0)) 0 (m + 1)
theorem dayN_1 {u : Int32} {n : Nat} {r : Row} {k : Nat} : dayN u n (dayN u n r k) 1 = dayN u n r (k + 1) := rfl
theorem sp_X8_daysTillFall {n m : Nat} {wt : Int32} (hW : WF (σ 1) n) (hm : m ≤ 60) (Ks : ∀ k, dtf (σ 1) n wt m = some k → Q (nI k) (va_up σ 1 (dayN 0 n (σ 1) k))) (Kn : dtf (σ 1) n wt m = none → ∀ r1, Q (-9) (va_up σ 1 r1)) : Mi E mX8_daysTillFall [.ref (ad E 0 0), .int wt, .int (nI m)] σ Q := by
  have hn6 := hW.2.1
  refine Mw_of (L0 := [some (.ref (ad E 0 0)), some (.int wt), some (.int (nI m)), none]) pn_X8 rfl rfl (Nat.le_of_ble_eq_true rfl) ?_
  refine r_iconst (0) dX8_daysTillFall_0 rfl ?_
  refine r_istore_n_3 dX8_daysTillFall_1 rfl ?_
  have LOOP : ∀ k, k ≤ m + 1 → dtf (σ 1) n wt m = fnd (fun k => !(fel (dayN 0 n (σ 1) k) n &&& wt == 0)) k (m + 1 - k) → GW E (ZM E 4 fun v σ' => ∃ r, v = some (.int r) ∧ Q r σ') mX8_daysTillFall 2 [some (.ref (ad E 0 0)), some (.int wt), some (.int (nI m)), some (.int (nI k))] [] (va_up σ 1 (dayN 0 n (σ 1) (k - 1))) := by
    refine down ?_ ?_
    · intro hf
      refine r_iload_n dX8_daysTillFall_2 rfl ?_
      refine r_iload_n dX8_daysTillFall_3 rfl ?_
      refine r_icmp_gt_N 41 dX8_daysTillFall_4 rfl (by omega) (by omega) (fun h4 => ?_) (fun h4 => ?_)
      · refine r_bipush (-9) dX8_daysTillFall_41 rfl ?_
        refine r_ireturn rfl (by first | rfl | exact nar_bi _ | assumption) dX8_daysTillFall_43 ⟨_, rfl, ?_⟩
        exact Kn (by rw [hf, Nat.sub_self]; rfl) _
      · exfalso; omega
    · intro k hk ih hf
      rw [show m + 1 - k = (m + 1 - (k + 1)) + 1 by omega, fnd] at hf
      have key : GW E (ZM E 4 fun v σ' => ∃ r, v = some (.int r) ∧ Q r σ') mX8_daysTillFall 21 [some (.ref (ad E 0 0)), some (.int wt), some (.int (nI m)), some (.int (nI k))] [] (va_up σ 1 (dayN 0 n (σ 1) k)) := by
        refine r_aload_n dX8_daysTillFall_21 rfl ?_
        refine getX8_16 rfl dX8_daysTillFall_22 ?_
        refine cVN_i0 fX1_whoFell (rcv_1 (by omega)) lkX8_166 rfl dX8_daysTillFall_25 (sp_X1_whoFell (by omega) (by rw [up_at]; exact (dayN_WF hW k).1) hn6 ?_)
        rw [up_at]
        refine r_iload_n dX8_daysTillFall_28 rfl ?_
        refine r_iand dX8_daysTillFall_29 ?_
        refine r_if_eq 35 dX8_daysTillFall_30 rfl (fun h30 => ?_) (fun h30 => ?_)
        · refine r_inc1_3 dX8_daysTillFall_35 rfl ?_
          refine r_goto 2 dX8_daysTillFall_38 rfl ?_
          exact ih (by rw [hf, if_neg (by simp [h30])])
        · refine r_iload_n dX8_daysTillFall_33 rfl ?_
          refine r_ireturn rfl (by first | rfl | exact nar_bi _ | assumption) dX8_daysTillFall_34 ⟨_, rfl, ?_⟩
          exact Ks k (by rw [hf, if_pos (by simp [h30])])
      refine r_iload_n dX8_daysTillFall_2 rfl ?_
      refine r_iload_n dX8_daysTillFall_3 rfl ?_
      refine r_icmp_gt_N 41 dX8_daysTillFall_4 rfl (by omega) (by omega) (fun h4 => ?_) (fun h4 => ?_)
      · exfalso; omega
      · refine r_iload_n dX8_daysTillFall_7 rfl ?_
        refine r_if_le 21 dX8_daysTillFall_8 rfl (fun h8 => ?_) (fun h8 => ?_)
        · have hk0 : k = 0 := by
            refine Nat.le_zero.mp (Nat.not_lt.mp (fun h => nI_nle h (by omega) h8))
          rw [hk0] at key ⊢
          exact key
        · have hk0 : 0 < k := Nat.pos_of_ne_zero (fun e => h8 (by rw [e]; decide))
          refine r_aload_n dX8_daysTillFall_11 rfl ?_
          refine getX8_16 rfl dX8_daysTillFall_12 ?_
          refine r_iconst (1) dX8_daysTillFall_15 rfl ?_
          refine r_iconst (0) dX8_daysTillFall_16 rfl ?_
          refine cVN_i2 fX1_passDays (rcv_1 (by omega)) lkX8_151 rfl dX8_daysTillFall_17 (sp_X1_passDays (m := 1) (by omega) (by rw [up_at]; exact dayN_WF hW _) (by omega) ?_)
          rw [up_at, up_up, dayN_1, Nat.sub_add_cancel hk0]
          refine r_pop dX8_daysTillFall_20 rfl ?_
          exact key
  refine r_sub ?_ (LOOP 0 (by omega) rfl)
  exact up_same.symm
end PUBE
