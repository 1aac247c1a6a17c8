/-! ===== the telling, the class's statements ===== -/
section TELL2
variable {E : EnvT} {σ : Sg} {Q : Int32 → Sg → Prop} {Qv : Sg → Prop} {Qr : Nat → Sg → Prop}
theorem nI_2 (a : Nat) : nI a + 2 = nI (a + 2) := nI_add a 2
theorem nI_3 (a : Nat) : nI a + 3 = nI (a + 3) := nI_add a 3
def rnR (o : RN) (r : Row) : Row := match o with
  | none => r
  | some x => x.1
theorem rnR_none {r : Row} : va_up σ 1 (rnR none (σ 1)) = σ := up_same
theorem kdI_some {x : Nat} (h : (kd x).isSome = true) : kdI x = oI (kd x) := by
  unfold kdI oI
  cases hk : kd x with
  | none => rw [hk] at h; cases h
  | some k => rfl
theorem sp_X5_hires {c : Nat → Nat} {N p n : Nat} (hL : LT σ c N) (hW : WF (σ 1) n) (hT : TX c N p) (hp : c p = 119) (K : Q (bi (stW c p (σ 1) n).isSome) (va_up σ 1 (rnR (stW c p (σ 1) n) (σ 1)))) : Mi E mX5_hires [.ref (ad E 14 0), .int (nI p), .ref (ad E 1 1)] σ Q := by
  have hn6 := hW.2.1
  obtain ⟨l1, l2, l3, l4⟩ := id hL
  have hs : shp (c p) = 0 := by rw [hp]; rfl
  obtain ⟨k1, k2⟩ := TX_k hT hs
  have d2 : dgt c N (p + 2) := TX_d (k := 1) hT hs (by decide) rfl rfl
  have d3 : dgt c N (p + 3) := TX_d (k := 2) hT hs (by decide) rfl rfl
  have d4 : dgt c N (p + 3 + 1) := TX_d (k := 3) hT hs (by decide) rfl rfl
  have d5 : dgt c N (p + 3 + 2) := TX_d (k := 4) hT hs (by decide) rfl rfl
  have n3 := num3 d3 d4 d5
  have hpN := hT.1
  have FAIL : stW c p (σ 1) n = none → ∀ y3 y4 y5, GW E (ZM E 7 fun v σ' => ∃ r, v = some (.int r) ∧ Q r σ') mX5_hires 67 [some (.ref (ad E 14 0)), some (.int (nI p)), some (.ref (ad E 1 1)), y3, y4, y5] [] σ := by
    intro hf y3 y4 y5
    rw [hf] at K
    refine r_iconst (0) dX5_hires_67 rfl ?_
    refine r_ireturn rfl (by first | rfl | exact nar_bi _ | assumption) dX5_hires_68 ⟨_, rfl, ?_⟩
    exact qof K rfl up_same.symm
  refine Mw_of (L0 := [some (.ref (ad E 14 0)), some (.int (nI p)), some (.ref (ad E 1 1)), none, none, none]) pn_X5 rfl rfl (Nat.le_of_ble_eq_true rfl) ?_
  refine r_iload_n dX5_hires_0 rfl ?_
  refine r_iconst (1) dX5_hires_1 rfl ?_
  refine r_iadd dX5_hires_2 ?_
  rw [nI_1]
  refine r_aload_n dX5_hires_3 rfl ?_
  refine getX5_15 rfl dX5_hires_4 ?_
  rw [l3]
  refine r_icmp_ge_N 26 dX5_hires_7 rfl (by omega) (by omega) (fun h7 => ?_) (fun h7 => ?_)
  · exfalso; omega
  · refine r_ldcS (i := 4) (by omega) rfl dX5_hires_10 ?_
    refine r_aload_n dX5_hires_12 rfl ?_
    refine getX5_9 rfl dX5_hires_13 ?_
    refine r_iload_n dX5_hires_16 rfl ?_
    refine r_iconst (1) dX5_hires_17 rfl ?_
    refine r_iadd dX5_hires_18 ?_
    rw [nI_1]
    refine ld_15  (by omega) dX5_hires_19 ?_
    rw [l1]
    refine cV_i1 fJ0_indexOf_0f7a4 (rcv_str (by omega)) lkX5_54 rfl dX5_hires_20 (sp_J0_indexOf_0f7a4 (l2 _) ?_)
    rw [kdI_some k2]
    refine r_goto 28 dX5_hires_23 rfl ?_
    refine r_istore_n_3 dX5_hires_28 rfl ?_
    refine r_aload_n dX5_hires_29 rfl ?_
    refine r_iload_n dX5_hires_30 rfl ?_
    refine r_iconst (2) dX5_hires_31 rfl ?_
    refine r_iadd dX5_hires_32 ?_
    rw [nI_2]
    refine r_iconst (1) dX5_hires_33 rfl ?_
    refine cV_i2 fX5_number rcv_14 lkX5_74 rfl dX5_hires_34 (sp_num1 hL (by omega) d2 ?_)
    refine r_istore_4 dX5_hires_37 rfl ?_
    refine r_aload_n dX5_hires_39 rfl ?_
    refine r_iload_n dX5_hires_40 rfl ?_
    refine r_iconst (3) dX5_hires_41 rfl ?_
    refine r_iadd dX5_hires_42 ?_
    rw [nI_3]
    refine r_iconst (3) dX5_hires_43 rfl ?_
    refine cV_i2 fX5_number rcv_14 lkX5_74 rfl dX5_hires_44 (sp_num3 hL (by omega) d3 d4 d5 ?_)
    refine r_istore_5 dX5_hires_47 rfl ?_
    refine r_iload_n dX5_hires_49 rfl ?_
    refine r_if_lt 67 dX5_hires_50 rfl (fun h50 => ?_) (fun h50 => ?_)
    · exact absurd (kdI_neg.mp (by rw [kdI_some k2]; exact h50)) (by rw [k2]; decide)
    · refine r_iload dX5_hires_53 rfl ?_
      refine r_bipush (127) dX5_hires_55 rfl ?_
      refine r_icmp_gt_N (b := 127) 67 dX5_hires_57 rfl (by omega) (by omega) (fun h57 => ?_) (fun h57 => ?_)
      · exact FAIL (by unfold stW; rw [if_neg (by omega)]) _ _ _
      · refine r_aload_n dX5_hires_60 rfl ?_
        refine cVN_i0 fX1_hasRoom (rcv_1 (by omega)) lkX5_78 rfl dX5_hires_61 (sp_X1_hasRoom (by omega) hW.1 hn6 ?_)
        refine r_if_ne 69 dX5_hires_64 rfl (fun h64 => ?_) (fun h64 => ?_)
        · have h6 : n < 6 := by have := tb_of h64; exact of_decide_eq_true this
          have e : stW c p (σ 1) n = some (hireR (σ 1) n (oI (kd (c (p + 1)))) (nI (num c (p + 2) 1)) (nI (num c (p + 3) 3)), n + 1) := by unfold stW; rw [if_pos ⟨h57, h6⟩]
          rw [e] at K
          refine r_aload_n dX5_hires_69 rfl ?_
          refine r_iload_n dX5_hires_70 rfl ?_
          refine r_iload dX5_hires_71 rfl ?_
          refine r_iload dX5_hires_73 rfl ?_
          refine cVN_v3 fX1_hire (rcv_1 (by omega)) lkX5_83 rfl dX5_hires_75 (sp_X1_hire (by omega) hW.1 h6 ?_)
          refine r_iconst (1) dX5_hires_78 rfl ?_
          refine r_ireturn rfl (by first | rfl | exact nar_bi _ | assumption) dX5_hires_79 ⟨_, rfl, ?_⟩
          exact K
        · have h6 : ¬ n < 6 := of_decide_eq_false ((bi_eq0 _).mp h64)
          exact FAIL (by unfold stW; rw [if_neg (by omega)]) _ _ _
theorem sp_X5_changesOff {c : Nat → Nat} {N p n : Nat} (hL : LT σ c N) (hW : WF (σ 1) n) (hT : TX c N p) (hp : c p = 111) (K : Q (bi (stO c p (σ 1) n).isSome) (va_up σ 1 (rnR (stO c p (σ 1) n) (σ 1)))) : Mi E mX5_changesOff [.ref (ad E 14 0), .int (nI p), .ref (ad E 1 1)] σ Q := by
  have hn6 := hW.2.1
  have hpN := hT.1
  have l4 := hL.2.2.2
  have hs : shp (c p) = 1 := by rw [hp]; rfl
  have d1 : dgt c N (p + 1) := TX_d (k := 0) hT hs (by decide) rfl rfl
  have d2 : dgt c N (p + 2) := TX_d (k := 1) hT hs (by decide) rfl rfl
  have n1 := num1 d1
  have n2 := num1 d2
  have FAIL : stO c p (σ 1) n = none → ∀ y3 y4, GW E (ZM E 1 fun v σ' => ∃ r, v = some (.int r) ∧ Q r σ') mX5_changesOff 35 [some (.ref (ad E 14 0)), some (.int (nI p)), some (.ref (ad E 1 1)), y3, y4] [] σ := by
    intro hf y3 y4
    rw [hf] at K
    refine r_iconst (0) dX5_changesOff_35 rfl ?_
    refine r_ireturn rfl (by first | rfl | exact nar_bi _ | assumption) dX5_changesOff_36 ⟨_, rfl, ?_⟩
    exact qof K rfl up_same.symm
  refine Mw_of (L0 := [some (.ref (ad E 14 0)), some (.int (nI p)), some (.ref (ad E 1 1)), none, none]) pn_X5 rfl rfl (Nat.le_of_ble_eq_true rfl) ?_
  refine r_aload_n dX5_changesOff_0 rfl ?_
  refine r_iload_n dX5_changesOff_1 rfl ?_
  refine r_iconst (1) dX5_changesOff_2 rfl ?_
  refine r_iadd dX5_changesOff_3 ?_
  rw [nI_1]
  refine r_iconst (1) dX5_changesOff_4 rfl ?_
  refine cV_i2 fX5_number rcv_14 lkX5_74 rfl dX5_changesOff_5 (sp_num1 hL (by omega) d1 ?_)
  refine r_istore_n_3 dX5_changesOff_8 rfl ?_
  refine r_aload_n dX5_changesOff_9 rfl ?_
  refine r_iload_n dX5_changesOff_10 rfl ?_
  refine r_iconst (2) dX5_changesOff_11 rfl ?_
  refine r_iadd dX5_changesOff_12 ?_
  rw [nI_2]
  refine r_iconst (1) dX5_changesOff_13 rfl ?_
  refine cV_i2 fX5_number rcv_14 lkX5_74 rfl dX5_changesOff_14 (sp_num1 hL (by omega) d2 ?_)
  refine r_istore_4 dX5_changesOff_17 rfl ?_
  refine r_aload_n dX5_changesOff_19 rfl ?_
  refine r_iload_n dX5_changesOff_20 rfl ?_
  refine cVN_i1 fX1_has (rcv_1 (by omega)) lkX5_87 rfl dX5_changesOff_21 (sp_X1_has (by omega) hW.1 ?_)
  rw [hasW_i (by omega) hn6]
  refine r_if_eq 35 dX5_changesOff_24 rfl (fun h24 => ?_) (fun h24 => ?_)
  · have hc := of_decide_eq_false ((bi_eq0 _).mp h24)
    exact FAIL (by unfold stO; rw [if_neg (by omega)]) _ _
  · have hc := of_decide_eq_true (tb_of h24)
    refine r_iload dX5_changesOff_27 rfl ?_
    refine cSN_i1 fX8_isWeekday lkX5_91 rfl dX5_changesOff_29 (sp_X8_isWeekday  ?_)
    change GW _ _ _ _ _ [.int (bi (isWd _))] _; rw [isWd_i (by omega)]
    refine r_if_ne 37 dX5_changesOff_32 rfl (fun h32 => ?_) (fun h32 => ?_)
    · have hw := of_decide_eq_true (tb_of h32)
      have e : stO c p (σ 1) n = some (frR (σ 1) (num c (p + 1) 1) (nI (num c (p + 2) 1)), n) := by unfold stO; rw [if_pos ⟨hc, hw⟩]
      rw [e] at K
      refine r_aload_n dX5_changesOff_37 rfl ?_
      refine r_iload_n dX5_changesOff_38 rfl ?_
      refine r_iload dX5_changesOff_39 rfl ?_
      refine cVN_v2 fX1_change (rcv_1 (by omega)) lkX5_94 rfl dX5_changesOff_41 (sp_X1_change (by omega) (by omega) ?_)
      refine r_iconst (1) dX5_changesOff_44 rfl ?_
      refine r_ireturn rfl (by first | rfl | exact nar_bi _ | assumption) dX5_changesOff_45 ⟨_, rfl, ?_⟩
      exact K
    · have hw := of_decide_eq_false ((bi_eq0 _).mp h32)
      exact FAIL (by unfold stO; rw [if_neg (by omega)]) _ _
theorem sp_X5_setsTired {c : Nat → Nat} {N p n : Nat} (hL : LT σ c N) (hW : WF (σ 1) n) (hT : TX c N p) (hp : c p = 116) (K : Q (bi (stT c p (σ 1) n).isSome) (va_up σ 1 (rnR (stT c p (σ 1) n) (σ 1)))) : Mi E mX5_setsTired [.ref (ad E 14 0), .int (nI p), .ref (ad E 1 1)] σ Q := by
  have hn6 := hW.2.1
  have hpN := hT.1
  have l4 := hL.2.2.2
  have hs : shp (c p) = 2 := by rw [hp]; rfl
  have d1 : dgt c N (p + 1) := TX_d (k := 0) hT hs (by decide) rfl rfl
  have d2 : dgt c N (p + 2) := TX_d (k := 1) hT hs (by decide) rfl rfl
  have d3 : dgt c N (p + 2 + 1) := TX_d (k := 2) hT hs (by decide) rfl rfl
  have n1 := num1 d1
  have n2 := num2 d2 d3
  have FAIL : stT c p (σ 1) n = none → ∀ y3 y4, GW E (ZM E 1 fun v σ' => ∃ r, v = some (.int r) ∧ Q r σ') mX5_setsTired 34 [some (.ref (ad E 14 0)), some (.int (nI p)), some (.ref (ad E 1 1)), y3, y4] [] σ := by
    intro hf y3 y4
    rw [hf] at K
    refine r_iconst (0) dX5_setsTired_34 rfl ?_
    refine r_ireturn rfl (by first | rfl | exact nar_bi _ | assumption) dX5_setsTired_35 ⟨_, rfl, ?_⟩
    exact qof K rfl up_same.symm
  refine Mw_of (L0 := [some (.ref (ad E 14 0)), some (.int (nI p)), some (.ref (ad E 1 1)), none, none]) pn_X5 rfl rfl (Nat.le_of_ble_eq_true rfl) ?_
  refine r_aload_n dX5_setsTired_0 rfl ?_
  refine r_iload_n dX5_setsTired_1 rfl ?_
  refine r_iconst (1) dX5_setsTired_2 rfl ?_
  refine r_iadd dX5_setsTired_3 ?_
  rw [nI_1]
  refine r_iconst (1) dX5_setsTired_4 rfl ?_
  refine cV_i2 fX5_number rcv_14 lkX5_74 rfl dX5_setsTired_5 (sp_num1 hL (by omega) d1 ?_)
  refine r_istore_n_3 dX5_setsTired_8 rfl ?_
  refine r_aload_n dX5_setsTired_9 rfl ?_
  refine r_iload_n dX5_setsTired_10 rfl ?_
  refine r_iconst (2) dX5_setsTired_11 rfl ?_
  refine r_iadd dX5_setsTired_12 ?_
  rw [nI_2]
  refine r_iconst (2) dX5_setsTired_13 rfl ?_
  refine cV_i2 fX5_number rcv_14 lkX5_74 rfl dX5_setsTired_14 (sp_num2 hL (by omega) d2 d3 ?_)
  refine r_istore_4 dX5_setsTired_17 rfl ?_
  refine r_aload_n dX5_setsTired_19 rfl ?_
  refine r_iload_n dX5_setsTired_20 rfl ?_
  refine cVN_i1 fX1_has (rcv_1 (by omega)) lkX5_87 rfl dX5_setsTired_21 (sp_X1_has (by omega) hW.1 ?_)
  rw [hasW_i (by omega) hn6]
  refine r_if_eq 34 dX5_setsTired_24 rfl (fun h24 => ?_) (fun h24 => ?_)
  · have hc := of_decide_eq_false ((bi_eq0 _).mp h24)
    exact FAIL (by unfold stT; rw [if_neg (by omega)]) _ _
  · have hc := of_decide_eq_true (tb_of h24)
    refine r_iload dX5_setsTired_27 rfl ?_
    refine r_bipush (30) dX5_setsTired_29 rfl ?_
    refine r_icmp_le_N (b := 30) 36 dX5_setsTired_31 rfl (by omega) (by omega) (fun h31 => ?_) (fun h31 => ?_)
    · have e : stT c p (σ 1) n = some (upd (σ 1) (6 + 5 * num c (p + 1) 1) (nI (num c (p + 2) 2)), n) := by unfold stT; rw [if_pos ⟨hc, h31⟩]
      rw [e] at K
      refine r_aload_n dX5_setsTired_36 rfl ?_
      refine getX5_98 (by omega) rfl dX5_setsTired_37 ?_
      refine r_iload_n dX5_setsTired_40 rfl ?_
      refine r_iload dX5_setsTired_41 rfl ?_
      refine st_12  (by omega) (by omega) dX5_setsTired_43 ?_
      refine r_iconst (1) dX5_setsTired_44 rfl ?_
      refine r_ireturn rfl (by first | rfl | exact nar_bi _ | assumption) dX5_setsTired_45 ⟨_, rfl, ?_⟩
      exact K
    · exact FAIL (by unfold stT; rw [if_neg (by omega)]) _ _
theorem sp_X5_handsOver {c : Nat → Nat} {N p n : Nat} (hL : LT σ c N) (hW : WF (σ 1) n) (hT : TX c N p) (hp : c p = 120) (K : Q (bi (stX c p (σ 1) n).isSome) (va_up σ 1 (rnR (stX c p (σ 1) n) (σ 1)))) : Mi E mX5_handsOver [.ref (ad E 14 0), .int (nI p), .ref (ad E 1 1)] σ Q := by
  have hn6 := hW.2.1
  have hpN := hT.1
  have l4 := hL.2.2.2
  have hs : shp (c p) = 2 := by rw [hp]; rfl
  have d1 : dgt c N (p + 1) := TX_d (k := 0) hT hs (by decide) rfl rfl
  have d2 : dgt c N (p + 2) := TX_d (k := 1) hT hs (by decide) rfl rfl
  have d3 : dgt c N (p + 3) := TX_d (k := 2) hT hs (by decide) rfl rfl
  have n1 := num1 d1
  have n2 := num1 d2
  have n3 := num1 d3
  have FAIL : stX c p (σ 1) n = none → ∀ y3 y4 y5, GW E (ZM E 3 fun v σ' => ∃ r, v = some (.int r) ∧ Q r σ') mX5_handsOver 60 [some (.ref (ad E 14 0)), some (.int (nI p)), some (.ref (ad E 1 1)), y3, y4, y5] [] σ := by
    intro hf y3 y4 y5
    rw [hf] at K
    refine r_iconst (0) dX5_handsOver_60 rfl ?_
    refine r_ireturn rfl (by first | rfl | exact nar_bi _ | assumption) dX5_handsOver_61 ⟨_, rfl, ?_⟩
    exact qof K rfl up_same.symm
  refine Mw_of (L0 := [some (.ref (ad E 14 0)), some (.int (nI p)), some (.ref (ad E 1 1)), none, none, none]) pn_X5 rfl rfl (Nat.le_of_ble_eq_true rfl) ?_
  refine r_aload_n dX5_handsOver_0 rfl ?_
  refine r_iload_n dX5_handsOver_1 rfl ?_
  refine r_iconst (1) dX5_handsOver_2 rfl ?_
  refine r_iadd dX5_handsOver_3 ?_
  rw [nI_1]
  refine r_iconst (1) dX5_handsOver_4 rfl ?_
  refine cV_i2 fX5_number rcv_14 lkX5_74 rfl dX5_handsOver_5 (sp_num1 hL (by omega) d1 ?_)
  refine r_istore_n_3 dX5_handsOver_8 rfl ?_
  refine r_aload_n dX5_handsOver_9 rfl ?_
  refine r_iload_n dX5_handsOver_10 rfl ?_
  refine r_iconst (2) dX5_handsOver_11 rfl ?_
  refine r_iadd dX5_handsOver_12 ?_
  rw [nI_2]
  refine r_iconst (1) dX5_handsOver_13 rfl ?_
  refine cV_i2 fX5_number rcv_14 lkX5_74 rfl dX5_handsOver_14 (sp_num1 hL (by omega) d2 ?_)
  refine r_istore_4 dX5_handsOver_17 rfl ?_
  refine r_aload_n dX5_handsOver_19 rfl ?_
  refine r_iload_n dX5_handsOver_20 rfl ?_
  refine r_iconst (3) dX5_handsOver_21 rfl ?_
  refine r_iadd dX5_handsOver_22 ?_
  rw [nI_3]
  refine r_iconst (1) dX5_handsOver_23 rfl ?_
  refine cV_i2 fX5_number rcv_14 lkX5_74 rfl dX5_handsOver_24 (sp_num1 hL (by omega) d3 ?_)
  refine r_istore_5 dX5_handsOver_27 rfl ?_
  refine r_aload_n dX5_handsOver_29 rfl ?_
  refine r_iload_n dX5_handsOver_30 rfl ?_
  refine cVN_i1 fX1_has (rcv_1 (by omega)) lkX5_87 rfl dX5_handsOver_31 (sp_X1_has (by omega) hW.1 ?_)
  rw [hasW_i (by omega) hn6]
  refine r_if_eq 60 dX5_handsOver_34 rfl (fun h34 => ?_) (fun h34 => ?_)
  · have hc := of_decide_eq_false ((bi_eq0 _).mp h34)
    exact FAIL (by unfold stX; rw [if_neg (fun q => hc q.1.1)]) _ _ _
  · have hc1 := of_decide_eq_true (tb_of h34)
    refine r_aload_n dX5_handsOver_37 rfl ?_
    refine r_iload dX5_handsOver_38 rfl ?_
    refine cVN_i1 fX1_has (rcv_1 (by omega)) lkX5_87 rfl dX5_handsOver_40 (sp_X1_has (by omega) hW.1 ?_)
    rw [hasW_i (by omega) hn6]
    refine r_if_eq 60 dX5_handsOver_43 rfl (fun h43 => ?_) (fun h43 => ?_)
    · have hc := of_decide_eq_false ((bi_eq0 _).mp h43)
      exact FAIL (by unfold stX; rw [if_neg (fun q => hc q.1.2.1)]) _ _ _
    · have hc2 := of_decide_eq_true (tb_of h43)
      refine r_iload_n dX5_handsOver_46 rfl ?_
      refine r_iload dX5_handsOver_47 rfl ?_
      refine r_icmp_eq 60 dX5_handsOver_49 rfl (fun h49 => ?_) (fun h49 => ?_)
      · have he := (nI_eq (by omega) (by omega)).mp h49
        exact FAIL (by unfold stX; rw [if_neg (fun q => q.1.2.2.1 he)]) _ _ _
      · have he : num c (p + 1) 1 ≠ num c (p + 2) 1 := fun q => h49 (by rw [q])
        refine r_iload dX5_handsOver_52 rfl ?_
        refine cSN_i1 fX8_isWeekday lkX5_91 rfl dX5_handsOver_54 (sp_X8_isWeekday  ?_)
        change GW _ _ _ _ _ [.int (bi (isWd _))] _; rw [isWd_i (by omega)]
        refine r_if_ne 62 dX5_handsOver_57 rfl (fun h57 => ?_) (fun h57 => ?_)
        · have hw := of_decide_eq_true (tb_of h57)
          refine r_aload_n dX5_handsOver_62 rfl ?_
          refine r_iload_n dX5_handsOver_63 rfl ?_
          refine r_iload dX5_handsOver_64 rfl ?_
          refine r_iload dX5_handsOver_66 rfl ?_
          refine cVN_i3 fX1_canHand (rcv_1 (by omega)) lkX5_102 rfl dX5_handsOver_68 (sp_X1_canHand (by omega) (by omega) (by omega) ?_)
          refine r_if_ne 76 dX5_handsOver_71 rfl (fun h71 => ?_) (fun h71 => ?_)
          · have hg := tb_of h71
            have e : stX c p (σ 1) n = some (mvd (σ 1) (num c (p + 1) 1) (num c (p + 2) 1) (nI (num c (p + 3) 1)), n) := by unfold stX; rw [if_pos ⟨⟨hc1, hc2, he, hw⟩, hg⟩]
            rw [e] at K
            have hg' := hg
            simp only [Bool.and_eq_true, Bool.not_eq_true'] at hg'
            rw [tb_bt _ (by omega), tb_bt _ (by omega)] at hg'
            refine r_aload_n dX5_handsOver_76 rfl ?_
            refine r_iload_n dX5_handsOver_77 rfl ?_
            refine r_iload dX5_handsOver_78 rfl ?_
            refine r_iload dX5_handsOver_80 rfl ?_
            refine cVN_v3 fX1_hand (rcv_1 (by omega)) lkX5_106 rfl dX5_handsOver_82 (sp_X1_hand (by omega) (by omega) (by omega) ?_)
            rw [hnd_mvd (by omega) (Ne.symm he) hg'.1 hg'.2]
            refine r_iconst (1) dX5_handsOver_85 rfl ?_
            refine r_ireturn rfl (by first | rfl | exact nar_bi _ | assumption) dX5_handsOver_86 ⟨_, rfl, ?_⟩
            exact K
          · have hg := (bi_eq0 _).mp h71
            have e : stX c p (σ 1) n = none := by unfold stX; rw [if_neg (fun q => by rw [hg] at q; cases q.2)]
            rw [e] at K
            refine r_iconst (0) dX5_handsOver_74 rfl ?_
            refine r_ireturn rfl (by first | rfl | exact nar_bi _ | assumption) dX5_handsOver_75 ⟨_, rfl, ?_⟩
            exact qof K rfl up_same.symm
        · have hw := of_decide_eq_false ((bi_eq0 _).mp h57)
          exact FAIL (by unfold stX; rw [if_neg (fun q => hw q.1.2.2.2)]) _ _ _
theorem sp_X5_letsPass {c : Nat → Nat} {N p n : Nat} (hL : LT σ c N) (hW : WF (σ 1) n) (hT : TX c N p) (hp : c p = 100) (K : Q (bi (stD c p (σ 1) n).isSome) (va_up σ 1 (rnR (stD c p (σ 1) n) (σ 1)))) : Mi E mX5_letsPass [.ref (ad E 14 0), .int (nI p), .ref (ad E 1 1)] σ Q := by
  have hn6 := hW.2.1
  have hpN := hT.1
  have l4 := hL.2.2.2
  have hs : shp (c p) = 1 := by rw [hp]; rfl
  have d1 : dgt c N (p + 1) := TX_d (k := 0) hT hs (by decide) rfl rfl
  have d2 : dgt c N (p + 1 + 1) := TX_d (k := 1) hT hs (by decide) rfl rfl
  have n2 := num2 d1 d2
  have FAIL : stD c p (σ 1) n = none → ∀ y3, GW E (ZM E 4 fun v σ' => ∃ r, v = some (.int r) ∧ Q r σ') mX5_letsPass 32 [some (.ref (ad E 14 0)), some (.int (nI p)), some (.ref (ad E 1 1)), y3] [] σ := by
    intro hf y3
    rw [hf] at K
    refine r_iconst (0) dX5_letsPass_32 rfl ?_
    refine r_ireturn rfl (by first | rfl | exact nar_bi _ | assumption) dX5_letsPass_33 ⟨_, rfl, ?_⟩
    exact qof K rfl up_same.symm
  refine Mw_of (L0 := [some (.ref (ad E 14 0)), some (.int (nI p)), some (.ref (ad E 1 1)), none]) pn_X5 rfl rfl (Nat.le_of_ble_eq_true rfl) ?_
  refine r_aload_n dX5_letsPass_0 rfl ?_
  refine r_iload_n dX5_letsPass_1 rfl ?_
  refine r_iconst (1) dX5_letsPass_2 rfl ?_
  refine r_iadd dX5_letsPass_3 ?_
  rw [nI_1]
  refine r_iconst (2) dX5_letsPass_4 rfl ?_
  refine cV_i2 fX5_number rcv_14 lkX5_74 rfl dX5_letsPass_5 (sp_num2 hL (by omega) d1 d2 ?_)
  refine r_istore_n_3 dX5_letsPass_8 rfl ?_
  refine r_iload_n dX5_letsPass_9 rfl ?_
  refine r_iconst (1) dX5_letsPass_10 rfl ?_
  refine r_icmp_lt_N (b := 1) 32 dX5_letsPass_11 rfl (by omega) (by omega) (fun h11 => ?_) (fun h11 => ?_)
  · exact FAIL (by unfold stD; rw [if_neg (by omega)]) _
  · refine r_iload_n dX5_letsPass_14 rfl ?_
    refine r_bipush (60) dX5_letsPass_15 rfl ?_
    refine r_icmp_gt_N (b := 60) 32 dX5_letsPass_17 rfl (by omega) (by omega) (fun h17 => ?_) (fun h17 => ?_)
    · exact FAIL (by unfold stD; rw [if_neg (by omega)]) _
    · refine r_aload_n dX5_letsPass_20 rfl ?_
      refine getX5_109 (by omega) rfl dX5_letsPass_21 ?_
      refine r_iload_n dX5_letsPass_24 rfl ?_
      refine r_iadd dX5_letsPass_25 ?_
      refine r_sipush (999) dX5_letsPass_26 rfl ?_
      refine r_icmp_le 34 dX5_letsPass_29 rfl (fun h29 => ?_) (fun h29 => ?_)
      · have e : stD c p (σ 1) n = some (dayN 0 n (σ 1) (num c (p + 1) 2), n) := by unfold stD; rw [if_pos ⟨h11, h17, h29⟩]
        rw [e] at K
        refine r_aload_n dX5_letsPass_34 rfl ?_
        refine r_iload_n dX5_letsPass_35 rfl ?_
        refine r_iconst (0) dX5_letsPass_36 rfl ?_
        refine cVN_i2 fX1_passDays (rcv_1 (by omega)) lkX5_112 rfl dX5_letsPass_37 (sp_X1_passDays (by omega) hW (by omega) ?_)
        refine r_pop dX5_letsPass_40 rfl ?_
        refine r_iconst (1) dX5_letsPass_41 rfl ?_
        refine r_ireturn rfl (by first | rfl | exact nar_bi _ | assumption) dX5_letsPass_42 ⟨_, rfl, ?_⟩
        exact K
      · exact FAIL (by unfold stD; rw [if_neg (fun q => h29 q.2.2)]) _
theorem lk2 : ∀ x, x < 256 → Op.lookupswitch.offset [(100, 78), (111, 57), (116, 64), (119, 50), (120, 71)] 85 (nI x).toInt = if x = 119 then 50 else if x = 111 then 57 else if x = 116 then 64 else if x = 120 then 71 else if x = 100 then 78 else 85 := by decide +kernel
theorem sp_X5_isObeyed {c : Nat → Nat} {N p n : Nat} (hL : LT σ c N) (hW : WF (σ 1) n) (hT : TX c N p) (K : Q (bi (stm c p (σ 1) n).isSome) (va_up σ 1 (rnR (stm c p (σ 1) n) (σ 1)))) : Mi E mX5_isObeyed [.ref (ad E 14 0), .int (nI p), .ref (ad E 1 1)] σ Q := by
  obtain ⟨l1, l2, l3, l4⟩ := id hL
  have hpN := hT.1
  have e := lk2 (c p) (l2 p)
  unfold stm at K
  refine Mw_of (L0 := [some (.ref (ad E 14 0)), some (.int (nI p)), some (.ref (ad E 1 1))]) pn_X5 rfl rfl (Nat.le_of_ble_eq_true rfl) ?_
  refine r_iload_n dX5_isObeyed_0 rfl ?_
  refine r_aload_n dX5_isObeyed_1 rfl ?_
  refine getX5_15 rfl dX5_isObeyed_2 ?_
  rw [l3]
  refine r_icmp_ge_N 17 dX5_isObeyed_5 rfl (by omega) (by omega) (fun h5 => ?_) (fun h5 => ?_)
  · exfalso; omega
  · refine r_aload_n dX5_isObeyed_8 rfl ?_
    refine getX5_9 rfl dX5_isObeyed_9 ?_
    refine r_iload_n dX5_isObeyed_12 rfl ?_
    refine ld_15  (by omega) dX5_isObeyed_13 ?_
    rw [l1]
    refine r_goto 18 dX5_isObeyed_14 rfl ?_
    by_cases h1 : c p = 119
    · rw [if_pos h1] at e K
      refine r_lookup 50 68 dX5_isObeyed_18 (by decide) e rfl ?_
      refine r_aload_n dX5_isObeyed_68 rfl ?_
      refine r_iload_n dX5_isObeyed_69 rfl ?_
      refine r_aload_n dX5_isObeyed_70 rfl ?_
      refine cV_i2 fX5_hires rcv_14 lkX5_58 rfl dX5_isObeyed_71 (sp_X5_hires hL hW hT h1 ?_)
      refine r_ireturn rfl (by first | rfl | exact nar_bi _ | assumption) dX5_isObeyed_74 ⟨_, rfl, ?_⟩
      exact K
    · rw [if_neg h1] at e K
      by_cases h2 : c p = 111
      · rw [if_pos h2] at e K
        refine r_lookup 57 75 dX5_isObeyed_18 (by decide) e rfl ?_
        refine r_aload_n dX5_isObeyed_75 rfl ?_
        refine r_iload_n dX5_isObeyed_76 rfl ?_
        refine r_aload_n dX5_isObeyed_77 rfl ?_
        refine cV_i2 fX5_changesOff rcv_14 lkX5_62 rfl dX5_isObeyed_78 (sp_X5_changesOff hL hW hT h2 ?_)
        refine r_ireturn rfl (by first | rfl | exact nar_bi _ | assumption) dX5_isObeyed_81 ⟨_, rfl, ?_⟩
        exact K
      · rw [if_neg h2] at e K
        by_cases h3 : c p = 116
        · rw [if_pos h3] at e K
          refine r_lookup 64 82 dX5_isObeyed_18 (by decide) e rfl ?_
          refine r_aload_n dX5_isObeyed_82 rfl ?_
          refine r_iload_n dX5_isObeyed_83 rfl ?_
          refine r_aload_n dX5_isObeyed_84 rfl ?_
          refine cV_i2 fX5_setsTired rcv_14 lkX5_65 rfl dX5_isObeyed_85 (sp_X5_setsTired hL hW hT h3 ?_)
          refine r_ireturn rfl (by first | rfl | exact nar_bi _ | assumption) dX5_isObeyed_88 ⟨_, rfl, ?_⟩
          exact K
        · rw [if_neg h3] at e K
          by_cases h4 : c p = 120
          · rw [if_pos h4] at e K
            refine r_lookup 71 89 dX5_isObeyed_18 (by decide) e rfl ?_
            refine r_aload_n dX5_isObeyed_89 rfl ?_
            refine r_iload_n dX5_isObeyed_90 rfl ?_
            refine r_aload_n dX5_isObeyed_91 rfl ?_
            refine cV_i2 fX5_handsOver rcv_14 lkX5_68 rfl dX5_isObeyed_92 (sp_X5_handsOver hL hW hT h4 ?_)
            refine r_ireturn rfl (by first | rfl | exact nar_bi _ | assumption) dX5_isObeyed_95 ⟨_, rfl, ?_⟩
            exact K
          · rw [if_neg h4] at e K
            by_cases h5 : c p = 100
            · rw [if_pos h5] at e K
              refine r_lookup 78 96 dX5_isObeyed_18 (by decide) e rfl ?_
              refine r_aload_n dX5_isObeyed_96 rfl ?_
              refine r_iload_n dX5_isObeyed_97 rfl ?_
              refine r_aload_n dX5_isObeyed_98 rfl ?_
              refine cV_i2 fX5_letsPass rcv_14 lkX5_71 rfl dX5_isObeyed_99 (sp_X5_letsPass hL hW hT h5 ?_)
              refine r_ireturn rfl (by first | rfl | exact nar_bi _ | assumption) dX5_isObeyed_102 ⟨_, rfl, ?_⟩
              exact K
            · rw [if_neg h5] at e K
              refine r_lookup 85 103 dX5_isObeyed_18 (by decide) e rfl ?_
              refine r_iconst (0) dX5_isObeyed_103 rfl ?_
              refine r_ireturn rfl (by first | rfl | exact nar_bi _ | assumption) dX5_isObeyed_104 ⟨_, rfl, ?_⟩
              exact qof K rfl up_same.symm
/-- reading -/
def bad (c : Nat → Nat) (N p : Nat) : Option Nat := fnd (fun k => !(decide (p + 1 + k < N) && okn (sby (shp (ltr c N p)) k) (c (p + 1 + k)))) 0 (sln (shp (ltr c N p)))
def scn (c : Nat → Nat) (N : Nat) : Nat → Nat → Option Nat × Nat
  | 0, _ => (none, 0)
  | f + 1, p => if sln (shp (ltr c N p)) = 0 then (some p, 0) else match bad c N p with
    | some k => (some (p + 1 + k), 0)
    | none => if p + 1 + sln (shp (ltr c N p)) < N then ((scn c N f (p + 1 + sln (shp (ltr c N p)))).1, (scn c N f (p + 1 + sln (shp (ltr c N p)))).2 + 1) else (none, 1)
theorem sp_X5_firstWrongLetter {c : Nat → Nat} {N : Nat} (hL : LT σ c N) (K : Q (oI (scn c N (N + 1) 0).1) σ) : Mi E mX5_firstWrongLetter [.ref (ad E 14 0)] σ Q := by
  obtain ⟨l1, l2, l3, l4⟩ := id hL
  generalize hR : (scn c N (N + 1) 0).1 = R at K
  refine Mw_of (L0 := [some (.ref (ad E 14 0)), none, none, none]) pn_X5 rfl rfl (Nat.le_of_ble_eq_true rfl) ?_
  refine r_iconst (0) dX5_firstWrongLetter_0 rfl ?_
  refine r_istore_n_1 dX5_firstWrongLetter_1 rfl ?_
  have LOOP : ∀ f p, N < f + p → p ≤ N → R = (scn c N f p).1 → ∀ y2 y3, GW E (ZM E 8 fun v σ' => ∃ r, v = some (.int r) ∧ Q r σ') mX5_firstWrongLetter 2 [some (.ref (ad E 14 0)), some (.int (nI p)), y2, y3] [] σ := by
    intro f
    induction f with
    | zero => intro p h1 h2; exfalso; omega
    | succ f ih =>
      intro p h1 h2 hs y2 y3
      have hs4 := shp_lt (ltr c N p)
      have h6 := sln_lt (shp (ltr c N p))
      rw [scn] at hs
      refine r_aload_n dX5_firstWrongLetter_2 rfl ?_
      refine r_iload_n dX5_firstWrongLetter_3 rfl ?_
      refine cV_r1 fX5_shapeAt rcv_14 lkX5_23 rfl dX5_firstWrongLetter_4 (sp_X5_shapeAt hL (by omega) ?_)
      refine r_astore_n_2 dX5_firstWrongLetter_7 rfl ?_
      refine r_aload_n dX5_firstWrongLetter_8 rfl ?_
      refine cV_i0 fJ0_isEmpty_aae02 (rcv_str (by omega)) lkX5_27 rfl dX5_firstWrongLetter_9 (sp_J0_isEmpty_aae02 (by omega) ?_)
      refine r_if_eq 17 dX5_firstWrongLetter_12 rfl (fun h12 => ?_) (fun h12 => ?_)
      · have hz := of_decide_eq_false ((bi_eq0 _).mp h12)
        rw [if_neg hz] at hs
        refine r_iconst (0) dX5_firstWrongLetter_17 rfl ?_
        refine r_istore_n_3 dX5_firstWrongLetter_18 rfl ?_
        have INNER : ∀ k, k ≤ sln (shp (ltr c N p)) → bad c N p = fnd (fun k => !(decide (p + 1 + k < N) && okn (sby (shp (ltr c N p)) k) (c (p + 1 + k)))) k (sln (shp (ltr c N p)) - k) → p + k ≤ N → GW E (ZM E 8 fun v σ' => ∃ r, v = some (.int r) ∧ Q r σ') mX5_firstWrongLetter 19 [some (.ref (ad E 14 0)), some (.int (nI (p + k))), some (.ref (sK E (shp (ltr c N p)))), some (.int (nI k))] [] σ := by
          refine down ?_ ?_
          · intro hf hle
            rw [Nat.sub_self] at hf
            rw [hf] at hs
            refine r_iload_n dX5_firstWrongLetter_19 rfl ?_
            refine r_aload_n dX5_firstWrongLetter_20 rfl ?_
            refine cV_i0 fJ0_length_8abf5 (rcv_str (by omega)) lkX5_32 rfl dX5_firstWrongLetter_21 (sp_J0_length_8abf5 (by omega) ?_)
            refine r_icmp_ge_N 63 dX5_firstWrongLetter_24 rfl (by omega) (by omega) (fun h24 => ?_) (fun h24 => ?_)
            · refine r_inc1_1 dX5_firstWrongLetter_63 rfl ?_
              refine r_iload_n dX5_firstWrongLetter_66 rfl ?_
              refine r_aload_n dX5_firstWrongLetter_67 rfl ?_
              refine getX5_15 rfl dX5_firstWrongLetter_68 ?_
              rw [l3]
              refine r_icmp_lt_N 2 dX5_firstWrongLetter_71 rfl (by omega) (by omega) (fun h71 => ?_) (fun h71 => ?_)
              · have e1 : p + sln (shp (ltr c N p)) + 1 = p + 1 + sln (shp (ltr c N p)) := by omega
                dsimp only [fnd] at hs
                rw [e1] at h71 ⊢
                rw [if_pos h71] at hs
                exact ih _ (by omega) (by omega) hs _ _
              · dsimp only [fnd] at hs
                rw [if_neg (by omega)] at hs
                rw [hs] at K
                refine r_bipush (-9) dX5_firstWrongLetter_74 rfl ?_
                refine r_ireturn rfl (by first | rfl | exact nar_bi _ | assumption) dX5_firstWrongLetter_76 ⟨_, rfl, ?_⟩
                exact K
            · exfalso; omega
          · intro k hk ih2 hf hle
            rw [show sln (shp (ltr c N p)) - k = (sln (shp (ltr c N p)) - (k + 1)) + 1 by omega, fnd] at hf
            have FAIL : (decide (p + 1 + k < N) && okn (sby (shp (ltr c N p)) k) (c (p + 1 + k))) = false → GW E (ZM E 8 fun v σ' => ∃ r, v = some (.int r) ∧ Q r σ') mX5_firstWrongLetter 55 [some (.ref (ad E 14 0)), some (.int (nI (p + k + 1))), some (.ref (sK E (shp (ltr c N p)))), some (.int (nI k))] [] σ := by
              intro hb
              rw [if_pos (by rw [hb]; rfl)] at hf
              rw [hf] at hs
              dsimp only at hs
              rw [hs] at K
              refine r_iload_n dX5_firstWrongLetter_55 rfl ?_
              refine r_ireturn rfl (by first | rfl | exact nar_bi _ | assumption) dX5_firstWrongLetter_56 ⟨_, rfl, ?_⟩
              rw [show p + k + 1 = p + 1 + k by omega]
              exact K
            refine r_iload_n dX5_firstWrongLetter_19 rfl ?_
            refine r_aload_n dX5_firstWrongLetter_20 rfl ?_
            refine cV_i0 fJ0_length_8abf5 (rcv_str (by omega)) lkX5_32 rfl dX5_firstWrongLetter_21 (sp_J0_length_8abf5 (by omega) ?_)
            refine r_icmp_ge_N 63 dX5_firstWrongLetter_24 rfl (by omega) (by omega) (fun h24 => ?_) (fun h24 => ?_)
            · exfalso; omega
            · refine r_inc1_1 dX5_firstWrongLetter_27 rfl ?_
              refine r_iload_n dX5_firstWrongLetter_30 rfl ?_
              refine r_aload_n dX5_firstWrongLetter_31 rfl ?_
              refine getX5_15 rfl dX5_firstWrongLetter_32 ?_
              rw [l3]
              refine r_icmp_ge_N 55 dX5_firstWrongLetter_35 rfl (by omega) (by omega) (fun h35 => ?_) (fun h35 => ?_)
              · exact FAIL (by rw [decide_eq_false (by omega)]; rfl)
              · refine r_aload_n dX5_firstWrongLetter_38 rfl ?_
                refine r_iload_n dX5_firstWrongLetter_39 rfl ?_
                refine cV_i1 fJ0_charAt_5068e (rcv_str (by omega)) lkX5_36 rfl dX5_firstWrongLetter_40 (sp_J0_charAt_5068e (by omega) hk ?_)
                refine r_aload_n dX5_firstWrongLetter_43 rfl ?_
                refine getX5_9 rfl dX5_firstWrongLetter_44 ?_
                refine r_iload_n dX5_firstWrongLetter_47 rfl ?_
                refine ld_15  (by omega) dX5_firstWrongLetter_48 ?_
                rw [l1]
                refine cS_i2 fX5_isAs lkX5_40 rfl dX5_firstWrongLetter_49 (sp_X5_isAs (l2 _) ?_)
                refine r_if_ne 57 dX5_firstWrongLetter_52 rfl (fun h52 => ?_) (fun h52 => ?_)
                · have hb := tb_of h52
                  rw [show p + k + 1 = p + 1 + k by omega] at hb
                  rw [if_neg (by rw [hb, decide_eq_true (show p + 1 + k < N by omega)]; decide)] at hf
                  refine r_inc1_3 dX5_firstWrongLetter_57 rfl ?_
                  refine r_goto 19 dX5_firstWrongLetter_60 rfl ?_
                  exact ih2 hf (by omega)
                · have hb := (bi_eq0 _).mp h52
                  rw [show p + k + 1 = p + 1 + k by omega] at hb
                  exact FAIL (by rw [hb, Bool.and_false])
        exact INNER 0 (by omega) rfl h2
      · have hz := of_decide_eq_true (tb_of h12)
        rw [if_pos hz] at hs
        rw [hs] at K
        refine r_iload_n dX5_firstWrongLetter_15 rfl ?_
        refine r_ireturn rfl (by first | rfl | exact nar_bi _ | assumption) dX5_firstWrongLetter_16 ⟨_, rfl, ?_⟩
        exact K
  exact LOOP (N + 1) 0 (by omega) (by omega) hR.symm _ _
end TELL2
