/-! ===== both sides: then, row, clear, image, on, meet, judge, rest ===== -/
section PUBC
variable {E : EnvT} {σ : Sg} {Q : Int32 → Sg → Prop} {Qv : Sg → Prop}
def vWT (n : Nat) (p m w : Int32) : Int32 := if hasW p n then (if outs m 0 60 = 0 then (if 0 ≤ w ∧ w ≤ 2 then 0 else -2) else outs m 0 60) else -1
theorem sp_X8_workerThen {n : Nat} {p m w : Int32} (hW : WF (σ 0) n) (Kr : ∀ c, vWT n p m w = c → ¬ c = 0 → Q c (rfs σ 9 c)) (K : ∀ q j k, q < n → p = nI q → j ≤ 60 → m = nI j → k ≤ 2 → w = nI k → vWT n p m w = 0 → ∀ r1, Q (dayN 0 n (σ 0) j (5 + k + 5 * q)) (va_up σ 1 r1)) : Mi E mX8_workerThen [.ref (ad E 0 0), .int p, .int m, .int w] σ Q := by
  have hn6 := hW.2.1
  refine Mw_of (L0 := [some (.ref (ad E 0 0)), some (.int p), some (.int m), some (.int w), none]) pn_X8 rfl rfl (Nat.le_of_ble_eq_true rfl) ?_
  refine r_aload_n dX8_workerThen_0 rfl ?_
  refine getX8_10 rfl dX8_workerThen_1 ?_
  refine r_iload_n dX8_workerThen_4 rfl ?_
  refine cVN_i1 fX1_has (rcv_1 (by omega)) lkX8_87 rfl dX8_workerThen_5 (sp_X1_has (by omega) hW.1 ?_)
  refine r_if_ne 17 dX8_workerThen_8 rfl (fun h8 => ?_) (fun h8 => ?_)
  · obtain ⟨q, hq, rfl⟩ := hasW_ex (tb_of h8) hn6
    have hv : vWT n (nI q) m w = if outs m 0 60 = 0 then (if 0 ≤ w ∧ w ≤ 2 then 0 else -2) else outs m 0 60 := by unfold vWT; rw [tb_of h8]; rfl
    refine r_iload_n dX8_workerThen_17 rfl ?_
    refine r_iconst (0) dX8_workerThen_18 rfl ?_
    refine r_bipush (60) dX8_workerThen_19 rfl ?_
    refine cS_i3 fX8_outside lkX8_44 rfl dX8_workerThen_21 (sp_X8_outside  ?_)
    refine r_istore_4 dX8_workerThen_24 rfl ?_
    refine r_iload dX8_workerThen_26 rfl ?_
    refine r_if_eq 38 dX8_workerThen_28 rfl (fun h28 => ?_) (fun h28 => ?_)
    · rw [if_pos h28] at hv
      obtain ⟨j, hj, rfl⟩ := outs_N (b := 60) (by omega) h28
      refine r_iload_n dX8_workerThen_38 rfl ?_
      refine r_if_lt 47 dX8_workerThen_39 rfl (fun h39 => ?_) (fun h39 => ?_)
      · refine r_aload_n dX8_workerThen_47 rfl ?_
        refine r_bipush (-2) dX8_workerThen_48 rfl ?_
        refine cV_i1 fX8_refuse rcv_0 lkX8_52 rfl dX8_workerThen_50 (sp_X8_refuse (Or.inr (Or.inl rfl)) ?_)
        refine r_ireturn rfl (by first | rfl | exact nar_bi _ | assumption) dX8_workerThen_53 ⟨_, rfl, ?_⟩
        exact Kr (-2) (by rw [hv, if_neg (fun a => absurd a.1 (Int32.not_le.mpr h39))]) (by decide)
      · refine r_iload_n dX8_workerThen_42 rfl ?_
        refine r_iconst (2) dX8_workerThen_43 rfl ?_
        refine r_icmp_le 54 dX8_workerThen_44 rfl (fun h44 => ?_) (fun h44 => ?_)
        · have hw := And.intro (Int32.not_lt.mp h39) h44
          rw [if_pos hw] at hv
          obtain ⟨k, hk, rfl⟩ := nI_of h39
          have hk2 := (nI_leI (b := 2) hk (by omega)).mp h44
          have K := K q j k hq rfl hj rfl hk2 rfl hv
          refine r_aload_n dX8_workerThen_54 rfl ?_
          refine getX8_16 rfl dX8_workerThen_55 ?_
          refine r_aload_n dX8_workerThen_58 rfl ?_
          refine getX8_10 rfl dX8_workerThen_59 ?_
          refine cVN_v1 fX1_become (rcv_1 (by omega)) lkX8_63 rfl dX8_workerThen_62 (sp_X1_become (by omega) (by omega) (by omega) ?_)
          refine r_aload_n dX8_workerThen_65 rfl ?_
          refine getX8_16 rfl dX8_workerThen_66 ?_
          refine r_iload_n dX8_workerThen_69 rfl ?_
          refine r_iconst (0) dX8_workerThen_70 rfl ?_
          refine cVN_i2 fX1_passDays (rcv_1 (by omega)) lkX8_151 rfl dX8_workerThen_71 (sp_X1_passDays (by omega) (by rw [up_at]; exact hW) (by omega) ?_)
          rw [up_at, up_up]
          refine r_pop dX8_workerThen_74 rfl ?_
          refine r_iload_n dX8_workerThen_75 rfl ?_
          refine r_if_ne 89 dX8_workerThen_76 rfl (fun h76 => ?_) (fun h76 => ?_)
          · refine r_iload_n dX8_workerThen_89 rfl ?_
            refine r_iconst (1) dX8_workerThen_90 rfl ?_
            refine r_icmp_ne 106 dX8_workerThen_91 rfl (fun h91 => ?_) (fun h91 => ?_)
            · have : k = 2 := by
                have h0 : k ≠ 0 := fun e => h76 (by rw [e]; rfl)
                have h1 : k ≠ 1 := fun e => h91 (by rw [e]; rfl)
                omega
              subst this
              refine r_aload_n dX8_workerThen_106 rfl ?_
              refine getX8_16 rfl dX8_workerThen_107 ?_
              refine getX8_103 (by omega) rfl dX8_workerThen_110 ?_
              refine r_iload_n dX8_workerThen_113 rfl ?_
              refine ld_13  (by omega) (by omega) dX8_workerThen_114 ?_
              rw [up_at]
              refine r_ireturn rfl (by first | rfl | exact nar_bi _ | assumption) dX8_workerThen_115 ⟨_, rfl, ?_⟩
              exact K _
            · have : k = 1 := (nI_eq (b := 1) hk (by omega)).mp h91
              subst this
              refine r_aload_n dX8_workerThen_94 rfl ?_
              refine getX8_16 rfl dX8_workerThen_95 ?_
              refine getX8_100 (by omega) rfl dX8_workerThen_98 ?_
              refine r_iload_n dX8_workerThen_101 rfl ?_
              refine ld_12  (by omega) (by omega) dX8_workerThen_102 ?_
              rw [up_at]
              refine r_goto 115 dX8_workerThen_103 rfl ?_
              refine r_ireturn rfl (by first | rfl | exact nar_bi _ | assumption) dX8_workerThen_115 ⟨_, rfl, ?_⟩
              exact K _
          · have : k = 0 := (nI_eq (b := 0) hk (by omega)).mp h76
            subst this
            refine r_aload_n dX8_workerThen_79 rfl ?_
            refine getX8_16 rfl dX8_workerThen_80 ?_
            refine getX8_97 (by omega) rfl dX8_workerThen_83 ?_
            refine r_iload_n dX8_workerThen_86 rfl ?_
            refine ld_11  (by omega) (by omega) dX8_workerThen_87 ?_
            rw [up_at]
            refine r_ireturn rfl (by first | rfl | exact nar_bi _ | assumption) dX8_workerThen_88 ⟨_, rfl, ?_⟩
            exact K _
        · refine r_aload_n dX8_workerThen_47 rfl ?_
          refine r_bipush (-2) dX8_workerThen_48 rfl ?_
          refine cV_i1 fX8_refuse rcv_0 lkX8_52 rfl dX8_workerThen_50 (sp_X8_refuse (Or.inr (Or.inl rfl)) ?_)
          refine r_ireturn rfl (by first | rfl | exact nar_bi _ | assumption) dX8_workerThen_53 ⟨_, rfl, ?_⟩
          exact Kr (-2) (by rw [hv, if_neg (fun a => h44 a.2)]) (by decide)
    · rw [if_neg h28] at hv
      refine r_aload_n dX8_workerThen_31 rfl ?_
      refine r_iload dX8_workerThen_32 rfl ?_
      refine cV_i1 fX8_refuse rcv_0 lkX8_52 rfl dX8_workerThen_34 (sp_X8_refuse (outs_ref h28) ?_)
      refine r_ireturn rfl (by first | rfl | exact nar_bi _ | assumption) dX8_workerThen_37 ⟨_, rfl, ?_⟩
      exact Kr _ hv h28
  · refine r_aload_n dX8_workerThen_11 rfl ?_
    refine r_iconst (-1) dX8_workerThen_12 rfl ?_
    refine cV_i1 fX8_refuse rcv_0 lkX8_52 rfl dX8_workerThen_13 (sp_X8_refuse (Or.inl rfl) ?_)
    refine r_ireturn rfl (by first | rfl | exact nar_bi _ | assumption) dX8_workerThen_16 ⟨_, rfl, ?_⟩
    exact Kr (-1) (by unfold vWT; rw [(bi_eq0 _).mp h8]; rfl) (by decide)
theorem sp_X9_workerThen {n : Nat} {p m w : Int32} (hW : WF (σ 3) n) (Kr : ∀ c, vWT n p m w = c → ¬ c = 0 → Q c (rfs σ 13 c)) (K : ∀ q j k, q < n → p = nI q → j ≤ 60 → m = nI j → k ≤ 2 → w = nI k → vWT n p m w = 0 → ∀ r1, Q (dayN 0 n (σ 3) j (5 + k + 5 * q)) (va_up σ 4 r1)) : Mi E mX9_workerThen [.ref (ad E 18 0), .int p, .int m, .int w] σ Q := by
  have hn6 := hW.2.1
  refine Mw_of (L0 := [some (.ref (ad E 18 0)), some (.int p), some (.int m), some (.int w), none]) pn_X9 rfl rfl (Nat.le_of_ble_eq_true rfl) ?_
  refine r_aload_n dX9_workerThen_0 rfl ?_
  refine r_iload_n dX9_workerThen_1 rfl ?_
  refine cV_i1 fX9_isWorker rcv_18 lkX9_113 rfl dX9_workerThen_2 (sp_X9_isWorker hW.1 hn6 ?_)
  refine r_if_eq 18 dX9_workerThen_5 rfl (fun h5 => ?_) (fun h5 => ?_)
  · refine r_iconst (-1) dX9_workerThen_18 rfl ?_
    refine r_istore_4 dX9_workerThen_19 rfl ?_
    refine r_iload dX9_workerThen_21 rfl ?_
    refine r_if_ne 39 dX9_workerThen_23 rfl (fun h23 => ?_) (fun h23 => ?_)
    · refine r_iload dX9_workerThen_39 rfl ?_
      refine r_if_eq 51 dX9_workerThen_41 rfl (fun h41 => ?_) (fun h41 => ?_)
      · exact absurd h41 (by decide)
      · refine r_aload_n dX9_workerThen_44 rfl ?_
        refine r_iload dX9_workerThen_45 rfl ?_
        refine cV_i1 fX9_no rcv_18 lkX9_36 rfl dX9_workerThen_47 (sp_X9_no (Or.inl rfl) ?_)
        refine r_ireturn rfl (by first | rfl | exact nar_bi _ | assumption) dX9_workerThen_50 ⟨_, rfl, ?_⟩
        exact Kr (-1) (by unfold vWT; rw [(bi_eq0 _).mp h5]; rfl) (by decide)
    · exact absurd h23 (by decide)
  · obtain ⟨q, hq, rfl⟩ := hasW_ex (tb_of h5) hn6
    have hv : vWT n (nI q) m w = if outs m 0 60 = 0 then (if 0 ≤ w ∧ w ≤ 2 then 0 else -2) else outs m 0 60 := by unfold vWT; rw [tb_of h5]; rfl
    refine r_iload_n dX9_workerThen_8 rfl ?_
    refine r_iconst (0) dX9_workerThen_9 rfl ?_
    refine r_bipush (60) dX9_workerThen_10 rfl ?_
    refine cS_i3 fX9_wrongBy lkX9_136 rfl dX9_workerThen_12 (sp_X9_wrongBy  ?_)
    refine r_goto 19 dX9_workerThen_15 rfl ?_
    refine r_istore_4 dX9_workerThen_19 rfl ?_
    refine r_iload dX9_workerThen_21 rfl ?_
    refine r_if_ne 39 dX9_workerThen_23 rfl (fun h23 => ?_) (fun h23 => ?_)
    · rw [if_neg h23] at hv
      refine r_iload dX9_workerThen_39 rfl ?_
      refine r_if_eq 51 dX9_workerThen_41 rfl (fun h41 => ?_) (fun h41 => ?_)
      · exact absurd h41 h23
      · refine r_aload_n dX9_workerThen_44 rfl ?_
        refine r_iload dX9_workerThen_45 rfl ?_
        refine cV_i1 fX9_no rcv_18 lkX9_36 rfl dX9_workerThen_47 (sp_X9_no (outs_ref h23) ?_)
        refine r_ireturn rfl (by first | rfl | exact nar_bi _ | assumption) dX9_workerThen_50 ⟨_, rfl, ?_⟩
        exact Kr _ hv h23
    · rw [if_pos h23] at hv
      obtain ⟨j, hj, rfl⟩ := outs_N (b := 60) (by omega) h23
      refine r_iload_n dX9_workerThen_26 rfl ?_
      refine r_iconst (0) dX9_workerThen_27 rfl ?_
      refine r_iconst (2) dX9_workerThen_28 rfl ?_
      refine cS_i3 fX9_isIn lkX9_40 rfl dX9_workerThen_29 (sp_X9_isIn  ?_)
      refine r_if_ne 39 dX9_workerThen_32 rfl (fun h32 => ?_) (fun h32 => ?_)
      · have hw := of_decide_eq_true (tb_of h32)
        rw [if_pos hw] at hv
        obtain ⟨k, hk, rfl⟩ := nI_of (Int32.not_lt.mpr hw.1)
        have hk2 := (nI_leI (b := 2) hk (by omega)).mp hw.2
        have K := K q j k hq rfl hj rfl hk2 rfl hv
        refine r_iload dX9_workerThen_39 rfl ?_
        refine r_if_eq 51 dX9_workerThen_41 rfl (fun h41 => ?_) (fun h41 => ?_)
        · refine r_aload_n dX9_workerThen_51 rfl ?_
          refine r_iload_n dX9_workerThen_52 rfl ?_
          refine cV_v1 fX9_takes rcv_18 lkX9_140 rfl dX9_workerThen_53 (sp_X9_takes hW (by omega) ?_)
          refine r_aload_n dX9_workerThen_56 rfl ?_
          refine getX9_13 rfl dX9_workerThen_57 ?_
          refine r_iload_n dX9_workerThen_60 rfl ?_
          refine r_iconst (2) dX9_workerThen_61 rfl ?_
          refine r_iload_n dX9_workerThen_62 rfl ?_
          refine r_iadd dX9_workerThen_63 ?_
          rw [show (2 : Int32) + nI k = nI (2 + k) from nI_add 2 k]
          refine cS_i2 fX9_of lkX9_44 rfl dX9_workerThen_64 (sp_X9_of  ?_)
          refine ld_19  (by omega) (by omega) dX9_workerThen_67 ?_
          rw [up_at, show 3 + (2 + k) + 5 * q = 5 + k + 5 * q by omega]
          refine r_ireturn rfl (by first | rfl | exact nar_bi _ | assumption) dX9_workerThen_68 ⟨_, rfl, ?_⟩
          exact K _
        · exact absurd h23 h41
      · have hw := of_decide_eq_false ((bi_eq0 _).mp h32)
        rw [if_neg hw] at hv
        refine r_bipush (-2) dX9_workerThen_35 rfl ?_
        refine r_istore_4 dX9_workerThen_37 rfl ?_
        refine r_iload dX9_workerThen_39 rfl ?_
        refine r_if_eq 51 dX9_workerThen_41 rfl (fun h41 => ?_) (fun h41 => ?_)
        · exact absurd h41 (by decide)
        · refine r_aload_n dX9_workerThen_44 rfl ?_
          refine r_iload dX9_workerThen_45 rfl ?_
          refine cV_i1 fX9_no rcv_18 lkX9_36 rfl dX9_workerThen_47 (sp_X9_no (Or.inr (Or.inl rfl)) ?_)
          refine r_ireturn rfl (by first | rfl | exact nar_bi _ | assumption) dX9_workerThen_50 ⟨_, rfl, ?_⟩
          exact Kr (-2) hv (by decide)
def vTh (m w : Int32) : Int32 := if outs m 0 60 = 0 then (if eith w then 0 else -2) else outs m 0 60
def thV (r : Row) (n : Nat) (w : Int32) : Int32 := if w = 0 then r 2 else inO r (irm (r 1) 7) n
theorem sp_X8_then {n : Nat} {m w : Int32} (hW : WF (σ 0) n) (Kr : ∀ c, vTh m w = c → ¬ c = 0 → Q c (rfs σ 9 c)) (K : ∀ j, j ≤ 60 → m = nI j → vTh m w = 0 → ∀ r1, Q (thV (dayN 0 n (σ 0) j) n w) (va_up σ 1 r1)) : Mi E mX8_then [.ref (ad E 0 0), .int m, .int w] σ Q := by
  have hn6 := hW.2.1
  refine Mw_of (L0 := [some (.ref (ad E 0 0)), some (.int m), some (.int w), none]) pn_X8 rfl rfl (Nat.le_of_ble_eq_true rfl) ?_
  refine r_iload_n dX8_then_0 rfl ?_
  refine r_iconst (0) dX8_then_1 rfl ?_
  refine r_bipush (60) dX8_then_2 rfl ?_
  refine cS_i3 fX8_outside lkX8_44 rfl dX8_then_4 (sp_X8_outside  ?_)
  refine r_istore_n_3 dX8_then_7 rfl ?_
  refine r_iload_n dX8_then_8 rfl ?_
  refine r_if_eq 18 dX8_then_9 rfl (fun h9 => ?_) (fun h9 => ?_)
  · obtain ⟨j, hj, rfl⟩ := outs_N (b := 60) (by omega) h9
    refine r_iload_n dX8_then_18 rfl ?_
    refine cS_i1 fX8_isEither lkX8_115 rfl dX8_then_19 (sp_X8_isEither  ?_)
    refine r_if_ne 32 dX8_then_22 rfl (fun h22 => ?_) (fun h22 => ?_)
    · have he : eith w = true := tb_of h22
      have K := K j hj rfl (by unfold vTh; rw [if_pos h9, he]; rfl)
      unfold thV at K
      refine r_aload_n dX8_then_32 rfl ?_
      refine getX8_16 rfl dX8_then_33 ?_
      refine r_aload_n dX8_then_36 rfl ?_
      refine getX8_10 rfl dX8_then_37 ?_
      refine cVN_v1 fX1_become (rcv_1 (by omega)) lkX8_63 rfl dX8_then_40 (sp_X1_become (by omega) (by omega) (by omega) ?_)
      refine r_aload_n dX8_then_43 rfl ?_
      refine getX8_16 rfl dX8_then_44 ?_
      refine r_iload_n dX8_then_47 rfl ?_
      refine r_iconst (0) dX8_then_48 rfl ?_
      refine cVN_i2 fX1_passDays (rcv_1 (by omega)) lkX8_151 rfl dX8_then_49 (sp_X1_passDays (by omega) (by rw [up_at]; exact hW) (by omega) ?_)
      rw [up_at, up_up]
      refine r_pop dX8_then_52 rfl ?_
      refine r_iload_n dX8_then_53 rfl ?_
      refine r_if_ne 67 dX8_then_54 rfl (fun h54 => ?_) (fun h54 => ?_)
      · refine r_aload_n dX8_then_67 rfl ?_
        refine getX8_16 rfl dX8_then_68 ?_
        refine r_aload_n dX8_then_71 rfl ?_
        refine getX8_16 rfl dX8_then_72 ?_
        refine cVN_i0 fX1_weekday (rcv_1 (by omega)) lkX8_157 rfl dX8_then_75 (sp_X1_weekday (by omega) ?_)
        rw [up_at]
        refine cVN_i1 fX1_whoIsIn (rcv_1 (by omega)) lkX8_160 rfl dX8_then_78 (sp_X1_whoIsIn (by omega) (by rw [up_at]; exact (dayN_WF hW j).1) hn6 ?_)
        rw [up_at]
        refine r_ireturn rfl (by first | rfl | exact nar_bi _ | assumption) dX8_then_81 ⟨_, rfl, ?_⟩
        rw [if_neg h54] at K
        exact K _
      · refine r_aload_n dX8_then_57 rfl ?_
        refine getX8_16 rfl dX8_then_58 ?_
        refine getX8_154 (by omega) rfl dX8_then_61 ?_
        rw [up_at]
        refine r_goto 81 dX8_then_64 rfl ?_
        refine r_ireturn rfl (by first | rfl | exact nar_bi _ | assumption) dX8_then_81 ⟨_, rfl, ?_⟩
        rw [if_pos h54] at K
        exact K _
    · have he : eith w = false := (bi_eq0 _).mp h22
      refine r_aload_n dX8_then_25 rfl ?_
      refine r_bipush (-2) dX8_then_26 rfl ?_
      refine cV_i1 fX8_refuse rcv_0 lkX8_52 rfl dX8_then_28 (sp_X8_refuse (Or.inr (Or.inl rfl)) ?_)
      refine r_ireturn rfl (by first | rfl | exact nar_bi _ | assumption) dX8_then_31 ⟨_, rfl, ?_⟩
      exact Kr (-2) (by unfold vTh; rw [if_pos h9, he]; rfl) (by decide)
  · refine r_aload_n dX8_then_12 rfl ?_
    refine r_iload_n dX8_then_13 rfl ?_
    refine cV_i1 fX8_refuse rcv_0 lkX8_52 rfl dX8_then_14 (sp_X8_refuse (outs_ref h9) ?_)
    refine r_ireturn rfl (by first | rfl | exact nar_bi _ | assumption) dX8_then_17 ⟨_, rfl, ?_⟩
    exact Kr _ (by unfold vTh; rw [if_neg h9]) h9
theorem sp_X9_then {n : Nat} {m w : Int32} (hW : WF (σ 3) n) (Kr : ∀ c, vTh m w = c → ¬ c = 0 → Q c (rfs σ 13 c)) (K : ∀ j, j ≤ 60 → m = nI j → vTh m w = 0 → ∀ r1, Q (thV (dayN 0 n (σ 3) j) n w) (va_up σ 4 r1)) : Mi E mX9_then [.ref (ad E 18 0), .int m, .int w] σ Q := by
  have hn6 := hW.2.1
  refine Mw_of (L0 := [some (.ref (ad E 18 0)), some (.int m), some (.int w), none]) pn_X9 rfl rfl (Nat.le_of_ble_eq_true rfl) ?_
  refine r_iload_n dX9_then_0 rfl ?_
  refine r_iconst (0) dX9_then_1 rfl ?_
  refine r_bipush (60) dX9_then_2 rfl ?_
  refine cS_i3 fX9_wrongBy lkX9_136 rfl dX9_then_4 (sp_X9_wrongBy  ?_)
  refine r_istore_n_3 dX9_then_7 rfl ?_
  refine r_iload_n dX9_then_8 rfl ?_
  refine r_if_ne 24 dX9_then_9 rfl (fun h9 => ?_) (fun h9 => ?_)
  · refine r_iload_n dX9_then_24 rfl ?_
    refine r_if_eq 34 dX9_then_25 rfl (fun h25 => ?_) (fun h25 => ?_)
    · exact absurd h25 h9
    · refine r_aload_n dX9_then_28 rfl ?_
      refine r_iload_n dX9_then_29 rfl ?_
      refine cV_i1 fX9_no rcv_18 lkX9_36 rfl dX9_then_30 (sp_X9_no (outs_ref h9) ?_)
      refine r_ireturn rfl (by first | rfl | exact nar_bi _ | assumption) dX9_then_33 ⟨_, rfl, ?_⟩
      exact Kr _ (by unfold vTh; rw [if_neg h9]) h9
  · obtain ⟨j, hj, rfl⟩ := outs_N (b := 60) (by omega) h9
    refine r_iload_n dX9_then_12 rfl ?_
    refine r_iconst (0) dX9_then_13 rfl ?_
    refine r_iconst (1) dX9_then_14 rfl ?_
    refine cS_i3 fX9_isIn lkX9_40 rfl dX9_then_15 (sp_X9_isIn  ?_)
    rw [eith_e]
    refine r_if_ne 24 dX9_then_18 rfl (fun h18 => ?_) (fun h18 => ?_)
    · have K := K j hj rfl (by unfold vTh; rw [if_pos h9, tb_of h18]; rfl)
      unfold thV irm at K
      refine r_iload_n dX9_then_24 rfl ?_
      refine r_if_eq 34 dX9_then_25 rfl (fun h25 => ?_) (fun h25 => ?_)
      · refine r_aload_n dX9_then_34 rfl ?_
        refine r_iload_n dX9_then_35 rfl ?_
        refine cV_v1 fX9_takes rcv_18 lkX9_140 rfl dX9_then_36 (sp_X9_takes hW (by omega) ?_)
        refine r_iload_n dX9_then_39 rfl ?_
        refine r_if_ne 52 dX9_then_40 rfl (fun h40 => ?_) (fun h40 => ?_)
        · refine r_aload_n dX9_then_52 rfl ?_
          refine getX9_13 rfl dX9_then_53 ?_
          refine r_aload_n dX9_then_56 rfl ?_
          refine getX9_13 rfl dX9_then_57 ?_
          refine r_iconst (1) dX9_then_60 rfl ?_
          refine ld_19 (t := 1)  (by omega) (by omega) dX9_then_61 ?_
          rw [up_at]
          refine r_bipush (7) dX9_then_62 rfl ?_
          refine r_irem dX9_then_64 (by decide) ?_
          refine cS_i2 fX9_inOn lkX9_144 rfl dX9_then_65 (sp_X9_inOn (by omega) (by rw [up_at]; exact (dayN_WF hW j).1) hn6 ?_)
          rw [up_at]
          refine r_ireturn rfl (by first | rfl | exact nar_bi _ | assumption) dX9_then_68 ⟨_, rfl, ?_⟩
          rw [if_neg h40] at K
          exact K _
        · refine r_aload_n dX9_then_43 rfl ?_
          refine getX9_13 rfl dX9_then_44 ?_
          refine r_iconst (2) dX9_then_47 rfl ?_
          refine ld_19 (t := 2)  (by omega) (by omega) dX9_then_48 ?_
          rw [up_at]
          refine r_goto 68 dX9_then_49 rfl ?_
          refine r_ireturn rfl (by first | rfl | exact nar_bi _ | assumption) dX9_then_68 ⟨_, rfl, ?_⟩
          rw [if_pos h40] at K
          exact K _
      · exact absurd h9 h25
    · refine r_bipush (-2) dX9_then_21 rfl ?_
      refine r_istore_n_3 dX9_then_23 rfl ?_
      refine r_iload_n dX9_then_24 rfl ?_
      refine r_if_eq 34 dX9_then_25 rfl (fun h25 => ?_) (fun h25 => ?_)
      · exact absurd h25 (by decide)
      · refine r_aload_n dX9_then_28 rfl ?_
        refine r_iload_n dX9_then_29 rfl ?_
        refine cV_i1 fX9_no rcv_18 lkX9_36 rfl dX9_then_30 (sp_X9_no (Or.inr (Or.inl rfl)) ?_)
        refine r_ireturn rfl (by first | rfl | exact nar_bi _ | assumption) dX9_then_33 ⟨_, rfl, ?_⟩
        exact Kr (-2) (by unfold vTh; rw [if_pos h9, (bi_eq0 _).mp h18]; rfl) (by decide)
/-- row, clear -/
def vRow (c : Nat) (v : Int32) : Int32 := if outs v 0 99 = 0 then (if c < 16 then 0 else -6) else outs v 0 99
theorem sp_X8_row {c : Nat} {v : Int32} (hc : σ 10 1 = nI c) (hc16 : c ≤ 16) (Kr : ∀ x, vRow c v = x → ¬ x = 0 → Q x (rfs σ 9 x)) (K : vRow c v = 0 → c < 16 → Q (nI (c + 1)) (s2 (s2 σ 8 c v) 10 1 (nI (c + 1)))) : Mi E mX8_row [.ref (ad E 0 0), .int v] σ Q := by
  refine Mw_of (L0 := [some (.ref (ad E 0 0)), some (.int v), none]) pn_X8 rfl rfl (Nat.le_of_ble_eq_true rfl) ?_
  refine r_iload_n dX8_row_0 rfl ?_
  refine r_iconst (0) dX8_row_1 rfl ?_
  refine r_bipush (99) dX8_row_2 rfl ?_
  refine cS_i3 fX8_outside lkX8_44 rfl dX8_row_4 (sp_X8_outside  ?_)
  refine r_istore_n_2 dX8_row_7 rfl ?_
  refine r_iload_n dX8_row_8 rfl ?_
  refine r_if_ne 24 dX8_row_9 rfl (fun h9 => ?_) (fun h9 => ?_)
  · refine r_iload_n dX8_row_24 rfl ?_
    refine r_if_eq 34 dX8_row_25 rfl (fun h25 => ?_) (fun h25 => ?_)
    · exact absurd h25 h9
    · refine r_aload_n dX8_row_28 rfl ?_
      refine r_iload_n dX8_row_29 rfl ?_
      refine cV_i1 fX8_refuse rcv_0 lkX8_52 rfl dX8_row_30 (sp_X8_refuse (outs_ref h9) ?_)
      refine r_ireturn rfl (by first | rfl | exact nar_bi _ | assumption) dX8_row_33 ⟨_, rfl, ?_⟩
      exact Kr _ (by unfold vRow; rw [if_neg h9]) h9
  · refine r_aload_n dX8_row_12 rfl ?_
    refine getX8_37 rfl dX8_row_13 ?_
    rw [hc]
    refine r_bipush (16) dX8_row_16 rfl ?_
    refine r_icmp_lt_N (b := 16) 24 dX8_row_18 rfl (by omega) (by omega) (fun h18 => ?_) (fun h18 => ?_)
    · have K := K (by unfold vRow; rw [if_pos h9, if_pos h18]) h18
      refine r_iload_n dX8_row_24 rfl ?_
      refine r_if_eq 34 dX8_row_25 rfl (fun h25 => ?_) (fun h25 => ?_)
      · refine r_aload_n dX8_row_34 rfl ?_
        refine getX8_33 rfl dX8_row_35 ?_
        refine r_aload_n dX8_row_38 rfl ?_
        refine getX8_37 rfl dX8_row_39 ?_
        rw [hc]
        refine r_iload_n dX8_row_42 rfl ?_
        refine st_16  (by omega) dX8_row_43 ?_
        refine r_aload_n dX8_row_44 rfl ?_
        refine r_dup dX8_row_45 rfl ?_
        refine getX8_37 rfl dX8_row_46 ?_
        rw [s2_ne (Or.inl (by omega)), hc]
        refine r_iconst (1) dX8_row_49 rfl ?_
        refine r_iadd dX8_row_50 ?_
        rw [nI_1]
        refine putX8_37 rfl dX8_row_51 ?_
        refine r_aload_n dX8_row_54 rfl ?_
        refine getX8_37 rfl dX8_row_55 ?_
        rw [s2_eq]
        refine r_ireturn rfl (by first | rfl | exact nar_bi _ | assumption) dX8_row_58 ⟨_, rfl, ?_⟩
        exact K
      · exact absurd h9 h25
    · refine r_bipush (-6) dX8_row_21 rfl ?_
      refine r_istore_n_2 dX8_row_23 rfl ?_
      refine r_iload_n dX8_row_24 rfl ?_
      refine r_if_eq 34 dX8_row_25 rfl (fun h25 => ?_) (fun h25 => ?_)
      · exact absurd h25 (by decide)
      · refine r_aload_n dX8_row_28 rfl ?_
        refine r_iload_n dX8_row_29 rfl ?_
        refine cV_i1 fX8_refuse rcv_0 lkX8_52 rfl dX8_row_30 (sp_X8_refuse (Or.inr (Or.inr (Or.inr (Or.inr rfl)))) ?_)
        refine r_ireturn rfl (by first | rfl | exact nar_bi _ | assumption) dX8_row_33 ⟨_, rfl, ?_⟩
        exact Kr (-6) (by unfold vRow; rw [if_pos h9, if_neg (by omega)]) (by decide)
theorem sp_X9_row {c : Nat} {v : Int32} (hc : σ 15 2 = nI c) (hc16 : c ≤ 16) (Kr : ∀ x, vRow c v = x → ¬ x = 0 → Q x (rfs σ 13 x)) (K : vRow c v = 0 → c < 16 → Q (nI (c + 1)) (s2 (s2 σ 12 c v) 15 2 (nI (c + 1)))) : Mi E mX9_row [.ref (ad E 18 0), .int v] σ Q := by
  refine Mw_of (L0 := [some (.ref (ad E 18 0)), some (.int v), none]) pn_X9 rfl rfl (Nat.le_of_ble_eq_true rfl) ?_
  refine r_iload_n dX9_row_0 rfl ?_
  refine r_iconst (0) dX9_row_1 rfl ?_
  refine r_bipush (99) dX9_row_2 rfl ?_
  refine cS_i3 fX9_wrongBy lkX9_136 rfl dX9_row_4 (sp_X9_wrongBy  ?_)
  refine r_istore_n_2 dX9_row_7 rfl ?_
  refine r_iload_n dX9_row_8 rfl ?_
  refine r_if_ne 24 dX9_row_9 rfl (fun h9 => ?_) (fun h9 => ?_)
  · refine r_iload_n dX9_row_24 rfl ?_
    refine r_if_eq 34 dX9_row_25 rfl (fun h25 => ?_) (fun h25 => ?_)
    · exact absurd h25 h9
    · refine r_aload_n dX9_row_28 rfl ?_
      refine r_iload_n dX9_row_29 rfl ?_
      refine cV_i1 fX9_no rcv_18 lkX9_36 rfl dX9_row_30 (sp_X9_no (outs_ref h9) ?_)
      refine r_ireturn rfl (by first | rfl | exact nar_bi _ | assumption) dX9_row_33 ⟨_, rfl, ?_⟩
      exact Kr _ (by unfold vRow; rw [if_neg h9]) h9
  · refine r_aload_n dX9_row_12 rfl ?_
    refine getX9_192 rfl dX9_row_13 ?_
    rw [hc]
    refine r_bipush (16) dX9_row_16 rfl ?_
    refine r_icmp_ne 24 dX9_row_18 rfl (fun h18 => ?_) (fun h18 => ?_)
    · have h18 : c < 16 := by
        have : c ≠ 16 := fun e => h18 (by rw [e]; rfl)
        omega
      have K := K (by unfold vRow; rw [if_pos h9, if_pos h18]) h18
      refine r_iload_n dX9_row_24 rfl ?_
      refine r_if_eq 34 dX9_row_25 rfl (fun h25 => ?_) (fun h25 => ?_)
      · refine r_aload_n dX9_row_34 rfl ?_
        refine getX9_25 rfl dX9_row_35 ?_
        refine r_aload_n dX9_row_38 rfl ?_
        refine getX9_192 rfl dX9_row_39 ?_
        rw [hc]
        refine r_iload_n dX9_row_42 rfl ?_
        refine st_21  (by omega) dX9_row_43 ?_
        refine r_aload_n dX9_row_44 rfl ?_
        refine r_dup dX9_row_45 rfl ?_
        refine getX9_192 rfl dX9_row_46 ?_
        rw [s2_ne (Or.inl (by omega)), hc]
        refine r_iconst (1) dX9_row_49 rfl ?_
        refine r_iadd dX9_row_50 ?_
        rw [nI_1]
        refine putX9_192 rfl dX9_row_51 ?_
        refine r_aload_n dX9_row_54 rfl ?_
        refine getX9_192 rfl dX9_row_55 ?_
        rw [s2_eq]
        refine r_ireturn rfl (by first | rfl | exact nar_bi _ | assumption) dX9_row_58 ⟨_, rfl, ?_⟩
        exact K
      · exact absurd h9 h25
    · have h18 : c = 16 := (nI_eq (b := 16) (by omega) (by omega)).mp h18
      refine r_bipush (-6) dX9_row_21 rfl ?_
      refine r_istore_n_2 dX9_row_23 rfl ?_
      refine r_iload_n dX9_row_24 rfl ?_
      refine r_if_eq 34 dX9_row_25 rfl (fun h25 => ?_) (fun h25 => ?_)
      · exact absurd h25 (by decide)
      · refine r_aload_n dX9_row_28 rfl ?_
        refine r_iload_n dX9_row_29 rfl ?_
        refine cV_i1 fX9_no rcv_18 lkX9_36 rfl dX9_row_30 (sp_X9_no (Or.inr (Or.inr (Or.inr (Or.inr rfl)))) ?_)
        refine r_ireturn rfl (by first | rfl | exact nar_bi _ | assumption) dX9_row_33 ⟨_, rfl, ?_⟩
        exact Kr (-6) (by unfold vRow; rw [if_pos h9, if_neg (by omega)]) (by decide)
theorem sp_X8_clear (K : Q (σ 10 1) (s2 σ 10 1 0)) : Mi E mX8_clear [.ref (ad E 0 0)] σ Q := by
  refine Mw_of (L0 := [some (.ref (ad E 0 0)), none]) pn_X8 rfl rfl (Nat.le_of_ble_eq_true rfl) ?_
  refine r_aload_n dX8_clear_0 rfl ?_
  refine getX8_37 rfl dX8_clear_1 ?_
  refine r_istore_n_1 dX8_clear_4 rfl ?_
  refine r_aload_n dX8_clear_5 rfl ?_
  refine r_iconst (0) dX8_clear_6 rfl ?_
  refine putX8_37 rfl dX8_clear_7 ?_
  refine r_iload_n dX8_clear_10 rfl ?_
  refine r_ireturn rfl (by first | rfl | exact nar_bi _ | assumption) dX8_clear_11 ⟨_, rfl, ?_⟩
  exact K
theorem sp_X9_clear (K : Q (σ 15 2) (s2 σ 15 2 0)) : Mi E mX9_clear [.ref (ad E 18 0)] σ Q := by
  refine Mw_of (L0 := [some (.ref (ad E 18 0)), none]) pn_X9 rfl rfl (Nat.le_of_ble_eq_true rfl) ?_
  refine r_aload_n dX9_clear_0 rfl ?_
  refine getX9_192 rfl dX9_clear_1 ?_
  refine r_istore_n_1 dX9_clear_4 rfl ?_
  refine r_aload_n dX9_clear_5 rfl ?_
  refine r_iconst (0) dX9_clear_6 rfl ?_
  refine putX9_192 rfl dX9_clear_7 ?_
  refine r_iload_n dX9_clear_10 rfl ?_
  refine r_ireturn rfl (by first | rfl | exact nar_bi _ | assumption) dX9_clear_11 ⟨_, rfl, ?_⟩
  exact K
/-- image, on -/
theorem sp_X8_image (K : Q (σ 0 1) (s2 (va_up σ 2 (σ 0)) 10 0 1)) : Mi E mX8_image [.ref (ad E 0 0)] σ Q := by
  refine Mw_of (L0 := [some (.ref (ad E 0 0))]) pn_X8 rfl rfl (Nat.le_of_ble_eq_true rfl) ?_
  refine r_aload_n dX8_image_0 rfl ?_
  refine getX8_19 rfl dX8_image_1 ?_
  refine r_aload_n dX8_image_4 rfl ?_
  refine getX8_10 rfl dX8_image_5 ?_
  refine cVN_v1 fX1_become (rcv_1 (by omega)) lkX8_63 rfl dX8_image_8 (sp_X1_become (by omega) (by omega) (by omega) ?_)
  refine r_aload_n dX8_image_11 rfl ?_
  refine r_iconst (1) dX8_image_12 rfl ?_
  refine putX8_22 (by first | rfl | exact nar_bi _ | assumption) (by first | rfl | exact fit_bi _ | assumption) rfl dX8_image_13 ?_
  refine r_aload_n dX8_image_16 rfl ?_
  refine getX8_10 rfl dX8_image_17 ?_
  refine getX8_148 (by omega) rfl dX8_image_20 ?_
  refine r_ireturn rfl (by first | rfl | exact nar_bi _ | assumption) dX8_image_23 ⟨_, rfl, ?_⟩
  exact qof K (by rw [s2_ne (Or.inl (by omega)), up_ne (by omega)]) rfl
theorem sp_X9_image (K : Q (σ 3 1) (s2 (va_up σ 5 (σ 3)) 15 0 1)) : Mi E mX9_image [.ref (ad E 18 0)] σ Q := by
  refine Mw_of (L0 := [some (.ref (ad E 18 0))]) pn_X9 rfl rfl (Nat.le_of_ble_eq_true rfl) ?_
  refine r_aload_n dX9_image_0 rfl ?_
  refine getX9_9 rfl dX9_image_1 ?_
  refine r_aload_n dX9_image_4 rfl ?_
  refine getX9_16 rfl dX9_image_5 ?_
  refine cS_v2 fX9_copies lkX9_129 rfl dX9_image_8 (sp_X9_copies (by omega) (by omega) (by omega) ?_)
  refine r_aload_n dX9_image_11 rfl ?_
  refine r_iconst (1) dX9_image_12 rfl ?_
  refine putX9_204 (by first | rfl | exact nar_bi _ | assumption) (by first | rfl | exact fit_bi _ | assumption) rfl dX9_image_13 ?_
  refine r_aload_n dX9_image_16 rfl ?_
  refine getX9_9 rfl dX9_image_17 ?_
  refine r_iconst (1) dX9_image_20 rfl ?_
  refine ld_19 (t := 1)  (by omega) (by omega) dX9_image_21 ?_
  refine r_ireturn rfl (by first | rfl | exact nar_bi _ | assumption) dX9_image_22 ⟨_, rfl, ?_⟩
  exact qof K (by rw [s2_ne (Or.inl (by omega)), up_ne (by omega)]) rfl
theorem sp_X8_on (Kr : σ 10 0 = 0 → Q (-3) (rfs σ 9 (-3))) (K : ¬ σ 10 0 = 0 → Q (σ 2 1) (va_up σ 0 (σ 2))) : Mi E mX8_on [.ref (ad E 0 0)] σ Q := by
  refine Mw_of (L0 := [some (.ref (ad E 0 0))]) pn_X8 rfl rfl (Nat.le_of_ble_eq_true rfl) ?_
  refine r_aload_n dX8_on_0 rfl ?_
  refine getX8_22 rfl dX8_on_1 ?_
  refine r_if_ne 14 dX8_on_4 rfl (fun h4 => ?_) (fun h4 => ?_)
  · refine r_aload_n dX8_on_14 rfl ?_
    refine getX8_10 rfl dX8_on_15 ?_
    refine r_aload_n dX8_on_18 rfl ?_
    refine getX8_19 rfl dX8_on_19 ?_
    refine cVN_v1 fX1_become (rcv_1 (by omega)) lkX8_63 rfl dX8_on_22 (sp_X1_become (by omega) (by omega) (by omega) ?_)
    refine r_aload_n dX8_on_25 rfl ?_
    refine getX8_10 rfl dX8_on_26 ?_
    refine getX8_148 (by omega) rfl dX8_on_29 ?_
    refine r_ireturn rfl (by first | rfl | exact nar_bi _ | assumption) dX8_on_32 ⟨_, rfl, ?_⟩
    exact qof (K h4) (by rw [up_at]) rfl
  · refine r_aload_n dX8_on_7 rfl ?_
    refine r_bipush (-3) dX8_on_8 rfl ?_
    refine cV_i1 fX8_refuse rcv_0 lkX8_52 rfl dX8_on_10 (sp_X8_refuse (Or.inr (Or.inr (Or.inl rfl))) ?_)
    refine r_ireturn rfl (by first | rfl | exact nar_bi _ | assumption) dX8_on_13 ⟨_, rfl, ?_⟩
    exact Kr h4
theorem sp_X9_on (Kr : σ 15 0 = 0 → Q (-3) (rfs σ 13 (-3))) (K : ¬ σ 15 0 = 0 → Q (σ 5 1) (va_up σ 3 (σ 5))) : Mi E mX9_on [.ref (ad E 18 0)] σ Q := by
  refine Mw_of (L0 := [some (.ref (ad E 18 0))]) pn_X9 rfl rfl (Nat.le_of_ble_eq_true rfl) ?_
  refine r_aload_n dX9_on_0 rfl ?_
  refine getX9_204 rfl dX9_on_1 ?_
  refine r_if_ne 14 dX9_on_4 rfl (fun h4 => ?_) (fun h4 => ?_)
  · refine r_aload_n dX9_on_14 rfl ?_
    refine getX9_16 rfl dX9_on_15 ?_
    refine r_aload_n dX9_on_18 rfl ?_
    refine getX9_9 rfl dX9_on_19 ?_
    refine cS_v2 fX9_copies lkX9_129 rfl dX9_on_22 (sp_X9_copies (by omega) (by omega) (by omega) ?_)
    refine r_aload_n dX9_on_25 rfl ?_
    refine getX9_9 rfl dX9_on_26 ?_
    refine r_iconst (1) dX9_on_29 rfl ?_
    refine ld_19 (t := 1)  (by omega) (by omega) dX9_on_30 ?_
    refine r_ireturn rfl (by first | rfl | exact nar_bi _ | assumption) dX9_on_31 ⟨_, rfl, ?_⟩
    exact qof (K h4) (by rw [up_at]) rfl
  · refine r_aload_n dX9_on_7 rfl ?_
    refine r_bipush (-3) dX9_on_8 rfl ?_
    refine cV_i1 fX9_no rcv_18 lkX9_36 rfl dX9_on_10 (sp_X9_no (Or.inr (Or.inr (Or.inl rfl))) ?_)
    refine r_ireturn rfl (by first | rfl | exact nar_bi _ | assumption) dX9_on_13 ⟨_, rfl, ?_⟩
    exact Kr h4
/-- meet -/
theorem sp_X8_meet {n : Nat} {p q : Int32} (hW : WF (σ 0) n) (Kr : two2 p q n = false → Q (-1) (rfs σ 9 (-1))) (K : ∀ a b, a < n → b < n → p = nI a → q = nI b → two2 p q n = true → Q (mtg (σ 0) a b) σ) : Mi E mX8_meet [.ref (ad E 0 0), .int p, .int q] σ Q := by
  have hn6 := hW.2.1
  refine Mw_of (L0 := [some (.ref (ad E 0 0)), some (.int p), some (.int q)]) pn_X8 rfl rfl (Nat.le_of_ble_eq_true rfl) ?_
  refine r_aload_n dX8_meet_0 rfl ?_
  refine r_iload_n dX8_meet_1 rfl ?_
  refine r_iload_n dX8_meet_2 rfl ?_
  refine cV_i2 fX8_areTwo rcv_0 lkX8_136 rfl dX8_meet_3 (sp_X8_areTwo hW.1 ?_)
  refine r_if_ne 15 dX8_meet_6 rfl (fun h6 => ?_) (fun h6 => ?_)
  · obtain ⟨a, b, ha, hb, hab, rfl, rfl⟩ := two2_ex (tb_of h6) hn6
    refine r_aload_n dX8_meet_15 rfl ?_
    refine getX8_10 rfl dX8_meet_16 ?_
    refine r_iload_n dX8_meet_19 rfl ?_
    refine r_iload_n dX8_meet_20 rfl ?_
    refine cVN_i2 fX1_meetings (rcv_1 (by omega)) lkX8_186 rfl dX8_meet_21 (sp_X1_meetings (by omega) (by omega) (by omega) ?_)
    refine r_ireturn rfl (by first | rfl | exact nar_bi _ | assumption) dX8_meet_24 ⟨_, rfl, ?_⟩
    exact K a b ha hb rfl rfl (tb_of h6)
  · refine r_aload_n dX8_meet_9 rfl ?_
    refine r_iconst (-1) dX8_meet_10 rfl ?_
    refine cV_i1 fX8_refuse rcv_0 lkX8_52 rfl dX8_meet_11 (sp_X8_refuse (Or.inl rfl) ?_)
    refine r_ireturn rfl (by first | rfl | exact nar_bi _ | assumption) dX8_meet_14 ⟨_, rfl, ?_⟩
    exact Kr ((bi_eq0 _).mp h6)
theorem sp_X9_bothIn {a b : Nat} (ha : a < 6) (hb : b < 6) (K : Q (mtg (σ 3) a b) σ) : Mi E mX9_bothIn [.ref (ad E 18 0), .int (nI a), .int (nI b)] σ Q := by
  refine Mw_of (L0 := [some (.ref (ad E 18 0)), some (.int (nI a)), some (.int (nI b))]) pn_X9 rfl rfl (Nat.le_of_ble_eq_true rfl) ?_
  refine r_bipush (127) dX9_bothIn_0 rfl ?_
  refine r_aload_n dX9_bothIn_2 rfl ?_
  refine getX9_9 rfl dX9_bothIn_3 ?_
  refine r_iload_n dX9_bothIn_6 rfl ?_
  refine r_iconst (2) dX9_bothIn_7 rfl ?_
  refine cS_i2 fX9_of lkX9_44 rfl dX9_bothIn_8 (sp_of2  ?_)
  refine ld_19  (by omega) (by omega) dX9_bothIn_11 ?_
  refine r_iconst (-1) dX9_bothIn_12 rfl ?_
  refine r_ixor dX9_bothIn_13 ?_
  refine r_iand dX9_bothIn_14 ?_
  refine r_aload_n dX9_bothIn_15 rfl ?_
  refine getX9_9 rfl dX9_bothIn_16 ?_
  refine r_iload_n dX9_bothIn_19 rfl ?_
  refine r_iconst (2) dX9_bothIn_20 rfl ?_
  refine cS_i2 fX9_of lkX9_44 rfl dX9_bothIn_21 (sp_of2  ?_)
  refine ld_19  (by omega) (by omega) dX9_bothIn_24 ?_
  refine r_iconst (-1) dX9_bothIn_25 rfl ?_
  refine r_ixor dX9_bothIn_26 ?_
  refine r_iand dX9_bothIn_27 ?_
  refine r_ireturn rfl (by first | rfl | exact nar_bi _ | assumption) dX9_bothIn_28 ⟨_, rfl, ?_⟩
  exact K
theorem sp_X9_meet {n : Nat} {p q : Int32} (hW : WF (σ 3) n) (Kr : two2 p q n = false → Q (-1) (rfs σ 13 (-1))) (K : ∀ a b, a < n → b < n → p = nI a → q = nI b → two2 p q n = true → Q (mtg (σ 3) a b) σ) : Mi E mX9_meet [.ref (ad E 18 0), .int p, .int q] σ Q := by
  have hn6 := hW.2.1
  refine Mw_of (L0 := [some (.ref (ad E 18 0)), some (.int p), some (.int q)]) pn_X9 rfl rfl (Nat.le_of_ble_eq_true rfl) ?_
  refine r_aload_n dX9_meet_0 rfl ?_
  refine r_iload_n dX9_meet_1 rfl ?_
  refine cV_i1 fX9_isWorker rcv_18 lkX9_113 rfl dX9_meet_2 (sp_X9_isWorker hW.1 hn6 ?_)
  refine r_if_eq 30 dX9_meet_5 rfl (fun h5 => ?_) (fun h5 => ?_)
  · refine r_aload_n dX9_meet_30 rfl ?_
    refine r_iconst (-1) dX9_meet_31 rfl ?_
    refine cV_i1 fX9_no rcv_18 lkX9_36 rfl dX9_meet_32 (sp_X9_no (Or.inl rfl) ?_)
    refine r_ireturn rfl (by first | rfl | exact nar_bi _ | assumption) dX9_meet_35 ⟨_, rfl, ?_⟩
    exact Kr (by unfold two2; rw [(bi_eq0 _).mp h5]; rfl)
  · refine r_aload_n dX9_meet_8 rfl ?_
    refine r_iload_n dX9_meet_9 rfl ?_
    refine cV_i1 fX9_isWorker rcv_18 lkX9_113 rfl dX9_meet_10 (sp_X9_isWorker hW.1 hn6 ?_)
    refine r_if_eq 30 dX9_meet_13 rfl (fun h13 => ?_) (fun h13 => ?_)
    · refine r_aload_n dX9_meet_30 rfl ?_
      refine r_iconst (-1) dX9_meet_31 rfl ?_
      refine cV_i1 fX9_no rcv_18 lkX9_36 rfl dX9_meet_32 (sp_X9_no (Or.inl rfl) ?_)
      refine r_ireturn rfl (by first | rfl | exact nar_bi _ | assumption) dX9_meet_35 ⟨_, rfl, ?_⟩
      exact Kr (by unfold two2; rw [(bi_eq0 _).mp h13, Bool.and_false]; rfl)
    · refine r_iload_n dX9_meet_16 rfl ?_
      refine r_iload_n dX9_meet_17 rfl ?_
      refine r_icmp_eq 30 dX9_meet_18 rfl (fun h18 => ?_) (fun h18 => ?_)
      · refine r_aload_n dX9_meet_30 rfl ?_
        refine r_iconst (-1) dX9_meet_31 rfl ?_
        refine cV_i1 fX9_no rcv_18 lkX9_36 rfl dX9_meet_32 (sp_X9_no (Or.inl rfl) ?_)
        refine r_ireturn rfl (by first | rfl | exact nar_bi _ | assumption) dX9_meet_35 ⟨_, rfl, ?_⟩
        exact Kr (by unfold two2; rw [h18]; simp)
      · have h2 : two2 p q n = true := by unfold two2; rw [tb_of h5, tb_of h13]; simp [h18]
        obtain ⟨a, b, ha, hb, hab, rfl, rfl⟩ := two2_ex h2 hn6
        refine r_aload_n dX9_meet_21 rfl ?_
        refine r_iload_n dX9_meet_22 rfl ?_
        refine r_iload_n dX9_meet_23 rfl ?_
        refine cV_i2 fX9_bothIn rcv_18 lkX9_164 rfl dX9_meet_24 (sp_X9_bothIn (by omega) (by omega) ?_)
        refine r_goto 35 dX9_meet_27 rfl ?_
        refine r_ireturn rfl (by first | rfl | exact nar_bi _ | assumption) dX9_meet_35 ⟨_, rfl, ?_⟩
        exact K a b ha hb rfl rfl h2
/-- judge -/
def jdg (r : Row) (n : Nat) (tl : Row) (c : Nat) : Option Nat := fnd (fun d => decide (7 ≤ d) || !(bsum (inO r (nI d) n) 7 == tl d)) 0 c
theorem sp_X8_judge {n c : Nat} (hW : WF (σ 0) n) (hc : σ 10 1 = nI c) (hc16 : c ≤ 16) (K : Q (oI (jdg (σ 0) n (σ 8) c)) (s2 σ 10 1 0)) : Mi E mX8_judge [.ref (ad E 0 0)] σ Q := by
  have hn6 := hW.2.1
  refine Mw_of (L0 := [some (.ref (ad E 0 0)), none, none]) pn_X8 rfl rfl (Nat.le_of_ble_eq_true rfl) ?_
  refine r_aload_n dX8_judge_0 rfl ?_
  refine getX8_37 rfl dX8_judge_1 ?_
  rw [hc]
  refine r_istore_n_1 dX8_judge_4 rfl ?_
  refine r_aload_n dX8_judge_5 rfl ?_
  refine r_iconst (0) dX8_judge_6 rfl ?_
  refine putX8_37 rfl dX8_judge_7 ?_
  refine r_iconst (0) dX8_judge_10 rfl ?_
  refine r_istore_n_2 dX8_judge_11 rfl ?_
  have e0 : ∀ j, s2 σ 10 1 0 0 j = σ 0 j := fun j => s2_ne (Or.inl (by omega))
  have e8 : ∀ j, s2 σ 10 1 0 8 j = σ 8 j := fun j => s2_ne (Or.inl (by omega))
  have er : s2 σ 10 1 0 0 = σ 0 := funext e0
  have LOOP : ∀ k, k ≤ c → jdg (σ 0) n (σ 8) c = fnd (fun d => decide (7 ≤ d) || !(bsum (inO (σ 0) (nI d) n) 7 == σ 8 d)) k (c - k) → GW E (ZM E 3 fun v σ' => ∃ r, v = some (.int r) ∧ Q r σ') mX8_judge 12 [some (.ref (ad E 0 0)), some (.int (nI c)), some (.int (nI k))] [] (s2 σ 10 1 0) := by
    refine down ?_ ?_
    · intro hf
      refine r_iload_n dX8_judge_12 rfl ?_
      refine r_iload_n dX8_judge_13 rfl ?_
      refine r_icmp_ge_N 51 dX8_judge_14 rfl (by omega) (by omega) (fun h14 => ?_) (fun h14 => ?_)
      · refine r_bipush (-9) dX8_judge_51 rfl ?_
        refine r_ireturn rfl (by first | rfl | exact nar_bi _ | assumption) dX8_judge_53 ⟨_, rfl, ?_⟩
        exact qof K (by rw [hf, Nat.sub_self]; rfl) rfl
      · exfalso; omega
    · intro k hk ih hf
      rw [show c - k = (c - (k + 1)) + 1 by omega, fnd] at hf
      refine r_iload_n dX8_judge_12 rfl ?_
      refine r_iload_n dX8_judge_13 rfl ?_
      refine r_icmp_ge_N 51 dX8_judge_14 rfl (by omega) (by omega) (fun h14 => ?_) (fun h14 => ?_)
      · exfalso; omega
      · obtain ⟨m, hm, em⟩ := R7_ex (inO_R7 (r := σ 0) (d := nI k) n hn6)
        refine r_iload_n dX8_judge_17 rfl ?_
        refine r_bipush (7) dX8_judge_18 rfl ?_
        refine r_icmp_ge_N (b := 7) 43 dX8_judge_20 rfl (by omega) (by omega) (fun h20 => ?_) (fun h20 => ?_)
        · refine r_iload_n dX8_judge_43 rfl ?_
          refine r_ireturn rfl (by first | rfl | exact nar_bi _ | assumption) dX8_judge_44 ⟨_, rfl, ?_⟩
          exact qof K (by rw [hf, decide_eq_true h20]; rfl) rfl
        · rw [decide_eq_false (by omega), Bool.false_or] at hf
          refine r_aload_n dX8_judge_23 rfl ?_
          refine getX8_10 rfl dX8_judge_24 ?_
          refine r_iload_n dX8_judge_27 rfl ?_
          refine cVN_i1 fX1_whoIsIn (rcv_1 (by omega)) lkX8_160 rfl dX8_judge_28 (sp_X1_whoIsIn (by omega) (by rw [e0]; exact hW.1) hn6 ?_)
          rw [er, em]
          refine cS_i1 fJ6_bitCount_0f7a4 lkX8_208 rfl dX8_judge_31 (sp_J6_bitCount_0f7a4 hm ?_)
          rw [← em]
          refine r_aload_n dX8_judge_34 rfl ?_
          refine getX8_33 rfl dX8_judge_35 ?_
          refine r_iload_n dX8_judge_38 rfl ?_
          refine ld_16  (by omega) dX8_judge_39 ?_
          rw [e8]
          refine r_icmp_eq 45 dX8_judge_40 rfl (fun h40 => ?_) (fun h40 => ?_)
          · refine r_inc1_2 dX8_judge_45 rfl ?_
            refine r_goto 12 dX8_judge_48 rfl ?_
            exact ih (by rw [hf, if_neg (by simp [h40])])
          · refine r_iload_n dX8_judge_43 rfl ?_
            refine r_ireturn rfl (by first | rfl | exact nar_bi _ | assumption) dX8_judge_44 ⟨_, rfl, ?_⟩
            exact qof K (by rw [hf, if_pos (by simp [h40])]; rfl) rfl
  exact LOOP 0 (by omega) rfl
theorem sp_X9_judge {n c : Nat} (hW : WF (σ 3) n) (hc : σ 15 2 = nI c) (hc16 : c ≤ 16) (K : Q (oI (jdg (σ 3) n (σ 12) c)) (s2 σ 15 2 0)) : Mi E mX9_judge [.ref (ad E 18 0)] σ Q := by
  have hn6 := hW.2.1
  refine Mw_of (L0 := [some (.ref (ad E 18 0)), none, none]) pn_X9 rfl rfl (Nat.le_of_ble_eq_true rfl) ?_
  refine r_aload_n dX9_judge_0 rfl ?_
  refine getX9_192 rfl dX9_judge_1 ?_
  rw [hc]
  refine r_istore_n_1 dX9_judge_4 rfl ?_
  refine r_aload_n dX9_judge_5 rfl ?_
  refine r_iconst (0) dX9_judge_6 rfl ?_
  refine putX9_192 rfl dX9_judge_7 ?_
  refine r_iconst (0) dX9_judge_10 rfl ?_
  refine r_istore_n_2 dX9_judge_11 rfl ?_
  have e0 : ∀ j, s2 σ 15 2 0 3 j = σ 3 j := fun j => s2_ne (Or.inl (by omega))
  have e8 : ∀ j, s2 σ 15 2 0 12 j = σ 12 j := fun j => s2_ne (Or.inl (by omega))
  have er : s2 σ 15 2 0 3 = σ 3 := funext e0
  have LOOP : ∀ k, k ≤ c → jdg (σ 3) n (σ 12) c = fnd (fun d => decide (7 ≤ d) || !(bsum (inO (σ 3) (nI d) n) 7 == σ 12 d)) k (c - k) → GW E (ZM E 2 fun v σ' => ∃ r, v = some (.int r) ∧ Q r σ') mX9_judge 12 [some (.ref (ad E 18 0)), some (.int (nI c)), some (.int (nI k))] [] (s2 σ 15 2 0) := by
    refine down ?_ ?_
    · intro hf
      refine r_iload_n dX9_judge_12 rfl ?_
      refine r_iload_n dX9_judge_13 rfl ?_
      refine r_icmp_ge_N 52 dX9_judge_14 rfl (by omega) (by omega) (fun h14 => ?_) (fun h14 => ?_)
      · refine r_bipush (-9) dX9_judge_52 rfl ?_
        refine r_ireturn rfl (by first | rfl | exact nar_bi _ | assumption) dX9_judge_54 ⟨_, rfl, ?_⟩
        exact qof K (by rw [hf, Nat.sub_self]; rfl) rfl
      · exfalso; omega
    · intro k hk ih hf
      rw [show c - k = (c - (k + 1)) + 1 by omega, fnd] at hf
      refine r_iload_n dX9_judge_12 rfl ?_
      refine r_iload_n dX9_judge_13 rfl ?_
      refine r_icmp_ge_N 52 dX9_judge_14 rfl (by omega) (by omega) (fun h14 => ?_) (fun h14 => ?_)
      · exfalso; omega
      · refine r_iload_n dX9_judge_17 rfl ?_
        refine cS_i1 fX9_isWeekday lkX9_117 rfl dX9_judge_18 (sp_X9_isWeekday  ?_)
        refine r_if_eq 44 dX9_judge_21 rfl (fun h21 => ?_) (fun h21 => ?_)
        · have h21 := of_decide_eq_false ((bi_eq0 _).mp h21)
          have h7 : 7 ≤ k := by
            refine Nat.not_lt.mp (fun h => h21 ⟨nI_pos' (by omega), (nI_leI (b := 6) (by omega) (by omega)).mpr (by omega)⟩)
          refine r_iload_n dX9_judge_44 rfl ?_
          refine r_ireturn rfl (by first | rfl | exact nar_bi _ | assumption) dX9_judge_45 ⟨_, rfl, ?_⟩
          exact qof K (by rw [hf, decide_eq_true h7]; rfl) rfl
        · have h21 := of_decide_eq_true (tb_of h21)
          have h7 := (nI_leI (b := 6) (by omega) (by omega)).mp h21.2
          rw [decide_eq_false (by omega), Bool.false_or] at hf
          refine r_aload_n dX9_judge_24 rfl ?_
          refine getX9_9 rfl dX9_judge_25 ?_
          refine r_iload_n dX9_judge_28 rfl ?_
          refine cS_i2 fX9_inOn lkX9_144 rfl dX9_judge_29 (sp_X9_inOn (by omega) (by rw [e0]; exact hW.1) hn6 ?_)
          rw [er]
          refine cS_i1 fX9_bits lkX9_52 rfl dX9_judge_32 (sp_X9_bits  ?_)
          refine r_aload_n dX9_judge_35 rfl ?_
          refine getX9_25 rfl dX9_judge_36 ?_
          refine r_iload_n dX9_judge_39 rfl ?_
          refine ld_21  (by omega) dX9_judge_40 ?_
          rw [e8]
          refine r_icmp_eq 46 dX9_judge_41 rfl (fun h41 => ?_) (fun h41 => ?_)
          · refine r_inc1_2 dX9_judge_46 rfl ?_
            refine r_goto 12 dX9_judge_49 rfl ?_
            exact ih (by rw [hf, if_neg (by simp [h41])])
          · refine r_iload_n dX9_judge_44 rfl ?_
            refine r_ireturn rfl (by first | rfl | exact nar_bi _ | assumption) dX9_judge_45 ⟨_, rfl, ?_⟩
            exact qof K (by rw [hf, if_pos (by simp [h41])]; rfl) rfl
  exact LOOP 0 (by omega) rfl
/-- rest -/
def rsr (x : Int32) : Nat → Int32
  | 0 => 0
  | k + 1 => if tb x (nI (k % 7)) then rsr x k + 1 else 0
def rsb (x : Int32) : Nat → Int32
  | 0 => 0
  | k + 1 => if rsb x k < rsr x (k + 1) then rsr x (k + 1) else rsb x k
theorem least7 (b : Int32) : (if 7 < b then 7 else b) = least b 7 := by
  unfold least
  by_cases h : b < 7
  · rw [if_pos h, if_neg (fun q => absurd (Int32.lt_trans q h) Int32.lt_irrefl)]
  · rw [if_neg h]
    by_cases h2 : 7 < b
    · rw [if_pos h2]
    · rw [if_neg h2]
      exact Int32.le_antisymm (Int32.not_lt.mp h2) (Int32.not_lt.mp h)
theorem rem7 {k : Nat} (hk : k < 1000) : nI k - nI k / 7 * 7 = nI (k % 7) := pk_rem (d := 7) (by omega) (by omega) (by omega)
theorem sp_X8_rest {n : Nat} {p : Int32} (hW : WF (σ 0) n) (Kr : hasW p n = false → Q (-1) (rfs σ 9 (-1))) (K : ∀ q, q < n → p = nI q → hasW p n = true → Q (least (rsb (σ 0 (5 + 5 * q)) 14) 7) σ) : Mi E mX8_rest [.ref (ad E 0 0), .int p] σ Q := by
  have hn6 := hW.2.1
  refine Mw_of (L0 := [some (.ref (ad E 0 0)), some (.int p), none, none, none]) pn_X8 rfl rfl (Nat.le_of_ble_eq_true rfl) ?_
  refine r_aload_n dX8_rest_0 rfl ?_
  refine getX8_10 rfl dX8_rest_1 ?_
  refine r_iload_n dX8_rest_4 rfl ?_
  refine cVN_i1 fX1_has (rcv_1 (by omega)) lkX8_87 rfl dX8_rest_5 (sp_X1_has (by omega) hW.1 ?_)
  refine r_if_ne 17 dX8_rest_8 rfl (fun h8 => ?_) (fun h8 => ?_)
  · obtain ⟨q, hq, rfl⟩ := hasW_ex (tb_of h8) hn6
    have K := K q hq rfl (tb_of h8)
    refine r_iconst (0) dX8_rest_17 rfl ?_
    refine r_istore_n_2 dX8_rest_18 rfl ?_
    refine r_iconst (0) dX8_rest_19 rfl ?_
    refine r_istore_n_3 dX8_rest_20 rfl ?_
    refine r_iconst (0) dX8_rest_21 rfl ?_
    refine r_istore_4 dX8_rest_22 rfl ?_
    have LOOP : ∀ k, k ≤ 14 → GW E (ZM E 2 fun v σ' => ∃ r, v = some (.int r) ∧ Q r σ') mX8_rest 24 [some (.ref (ad E 0 0)), some (.int (nI q)), some (.int (rsb (σ 0 (5 + 5 * q)) k)), some (.int (rsr (σ 0 (5 + 5 * q)) k)), some (.int (nI k))] [] σ := by
      refine down ?_ ?_
      · refine r_iload dX8_rest_24 rfl ?_
        refine r_bipush (14) dX8_rest_26 rfl ?_
        refine r_icmp_ge_N (b := 14) 67 dX8_rest_28 rfl (by omega) (by omega) (fun h28 => ?_) (fun h28 => ?_)
        · refine r_iload_n dX8_rest_67 rfl ?_
          refine r_bipush (7) dX8_rest_68 rfl ?_
          refine r_mmin lkX8_198 wm_min1 wm_init wm_min2 rfl dX8_rest_70 ?_
          refine r_ireturn rfl (by first | rfl | exact nar_bi _ | assumption) dX8_rest_73 ⟨_, rfl, ?_⟩
          exact qof K (least7 _) rfl
        · exfalso; omega
      · intro k hk ih
        rw [rsb, rsr] at ih
        refine r_iload dX8_rest_24 rfl ?_
        refine r_bipush (14) dX8_rest_26 rfl ?_
        refine r_icmp_ge_N (b := 14) 67 dX8_rest_28 rfl (by omega) (by omega) (fun h28 => ?_) (fun h28 => ?_)
        · exfalso; omega
        · refine r_aload_n dX8_rest_31 rfl ?_
          refine getX8_10 rfl dX8_rest_32 ?_
          refine r_iload_n dX8_rest_35 rfl ?_
          refine r_iload dX8_rest_36 rfl ?_
          refine r_bipush (7) dX8_rest_38 rfl ?_
          refine r_irem dX8_rest_40 (by decide) ?_
          rw [rem7 (by omega)]
          refine cVN_i2 fX1_isOff (rcv_1 (by omega)) lkX8_190 rfl dX8_rest_41 (sp_X1_isOff (by omega) (by omega) ?_)
          refine r_if_eq 53 dX8_rest_44 rfl (fun h44 => ?_) (fun h44 => ?_)
          · rw [(bi_eq0 _).mp h44] at ih
            simp only [Bool.false_eq_true, if_false] at ih
            refine r_iconst (0) dX8_rest_53 rfl ?_
            refine r_istore_n_3 dX8_rest_54 rfl ?_
            refine r_iload_n dX8_rest_55 rfl ?_
            refine r_iload_n dX8_rest_56 rfl ?_
            refine r_mmax lkX8_193 wm_max1 wm_init wm_max2 rfl dX8_rest_57 ?_
            refine r_istore_n_2 dX8_rest_60 rfl ?_
            refine r_inc1_4 dX8_rest_61 rfl ?_
            refine r_goto 24 dX8_rest_64 rfl ?_
            exact ih
          · rw [tb_of h44] at ih
            simp only [if_true] at ih
            refine r_iload_n dX8_rest_47 rfl ?_
            refine r_iconst (1) dX8_rest_48 rfl ?_
            refine r_iadd dX8_rest_49 ?_
            refine r_goto 54 dX8_rest_50 rfl ?_
            refine r_istore_n_3 dX8_rest_54 rfl ?_
            refine r_iload_n dX8_rest_55 rfl ?_
            refine r_iload_n dX8_rest_56 rfl ?_
            refine r_mmax lkX8_193 wm_max1 wm_init wm_max2 rfl dX8_rest_57 ?_
            refine r_istore_n_2 dX8_rest_60 rfl ?_
            refine r_inc1_4 dX8_rest_61 rfl ?_
            refine r_goto 24 dX8_rest_64 rfl ?_
            exact ih
    exact LOOP 0 (by omega)
  · refine r_aload_n dX8_rest_11 rfl ?_
    refine r_iconst (-1) dX8_rest_12 rfl ?_
    refine cV_i1 fX8_refuse rcv_0 lkX8_52 rfl dX8_rest_13 (sp_X8_refuse (Or.inl rfl) ?_)
    refine r_ireturn rfl (by first | rfl | exact nar_bi _ | assumption) dX8_rest_16 ⟨_, rfl, ?_⟩
    exact Kr ((bi_eq0 _).mp h8)
theorem sp_X9_rest {n : Nat} {p : Int32} (hW : WF (σ 3) n) (Kr : hasW p n = false → Q (-1) (rfs σ 13 (-1))) (K : ∀ q, q < n → p = nI q → hasW p n = true → Q (least (rsb (σ 3 (5 + 5 * q)) 14) 7) σ) : Mi E mX9_rest [.ref (ad E 18 0), .int p] σ Q := by
  have hn6 := hW.2.1
  refine Mw_of (L0 := [some (.ref (ad E 18 0)), some (.int p), none, none, none]) pn_X9 rfl rfl (Nat.le_of_ble_eq_true rfl) ?_
  refine r_aload_n dX9_rest_0 rfl ?_
  refine r_iload_n dX9_rest_1 rfl ?_
  refine cV_i1 fX9_isWorker rcv_18 lkX9_113 rfl dX9_rest_2 (sp_X9_isWorker hW.1 hn6 ?_)
  refine r_if_ne 14 dX9_rest_5 rfl (fun h5 => ?_) (fun h5 => ?_)
  · obtain ⟨q, hq, rfl⟩ := hasW_ex (tb_of h5) hn6
    have K := K q hq rfl (tb_of h5)
    refine r_iconst (0) dX9_rest_14 rfl ?_
    refine r_istore_n_2 dX9_rest_15 rfl ?_
    refine r_iconst (0) dX9_rest_16 rfl ?_
    refine r_istore_n_3 dX9_rest_17 rfl ?_
    refine r_iconst (0) dX9_rest_18 rfl ?_
    refine r_istore_4 dX9_rest_19 rfl ?_
    have LOOP : ∀ k, k ≤ 14 → GW E (ZM E 2 fun v σ' => ∃ r, v = some (.int r) ∧ Q r σ') mX9_rest 21 [some (.ref (ad E 18 0)), some (.int (nI q)), some (.int (rsb (σ 3 (5 + 5 * q)) k)), some (.int (rsr (σ 3 (5 + 5 * q)) k)), some (.int (nI k))] [] σ := by
      refine down ?_ ?_
      · refine r_iload dX9_rest_21 rfl ?_
        refine r_bipush (14) dX9_rest_23 rfl ?_
        refine r_icmp_ge_N (b := 14) 74 dX9_rest_25 rfl (by omega) (by omega) (fun h25 => ?_) (fun h25 => ?_)
        · refine r_iload_n dX9_rest_74 rfl ?_
          refine r_bipush (7) dX9_rest_75 rfl ?_
          refine cS_i2 fX9_least lkX9_79 rfl dX9_rest_77 (sp_X9_least  ?_)
          refine r_ireturn rfl (by first | rfl | exact nar_bi _ | assumption) dX9_rest_80 ⟨_, rfl, ?_⟩
          exact K
        · exfalso; omega
      · intro k hk ih
        rw [rsb, rsr] at ih
        refine r_iload dX9_rest_21 rfl ?_
        refine r_bipush (14) dX9_rest_23 rfl ?_
        refine r_icmp_ge_N (b := 14) 74 dX9_rest_25 rfl (by omega) (by omega) (fun h25 => ?_) (fun h25 => ?_)
        · exfalso; omega
        · refine r_aload_n dX9_rest_28 rfl ?_
          refine getX9_9 rfl dX9_rest_29 ?_
          refine r_iload_n dX9_rest_32 rfl ?_
          refine r_iconst (2) dX9_rest_33 rfl ?_
          refine cS_i2 fX9_of lkX9_44 rfl dX9_rest_34 (sp_of2  ?_)
          refine ld_19  (by omega) (by omega) dX9_rest_37 ?_
          refine r_iload dX9_rest_38 rfl ?_
          refine r_bipush (7) dX9_rest_40 rfl ?_
          refine r_irem dX9_rest_42 (by decide) ?_
          rw [rem7 (by omega)]
          refine cS_i2 fX9_has lkX9_65 rfl dX9_rest_43 (sp_X9_has  ?_)
          refine r_if_eq 55 dX9_rest_46 rfl (fun h46 => ?_) (fun h46 => ?_)
          · rw [(bi_eq0 _).mp h46] at ih
            simp only [Bool.false_eq_true, if_false] at ih
            refine r_iconst (0) dX9_rest_55 rfl ?_
            refine r_istore_n_3 dX9_rest_56 rfl ?_
            refine r_iload_n dX9_rest_57 rfl ?_
            refine r_iload_n dX9_rest_58 rfl ?_
            refine r_icmp_le 66 dX9_rest_59 rfl (fun h59 => ?_) (fun h59 => ?_)
            · rw [if_neg (Int32.not_lt.mpr h59)] at ih
              refine r_iload_n dX9_rest_66 rfl ?_
              refine r_istore_n_2 dX9_rest_67 rfl ?_
              refine r_inc1_4 dX9_rest_68 rfl ?_
              refine r_goto 21 dX9_rest_71 rfl ?_
              exact ih
            · rw [if_pos (Int32.not_le.mp h59)] at ih
              refine r_iload_n dX9_rest_62 rfl ?_
              refine r_goto 67 dX9_rest_63 rfl ?_
              refine r_istore_n_2 dX9_rest_67 rfl ?_
              refine r_inc1_4 dX9_rest_68 rfl ?_
              refine r_goto 21 dX9_rest_71 rfl ?_
              exact ih
          · rw [tb_of h46] at ih
            simp only [if_true] at ih
            refine r_iload_n dX9_rest_49 rfl ?_
            refine r_iconst (1) dX9_rest_50 rfl ?_
            refine r_iadd dX9_rest_51 ?_
            refine r_goto 56 dX9_rest_52 rfl ?_
            refine r_istore_n_3 dX9_rest_56 rfl ?_
            refine r_iload_n dX9_rest_57 rfl ?_
            refine r_iload_n dX9_rest_58 rfl ?_
            refine r_icmp_le 66 dX9_rest_59 rfl (fun h59 => ?_) (fun h59 => ?_)
            · rw [if_neg (Int32.not_lt.mpr h59)] at ih
              refine r_iload_n dX9_rest_66 rfl ?_
              refine r_istore_n_2 dX9_rest_67 rfl ?_
              refine r_inc1_4 dX9_rest_68 rfl ?_
              refine r_goto 21 dX9_rest_71 rfl ?_
              exact ih
            · rw [if_pos (Int32.not_le.mp h59)] at ih
              refine r_iload_n dX9_rest_62 rfl ?_
              refine r_goto 67 dX9_rest_63 rfl ?_
              refine r_istore_n_2 dX9_rest_67 rfl ?_
              refine r_inc1_4 dX9_rest_68 rfl ?_
              refine r_goto 21 dX9_rest_71 rfl ?_
              exact ih
    exact LOOP 0 (by omega)
  · refine r_aload_n dX9_rest_8 rfl ?_
    refine r_iconst (-1) dX9_rest_9 rfl ?_
    refine cV_i1 fX9_no rcv_18 lkX9_36 rfl dX9_rest_10 (sp_X9_no (Or.inl rfl) ?_)
    refine r_ireturn rfl (by first | rfl | exact nar_bi _ | assumption) dX9_rest_13 ⟨_, rfl, ?_⟩
    exact Kr ((bi_eq0 _).mp h5)
end PUBC
