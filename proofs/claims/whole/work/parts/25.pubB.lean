/-! ===== what is asked and changed, the twin's side: first batch ===== -/
section PUBB
variable {E : EnvT} {σ : Sg} {Q : Int32 → Sg → Prop} {Ql : Int64 → Sg → Prop} {Qv : Sg → Prop}
theorem sp_X9_no {c : Int32} (hc : isRef c) (K : Q c (rfs σ 13 c)) : Mi E mX9_no [.ref (ad E 18 0), .int c] σ Q := by
  obtain ⟨k, h0, h7, e1, e2⟩ := isRef_N hc
  unfold rfs at K
  rw [e2] at K
  refine Mw_of (L0 := [some (.ref (ad E 18 0)), some (.int c)]) pn_X9 rfl rfl (Nat.le_of_ble_eq_true rfl) ?_
  refine r_aload_n dX9_no_0 rfl ?_
  refine getX9_28 rfl dX9_no_1 ?_
  refine r_iload_n dX9_no_4 rfl ?_
  refine r_ineg dX9_no_5 ?_
  rw [e1]
  refine r_dup2 dX9_no_6 rfl rfl ?_
  refine ld_22  (by omega) dX9_no_7 ?_
  refine r_iconst (1) dX9_no_8 rfl ?_
  refine r_iadd dX9_no_9 ?_
  refine st_22  (by omega) dX9_no_10 ?_
  refine r_iload_n dX9_no_11 rfl ?_
  refine r_ireturn rfl (by first | rfl | exact nar_bi _ | assumption) dX9_no_12 ⟨_, rfl, ?_⟩
  exact K
theorem sp_X9_noWide {c : Int32} (hc : isRef c) (K : Ql (WIDE - c.toInt64) (rfs σ 13 c)) : Ml E mX9_noWide [.ref (ad E 18 0), .int c] σ Ql := by
  refine Mw_of (L0 := [some (.ref (ad E 18 0)), some (.int c)]) pn_X9 rfl rfl (Nat.le_of_ble_eq_true rfl) ?_
  refine r_ldc2 kcX9_34 dX9_noWide_0 ?_
  refine r_aload_n dX9_noWide_3 rfl ?_
  refine r_iload_n dX9_noWide_4 rfl ?_
  refine cV_i1 fX9_no rcv_18 lkX9_36 rfl dX9_noWide_5 (sp_X9_no hc ?_)
  refine r_i2l dX9_noWide_8 ?_
  refine r_lsub dX9_noWide_9 ?_
  refine r_lreturn rfl dX9_noWide_10 ⟨_, rfl, ?_⟩
  exact K
theorem pred_le {x : Int32} {n : Nat} (hn : n ≤ 6) : (0 ≤ x ∧ x ≤ nI n - 1) ↔ (0 ≤ x ∧ x < nI n) := by
  constructor
  · rintro ⟨h1, h2⟩
    refine ⟨h1, ?_⟩
    obtain ⟨j, hj, rfl⟩ := nI_of (Int32.not_lt.mpr h1)
    cases n with
    | zero =>
      exfalso
      have : nI j ≤ (-1 : Int32) := h2
      have h3 := Int32.le_iff_toInt_le.mp this
      rw [nI_toInt hj, show (-1 : Int32).toInt = -1 from rfl] at h3
      omega
    | succ n =>
      rw [nI_pred] at h2
      have := (nI_leI hj (by omega)).mp h2
      exact (nI_ltI hj (by omega)).mpr (by omega)
  · rintro ⟨h1, h2⟩
    refine ⟨h1, ?_⟩
    obtain ⟨j, hj, rfl⟩ := nI_of (Int32.not_lt.mpr h1)
    have := (nI_ltI hj (by omega)).mp h2
    cases n with
    | zero => omega
    | succ n =>
      rw [nI_pred]
      exact (nI_leI hj (by omega)).mpr (by omega)
theorem sp_X9_isWorker {n : Nat} {p : Int32} (hn : σ 3 0 = nI n) (hn6 : n ≤ 6) (K : Q (bi (hasW p n)) σ) : Mi E mX9_isWorker [.ref (ad E 18 0), .int p] σ Q := by
  refine Mw_of (L0 := [some (.ref (ad E 18 0)), some (.int p)]) pn_X9 rfl rfl (Nat.le_of_ble_eq_true rfl) ?_
  refine r_iload_n dX9_isWorker_0 rfl ?_
  refine r_iconst (0) dX9_isWorker_1 rfl ?_
  refine r_aload_n dX9_isWorker_2 rfl ?_
  refine getX9_9 rfl dX9_isWorker_3 ?_
  refine r_iconst (0) dX9_isWorker_6 rfl ?_
  refine ld_19 (t := 0)  (by omega) (by omega) dX9_isWorker_7 ?_
  rw [hn]
  refine r_iconst (1) dX9_isWorker_8 rfl ?_
  refine r_isub dX9_isWorker_9 ?_
  refine cS_i3 fX9_isIn lkX9_40 rfl dX9_isWorker_10 (sp_X9_isIn  ?_)
  refine r_ireturn rfl (by first | rfl | exact nar_bi _ | assumption) dX9_isWorker_13 ⟨_, rfl, ?_⟩
  exact qof K (by unfold hasW; congr 1; exact decide_eq_decide.mpr (pred_le hn6)) rfl
theorem sp_X9_canGive {g t : Nat} {w : Int32} (hg : g < 6) (ht : t < 6) (K : Q (bi (tb (σ 3 (5 + 5 * g)) w && !tb (σ 3 (5 + 5 * t)) w)) σ) : Mi E mX9_canGive [.ref (ad E 18 0), .int (nI g), .int (nI t), .int w] σ Q := by
  refine Mw_of (L0 := [some (.ref (ad E 18 0)), some (.int (nI g)), some (.int (nI t)), some (.int w)]) pn_X9 rfl rfl (Nat.le_of_ble_eq_true rfl) ?_
  refine r_aload_n dX9_canGive_0 rfl ?_
  refine getX9_9 rfl dX9_canGive_1 ?_
  refine r_iload_n dX9_canGive_4 rfl ?_
  refine r_iconst (2) dX9_canGive_5 rfl ?_
  refine cS_i2 fX9_of lkX9_44 rfl dX9_canGive_6 (sp_of2  ?_)
  refine ld_19  (by omega) (by omega) dX9_canGive_9 ?_
  refine r_iload_n dX9_canGive_10 rfl ?_
  refine cS_i2 fX9_has lkX9_65 rfl dX9_canGive_11 (sp_X9_has  ?_)
  refine r_if_eq 38 dX9_canGive_14 rfl (fun h14 => ?_) (fun h14 => ?_)
  · refine r_iconst (0) dX9_canGive_38 rfl ?_
    refine r_ireturn rfl (by first | rfl | exact nar_bi _ | assumption) dX9_canGive_39 ⟨_, rfl, ?_⟩
    exact qof K (by first | (rw [(bi_eq0 _).mp h14]; rfl) | (rw [tb_of h14, tb_of h31]; rfl) | (rw [tb_of h14, (bi_eq0 _).mp h31]; rfl)) rfl
  · refine r_aload_n dX9_canGive_17 rfl ?_
    refine getX9_9 rfl dX9_canGive_18 ?_
    refine r_iload_n dX9_canGive_21 rfl ?_
    refine r_iconst (2) dX9_canGive_22 rfl ?_
    refine cS_i2 fX9_of lkX9_44 rfl dX9_canGive_23 (sp_of2  ?_)
    refine ld_19  (by omega) (by omega) dX9_canGive_26 ?_
    refine r_iload_n dX9_canGive_27 rfl ?_
    refine cS_i2 fX9_has lkX9_65 rfl dX9_canGive_28 (sp_X9_has  ?_)
    refine r_if_ne 38 dX9_canGive_31 rfl (fun h31 => ?_) (fun h31 => ?_)
    · refine r_iconst (0) dX9_canGive_38 rfl ?_
      refine r_ireturn rfl (by first | rfl | exact nar_bi _ | assumption) dX9_canGive_39 ⟨_, rfl, ?_⟩
      exact qof K (by first | (rw [(bi_eq0 _).mp h14]; rfl) | (rw [tb_of h14, tb_of h31]; rfl) | (rw [tb_of h14, (bi_eq0 _).mp h31]; rfl)) rfl
    · refine r_iconst (1) dX9_canGive_34 rfl ?_
      refine r_goto 39 dX9_canGive_35 rfl ?_
      refine r_ireturn rfl (by first | rfl | exact nar_bi _ | assumption) dX9_canGive_39 ⟨_, rfl, ?_⟩
      exact qof K (by first | (rw [(bi_eq0 _).mp h14]; rfl) | (rw [tb_of h14, tb_of h31]; rfl) | (rw [tb_of h14, (bi_eq0 _).mp h31]; rfl)) rfl
theorem sp_X9_wrongBy {x lo hi : Int32} (K : Q (outs x lo hi) σ) : Mi E mX9_wrongBy [.int x, .int lo, .int hi] σ Q := by
  refine Mw_of (L0 := [some (.int x), some (.int lo), some (.int hi)]) pn_X9 rfl rfl (Nat.le_of_ble_eq_true rfl) ?_
  refine r_iload_n dX9_wrongBy_0 rfl ?_
  refine r_iload_n dX9_wrongBy_1 rfl ?_
  refine r_icmp_ge 10 dX9_wrongBy_2 rfl (fun h2 => ?_) (fun h2 => ?_)
  · refine r_iload_n dX9_wrongBy_10 rfl ?_
    refine r_iload_n dX9_wrongBy_11 rfl ?_
    refine r_icmp_le 20 dX9_wrongBy_12 rfl (fun h12 => ?_) (fun h12 => ?_)
    · refine r_iconst (0) dX9_wrongBy_20 rfl ?_
      refine r_ireturn rfl (by first | rfl | exact nar_bi _ | assumption) dX9_wrongBy_21 ⟨_, rfl, ?_⟩
      exact qof K (by unfold outs; first | exact (if_pos (Int32.not_le.mp h2)).symm | exact ((if_neg (Int32.not_lt.mpr h2)).trans (if_pos (Int32.not_le.mp h12))).symm | exact ((if_neg (Int32.not_lt.mpr h2)).trans (if_neg (Int32.not_lt.mpr h12))).symm) rfl
    · refine r_bipush (-6) dX9_wrongBy_15 rfl ?_
      refine r_goto 21 dX9_wrongBy_17 rfl ?_
      refine r_ireturn rfl (by first | rfl | exact nar_bi _ | assumption) dX9_wrongBy_21 ⟨_, rfl, ?_⟩
      exact qof K (by unfold outs; first | exact (if_pos (Int32.not_le.mp h2)).symm | exact ((if_neg (Int32.not_lt.mpr h2)).trans (if_pos (Int32.not_le.mp h12))).symm | exact ((if_neg (Int32.not_lt.mpr h2)).trans (if_neg (Int32.not_lt.mpr h12))).symm) rfl
  · refine r_bipush (-4) dX9_wrongBy_5 rfl ?_
    refine r_goto 21 dX9_wrongBy_7 rfl ?_
    refine r_ireturn rfl (by first | rfl | exact nar_bi _ | assumption) dX9_wrongBy_21 ⟨_, rfl, ?_⟩
    exact qof K (by unfold outs; first | exact (if_pos (Int32.not_le.mp h2)).symm | exact ((if_neg (Int32.not_lt.mpr h2)).trans (if_pos (Int32.not_le.mp h12))).symm | exact ((if_neg (Int32.not_lt.mpr h2)).trans (if_neg (Int32.not_lt.mpr h12))).symm) rfl
theorem sp_X9_takes {n m : Nat} (hW : WF (σ 3) n) (hm : m < 1000) (K : Qv (va_up σ 4 (dayN 0 n (σ 3) m))) : Mv E mX9_takes [.ref (ad E 18 0), .int (nI m)] σ Qv := by
  refine Mw_of (L0 := [some (.ref (ad E 18 0)), some (.int (nI m))]) pn_X9 rfl rfl (Nat.le_of_ble_eq_true rfl) ?_
  refine r_aload_n dX9_takes_0 rfl ?_
  refine getX9_9 rfl dX9_takes_1 ?_
  refine r_aload_n dX9_takes_4 rfl ?_
  refine getX9_13 rfl dX9_takes_5 ?_
  refine cS_v2 fX9_copies lkX9_129 rfl dX9_takes_8 (sp_X9_copies (by omega) (by omega) (by omega) ?_)
  refine r_aload_n dX9_takes_11 rfl ?_
  refine getX9_13 rfl dX9_takes_12 ?_
  refine r_iload_n dX9_takes_15 rfl ?_
  refine cS_v2 fX9_daysOn lkX9_123 rfl dX9_takes_16 (sp_X9_daysOn (by omega) (by rw [up_at]; exact hW.1) hW.2.1 hm ?_)
  refine r_return rfl dX9_takes_19 ⟨rfl, ?_⟩
  rw [up_at, up_up]
  exact K
theorem isWd_e (x : Int32) : decide (0 ≤ x ∧ x ≤ 6) = isWd x := by
  unfold isWd
  refine decide_eq_decide.mpr ⟨fun h => ⟨h.1, ?_⟩, fun h => ⟨h.1, ?_⟩⟩
  · obtain ⟨j, hj, rfl⟩ := nI_of (Int32.not_lt.mpr h.1)
    have := (nI_leI (b := 6) hj (by omega)).mp h.2
    exact (nI_ltI (b := 7) hj (by omega)).mpr (by omega)
  · obtain ⟨j, hj, rfl⟩ := nI_of (Int32.not_lt.mpr h.1)
    have := (nI_ltI (b := 7) hj (by omega)).mp h.2
    exact (nI_leI (b := 6) hj (by omega)).mpr (by omega)
theorem eith_e (x : Int32) : decide (0 ≤ x ∧ x ≤ 1) = eith x := by
  unfold eith
  by_cases h0 : x = 0
  · subst h0; rfl
  · by_cases h1 : x = 1
    · subst h1; rfl
    · rw [beq_eq_false_iff_ne.mpr h0, beq_eq_false_iff_ne.mpr h1, decide_eq_false]
      · rfl
      · rintro ⟨a, b⟩
        obtain ⟨j, hj, rfl⟩ := nI_of (Int32.not_lt.mpr a)
        have := (nI_leI (b := 1) hj (by omega)).mp b
        have : j = 0 ∨ j = 1 := by omega
        rcases this with rfl | rfl
        · exact h0 rfl
        · exact h1 rfl
theorem sp_X9_worker {n : Nat} {p w : Int32} (hW : WF (σ 3) n) (Kr : ∀ c, vWorker n p w = c → ¬ c = 0 → Q c (rfs σ 13 c)) (K : ∀ q, q < n → p = nI q → vWorker n p w = 0 → Q (wval (σ 3) q w) σ) : Mi E mX9_worker [.ref (ad E 18 0), .int p, .int w] σ Q := by
  have hn6 := hW.2.1
  refine Mw_of (L0 := [some (.ref (ad E 18 0)), some (.int p), some (.int w)]) pn_X9 rfl rfl (Nat.le_of_ble_eq_true rfl) ?_
  refine r_aload_n dX9_worker_0 rfl ?_
  refine r_iload_n dX9_worker_1 rfl ?_
  refine cV_i1 fX9_isWorker rcv_18 lkX9_113 rfl dX9_worker_2 (sp_X9_isWorker hW.1 hn6 ?_)
  refine r_if_ne 14 dX9_worker_5 rfl (fun h5 => ?_) (fun h5 => ?_)
  · obtain ⟨q, hq, rfl⟩ := hasW_ex (tb_of h5) hn6
    have hv : vWorker n (nI q) w = if 0 ≤ w ∧ w ≤ 5 then 0 else -2 := by unfold vWorker; rw [tb_of h5]; rfl
    refine r_iload_n dX9_worker_14 rfl ?_
    refine r_iconst (0) dX9_worker_15 rfl ?_
    refine r_iconst (4) dX9_worker_16 rfl ?_
    refine cS_i3 fX9_isIn lkX9_40 rfl dX9_worker_17 (sp_X9_isIn  ?_)
    refine r_if_eq 34 dX9_worker_20 rfl (fun h20 => ?_) (fun h20 => ?_)
    · have h20 := of_decide_eq_false ((bi_eq0 _).mp h20)
      refine r_iload_n dX9_worker_34 rfl ?_
      refine r_iconst (5) dX9_worker_35 rfl ?_
      refine r_icmp_ne 65 dX9_worker_36 rfl (fun h36 => ?_) (fun h36 => ?_)
      · refine r_aload_n dX9_worker_65 rfl ?_
        refine r_bipush (-2) dX9_worker_66 rfl ?_
        refine cV_i1 fX9_no rcv_18 lkX9_36 rfl dX9_worker_68 (sp_X9_no (Or.inr (Or.inl rfl)) ?_)
        refine r_ireturn rfl (by first | rfl | exact nar_bi _ | assumption) dX9_worker_71 ⟨_, rfl, ?_⟩
        refine Kr (-2) ?_ (by decide)
        rw [hv, if_neg]
        rintro ⟨a, b⟩
        obtain ⟨j, hj, rfl⟩ := nI_of (Int32.not_lt.mpr a)
        have b := (nI_leI (b := 5) hj (by omega)).mp b
        refine h20 ⟨a, (nI_leI (b := 4) hj (by omega)).mpr ?_⟩
        have : j ≠ 5 := fun e => h36 (by rw [e]; rfl)
        omega
      · refine r_aload_n dX9_worker_39 rfl ?_
        refine getX9_9 rfl dX9_worker_40 ?_
        refine r_iload_n dX9_worker_43 rfl ?_
        refine r_iconst (0) dX9_worker_44 rfl ?_
        refine cS_i2 fX9_of lkX9_44 rfl dX9_worker_45 (sp_of0  ?_)
        refine ld_19  (by omega) (by omega) dX9_worker_48 ?_
        refine r_aload_n dX9_worker_49 rfl ?_
        refine getX9_9 rfl dX9_worker_50 ?_
        refine r_iload_n dX9_worker_53 rfl ?_
        refine r_iconst (1) dX9_worker_54 rfl ?_
        refine cS_i2 fX9_of lkX9_44 rfl dX9_worker_55 (sp_of1  ?_)
        refine ld_19  (by omega) (by omega) dX9_worker_58 ?_
        refine cS_i2 fX9_paidBehind lkX9_82 rfl dX9_worker_59 (sp_X9_paidBehind  ?_)
        refine r_goto 71 dX9_worker_62 rfl ?_
        refine r_ireturn rfl (by first | rfl | exact nar_bi _ | assumption) dX9_worker_71 ⟨_, rfl, ?_⟩
        refine qof (K q hq rfl (by rw [hv, h36]; rfl)) ?_ rfl
        unfold wval
        rw [if_pos h36]
    · have h20 := of_decide_eq_true (tb_of h20)
      obtain ⟨j, hj, rfl⟩ := nI_of (Int32.not_lt.mpr h20.1)
      have hj4 := (nI_leI (b := 4) hj (by omega)).mp h20.2
      refine r_aload_n dX9_worker_23 rfl ?_
      refine getX9_9 rfl dX9_worker_24 ?_
      refine r_iload_n dX9_worker_27 rfl ?_
      refine r_iload_n dX9_worker_28 rfl ?_
      refine cS_i2 fX9_of lkX9_44 rfl dX9_worker_29 (sp_X9_of  ?_)
      refine ld_19  (by omega) (by omega) dX9_worker_32 ?_
      refine r_ireturn rfl (by first | rfl | exact nar_bi _ | assumption) dX9_worker_33 ⟨_, rfl, ?_⟩
      refine qof (K q hq rfl ?_) ?_ rfl
      · rw [hv, if_pos ⟨h20.1, (nI_leI (b := 5) hj (by omega)).mpr (by omega)⟩]
      · unfold wval
        rw [if_neg (fun e => by have := (nI_eq (b := 5) hj (by omega)).mp e; omega), nI_clamp hj]
  · refine r_aload_n dX9_worker_8 rfl ?_
    refine r_iconst (-1) dX9_worker_9 rfl ?_
    refine cV_i1 fX9_no rcv_18 lkX9_36 rfl dX9_worker_10 (sp_X9_no (Or.inl rfl) ?_)
    refine r_ireturn rfl (by first | rfl | exact nar_bi _ | assumption) dX9_worker_13 ⟨_, rfl, ?_⟩
    refine Kr (-1) ?_ (by decide)
    unfold vWorker
    rw [(bi_eq0 _).mp h5]
    rfl
theorem sp_X9_from {n : Nat} {p w : Int32} (hW : WF (σ 3) n) (Kr : ∀ c, vFrom n p w = c → ¬ c = 0 → Q c (rfs σ 13 c)) (K : ∀ q, q < n → p = nI q → vFrom n p w = 0 → Q (fval (σ 3) n q w) σ) : Mi E mX9_from [.ref (ad E 18 0), .int p, .int w] σ Q := by
  have hn6 := hW.2.1
  refine Mw_of (L0 := [some (.ref (ad E 18 0)), some (.int p), some (.int w), none]) pn_X9 rfl rfl (Nat.le_of_ble_eq_true rfl) ?_
  refine r_aload_n dX9_from_0 rfl ?_
  refine r_iload_n dX9_from_1 rfl ?_
  refine cV_i1 fX9_isWorker rcv_18 lkX9_113 rfl dX9_from_2 (sp_X9_isWorker hW.1 hn6 ?_)
  refine r_if_ne 14 dX9_from_5 rfl (fun h5 => ?_) (fun h5 => ?_)
  · obtain ⟨q, hq, rfl⟩ := hasW_ex (tb_of h5) hn6
    refine r_iload_n dX9_from_14 rfl ?_
    refine r_iconst (0) dX9_from_15 rfl ?_
    refine r_iconst (1) dX9_from_16 rfl ?_
    refine cS_i3 fX9_isIn lkX9_40 rfl dX9_from_17 (sp_X9_isIn  ?_)
    rw [eith_e]
    refine r_if_ne 30 dX9_from_20 rfl (fun h20 => ?_) (fun h20 => ?_)
    · have K := K q hq rfl (by unfold vFrom; rw [tb_of h5, tb_of h20]; rfl)
      unfold fval at K
      refine r_aload_n dX9_from_30 rfl ?_
      refine getX9_9 rfl dX9_from_31 ?_
      refine r_iload_n dX9_from_34 rfl ?_
      refine cS_i2 fX9_fromWhom lkX9_69 rfl dX9_from_35 (sp_X9_fromWhom (by omega) hW.1 hn6 hq ?_)
      refine r_istore_n_3 dX9_from_38 rfl ?_
      cases hf : fromW (σ 3) n q with
      | none =>
        rw [hf] at K
        rw [oI_none]
        refine r_iload_n dX9_from_39 rfl ?_
        refine r_if_lt 47 dX9_from_40 rfl (fun h40 => ?_) (fun h40 => ?_)
        · refine r_iload_n dX9_from_47 rfl ?_
          refine r_goto 60 dX9_from_48 rfl ?_
          refine r_ireturn rfl (by first | rfl | exact nar_bi _ | assumption) dX9_from_60 ⟨_, rfl, ?_⟩
          exact K
        · exact absurd (by decide) h40
      | some o =>
        have ho := fromW_lt (by omega) hf
        rw [hf] at K
        dsimp only at K
        rw [oI_some]
        refine r_iload_n dX9_from_39 rfl ?_
        refine r_if_lt 47 dX9_from_40 rfl (fun h40 => ?_) (fun h40 => ?_)
        · exact absurd h40 (nI_pos (by omega))
        · refine r_iload_n dX9_from_43 rfl ?_
          refine r_if_ne 51 dX9_from_44 rfl (fun h44 => ?_) (fun h44 => ?_)
          · refine r_aload_n dX9_from_51 rfl ?_
            refine getX9_9 rfl dX9_from_52 ?_
            refine r_iload_n dX9_from_55 rfl ?_
            refine r_iload_n dX9_from_56 rfl ?_
            refine cS_i3 fX9_whichOf lkX9_72 rfl dX9_from_57 (sp_X9_whichOf (by omega) (by omega) (by omega) ?_)
            refine r_ireturn rfl (by first | rfl | exact nar_bi _ | assumption) dX9_from_60 ⟨_, rfl, ?_⟩
            rw [if_neg h44] at K
            exact K
          · refine r_iload_n dX9_from_47 rfl ?_
            refine r_goto 60 dX9_from_48 rfl ?_
            refine r_ireturn rfl (by first | rfl | exact nar_bi _ | assumption) dX9_from_60 ⟨_, rfl, ?_⟩
            rw [if_pos h44] at K
            exact K
    · refine r_aload_n dX9_from_23 rfl ?_
      refine r_bipush (-2) dX9_from_24 rfl ?_
      refine cV_i1 fX9_no rcv_18 lkX9_36 rfl dX9_from_26 (sp_X9_no (Or.inr (Or.inl rfl)) ?_)
      refine r_ireturn rfl (by first | rfl | exact nar_bi _ | assumption) dX9_from_29 ⟨_, rfl, ?_⟩
      refine Kr (-2) ?_ (by decide)
      unfold vFrom
      rw [tb_of h5, (bi_eq0 _).mp h20]
      rfl
  · refine r_aload_n dX9_from_8 rfl ?_
    refine r_iconst (-1) dX9_from_9 rfl ?_
    refine cV_i1 fX9_no rcv_18 lkX9_36 rfl dX9_from_10 (sp_X9_no (Or.inl rfl) ?_)
    refine r_ireturn rfl (by first | rfl | exact nar_bi _ | assumption) dX9_from_13 ⟨_, rfl, ?_⟩
    refine Kr (-1) ?_ (by decide)
    unfold vFrom
    rw [(bi_eq0 _).mp h5]
    rfl
theorem sp_X9_frees {n : Nat} {p w : Int32} (hW : WF (σ 3) n) (Kr : ∀ c, vFrees n p w = c → ¬ c = 0 → Q c (rfs σ 13 c)) (K : ∀ q, q < n → p = nI q → vFrees n p w = 0 → Q (frR (σ 3) q w (5 + 5 * q)) (va_up σ 3 (frR (σ 3) q w))) : Mi E mX9_frees [.ref (ad E 18 0), .int p, .int w] σ Q := by
  have hn6 := hW.2.1
  refine Mw_of (L0 := [some (.ref (ad E 18 0)), some (.int p), some (.int w)]) pn_X9 rfl rfl (Nat.le_of_ble_eq_true rfl) ?_
  refine r_aload_n dX9_frees_0 rfl ?_
  refine r_iload_n dX9_frees_1 rfl ?_
  refine cV_i1 fX9_isWorker rcv_18 lkX9_113 rfl dX9_frees_2 (sp_X9_isWorker hW.1 hn6 ?_)
  refine r_if_eq 15 dX9_frees_5 rfl (fun h5 => ?_) (fun h5 => ?_)
  · refine r_aload_n dX9_frees_15 rfl ?_
    refine r_iconst (-1) dX9_frees_16 rfl ?_
    refine cV_i1 fX9_no rcv_18 lkX9_36 rfl dX9_frees_17 (sp_X9_no (Or.inl rfl) ?_)
    refine r_ireturn rfl (by first | rfl | exact nar_bi _ | assumption) dX9_frees_20 ⟨_, rfl, ?_⟩
    exact Kr (-1) (by unfold vFrees; rw [(bi_eq0 _).mp h5]; rfl) (by decide)
  · refine r_iload_n dX9_frees_8 rfl ?_
    refine cS_i1 fX9_isWeekday lkX9_117 rfl dX9_frees_9 (sp_X9_isWeekday  ?_)
    rw [isWd_e]
    refine r_if_ne 21 dX9_frees_12 rfl (fun h12 => ?_) (fun h12 => ?_)
    · obtain ⟨q, hq, rfl⟩ := hasW_ex (tb_of h5) hn6
      refine r_aload_n dX9_frees_21 rfl ?_
      refine getX9_9 rfl dX9_frees_22 ?_
      refine r_iload_n dX9_frees_25 rfl ?_
      refine r_iconst (2) dX9_frees_26 rfl ?_
      refine cS_i2 fX9_of lkX9_44 rfl dX9_frees_27 (sp_of2  ?_)
      refine r_dup2 dX9_frees_30 rfl rfl ?_
      refine ld_19  (by omega) (by omega) dX9_frees_31 ?_
      refine r_iconst (1) dX9_frees_32 rfl ?_
      refine r_iload_n dX9_frees_33 rfl ?_
      refine r_ishl dX9_frees_34 ?_
      refine r_ixor dX9_frees_35 ?_
      refine st_19  (by omega) (by omega) dX9_frees_36 ?_
      refine r_aload_n dX9_frees_37 rfl ?_
      refine getX9_9 rfl dX9_frees_38 ?_
      refine r_iload_n dX9_frees_41 rfl ?_
      refine r_iconst (2) dX9_frees_42 rfl ?_
      refine cS_i2 fX9_of lkX9_44 rfl dX9_frees_43 (sp_of2  ?_)
      refine ld_19  (by omega) (by omega) dX9_frees_46 ?_
      refine r_ireturn rfl (by first | rfl | exact nar_bi _ | assumption) dX9_frees_47 ⟨_, rfl, ?_⟩
      exact qof (K q hq rfl (by unfold vFrees; rw [tb_of h5, tb_of h12]; rfl)) (by unfold s2; rw [up_at]; rfl) rfl
    · refine r_aload_n dX9_frees_15 rfl ?_
      refine r_iconst (-1) dX9_frees_16 rfl ?_
      refine cV_i1 fX9_no rcv_18 lkX9_36 rfl dX9_frees_17 (sp_X9_no (Or.inl rfl) ?_)
      refine r_ireturn rfl (by first | rfl | exact nar_bi _ | assumption) dX9_frees_20 ⟨_, rfl, ?_⟩
      exact Kr (-1) (by unfold vFrees; rw [(bi_eq0 _).mp h12, Bool.and_false]; rfl) (by decide)
theorem sp_X9_gives {n : Nat} {p q w : Int32} (hW : WF (σ 3) n) (Kr : ∀ c, vGives (σ 3) n p q w = c → ¬ c = 0 → Q c (rfs σ 13 c)) (K : ∀ a b j, a < n → b < n → j < 7 → p = nI a → q = nI b → w = nI j → vGives (σ 3) n p q w = 0 → Q (mvd (σ 3) a b w (5 + 5 * b)) (va_up σ 3 (mvd (σ 3) a b w))) : Mi E mX9_gives [.ref (ad E 18 0), .int p, .int q, .int w] σ Q := by
  have hn6 := hW.2.1
  have KN : (two2 p q n && isWd w) = false → Q (-1) (rfs σ 13 (-1)) := fun h => Kr (-1) (by unfold vGives; rw [h]; rfl) (by decide)
  refine Mw_of (L0 := [some (.ref (ad E 18 0)), some (.int p), some (.int q), some (.int w)]) pn_X9 rfl rfl (Nat.le_of_ble_eq_true rfl) ?_
  refine r_aload_n dX9_gives_0 rfl ?_
  refine r_iload_n dX9_gives_1 rfl ?_
  refine cV_i1 fX9_isWorker rcv_18 lkX9_113 rfl dX9_gives_2 (sp_X9_isWorker hW.1 hn6 ?_)
  refine r_if_eq 28 dX9_gives_5 rfl (fun h5 => ?_) (fun h5 => ?_)
  · refine r_aload_n dX9_gives_28 rfl ?_
    refine r_iconst (-1) dX9_gives_29 rfl ?_
    refine cV_i1 fX9_no rcv_18 lkX9_36 rfl dX9_gives_30 (sp_X9_no (Or.inl rfl) ?_)
    refine r_ireturn rfl (by first | rfl | exact nar_bi _ | assumption) dX9_gives_33 ⟨_, rfl, ?_⟩
    exact KN (by unfold two2; rw [(bi_eq0 _).mp h5]; rfl)
  · refine r_aload_n dX9_gives_8 rfl ?_
    refine r_iload_n dX9_gives_9 rfl ?_
    refine cV_i1 fX9_isWorker rcv_18 lkX9_113 rfl dX9_gives_10 (sp_X9_isWorker hW.1 hn6 ?_)
    refine r_if_eq 28 dX9_gives_13 rfl (fun h13 => ?_) (fun h13 => ?_)
    · refine r_aload_n dX9_gives_28 rfl ?_
      refine r_iconst (-1) dX9_gives_29 rfl ?_
      refine cV_i1 fX9_no rcv_18 lkX9_36 rfl dX9_gives_30 (sp_X9_no (Or.inl rfl) ?_)
      refine r_ireturn rfl (by first | rfl | exact nar_bi _ | assumption) dX9_gives_33 ⟨_, rfl, ?_⟩
      exact KN (by unfold two2; rw [(bi_eq0 _).mp h13, Bool.and_false]; rfl)
    · refine r_iload_n dX9_gives_16 rfl ?_
      refine r_iload_n dX9_gives_17 rfl ?_
      refine r_icmp_eq 28 dX9_gives_18 rfl (fun h18 => ?_) (fun h18 => ?_)
      · refine r_aload_n dX9_gives_28 rfl ?_
        refine r_iconst (-1) dX9_gives_29 rfl ?_
        refine cV_i1 fX9_no rcv_18 lkX9_36 rfl dX9_gives_30 (sp_X9_no (Or.inl rfl) ?_)
        refine r_ireturn rfl (by first | rfl | exact nar_bi _ | assumption) dX9_gives_33 ⟨_, rfl, ?_⟩
        exact KN (by unfold two2; rw [h18]; simp)
      · have h2 : two2 p q n = true := by unfold two2; rw [tb_of h5, tb_of h13]; simp [h18]
        refine r_iload_n dX9_gives_21 rfl ?_
        refine cS_i1 fX9_isWeekday lkX9_117 rfl dX9_gives_22 (sp_X9_isWeekday  ?_)
        rw [isWd_e]
        refine r_if_ne 34 dX9_gives_25 rfl (fun h25 => ?_) (fun h25 => ?_)
        · obtain ⟨a, b, ha, hb, hab, rfl, rfl⟩ := two2_ex h2 hn6
          obtain ⟨j, hj, rfl⟩ := isWd_ex (x := w) (tb_of h25)
          have hv : vGives (σ 3) n (nI a) (nI b) (nI j) = if tb (σ 3 (5 + 5 * a)) (nI j) && !tb (σ 3 (5 + 5 * b)) (nI j) then 0 else -3 := by
            unfold vGives; rw [h2, tb_of h25, nI_clamp (by omega), nI_clamp (by omega)]; rfl
          refine r_aload_n dX9_gives_34 rfl ?_
          refine r_iload_n dX9_gives_35 rfl ?_
          refine r_iload_n dX9_gives_36 rfl ?_
          refine r_iload_n dX9_gives_37 rfl ?_
          refine cV_i3 fX9_canGive rcv_18 lkX9_120 rfl dX9_gives_38 (sp_X9_canGive (by omega) (by omega) ?_)
          refine r_if_ne 51 dX9_gives_41 rfl (fun h41 => ?_) (fun h41 => ?_)
          · rw [tb_of h41] at hv
            refine r_aload_n dX9_gives_51 rfl ?_
            refine getX9_9 rfl dX9_gives_52 ?_
            refine r_iload_n dX9_gives_55 rfl ?_
            refine r_iload_n dX9_gives_56 rfl ?_
            refine r_iload_n dX9_gives_57 rfl ?_
            refine cS_v4 fX9_movesDay lkX9_75 rfl dX9_gives_58 (sp_X9_movesDay (by omega) (by omega) (by omega) ?_)
            refine r_aload_n dX9_gives_61 rfl ?_
            refine getX9_9 rfl dX9_gives_62 ?_
            refine r_iload_n dX9_gives_65 rfl ?_
            refine r_iconst (2) dX9_gives_66 rfl ?_
            refine cS_i2 fX9_of lkX9_44 rfl dX9_gives_67 (sp_of2  ?_)
            refine ld_19  (by omega) (by omega) dX9_gives_70 ?_
            refine r_ireturn rfl (by first | rfl | exact nar_bi _ | assumption) dX9_gives_71 ⟨_, rfl, ?_⟩
            rw [up_at]
            exact K a b j ha hb hj rfl rfl rfl hv
          · refine r_aload_n dX9_gives_44 rfl ?_
            refine r_bipush (-3) dX9_gives_45 rfl ?_
            refine cV_i1 fX9_no rcv_18 lkX9_36 rfl dX9_gives_47 (sp_X9_no (Or.inr (Or.inr (Or.inl rfl))) ?_)
            refine r_ireturn rfl (by first | rfl | exact nar_bi _ | assumption) dX9_gives_50 ⟨_, rfl, ?_⟩
            exact Kr (-3) (by rw [hv, (bi_eq0 _).mp h41]; rfl) (by decide)
        · refine r_aload_n dX9_gives_28 rfl ?_
          refine r_iconst (-1) dX9_gives_29 rfl ?_
          refine cV_i1 fX9_no rcv_18 lkX9_36 rfl dX9_gives_30 (sp_X9_no (Or.inl rfl) ?_)
          refine r_ireturn rfl (by first | rfl | exact nar_bi _ | assumption) dX9_gives_33 ⟨_, rfl, ?_⟩
          exact KN (by rw [(bi_eq0 _).mp h25, Bool.and_false])
theorem sp_X9_rests {n : Nat} {p v : Int32} (hW : WF (σ 3) n) (Kr : ∀ c, vRests n p v = c → ¬ c = 0 → Q c (rfs σ 13 c)) (K : ∀ q, q < n → p = nI q → vRests n p v = 0 → Q (σ 3 (6 + 5 * q)) (va_up σ 3 (upd (σ 3) (6 + 5 * q) v))) : Mi E mX9_rests [.ref (ad E 18 0), .int p, .int v] σ Q := by
  have hn6 := hW.2.1
  refine Mw_of (L0 := [some (.ref (ad E 18 0)), some (.int p), some (.int v), none, none]) pn_X9 rfl rfl (Nat.le_of_ble_eq_true rfl) ?_
  refine r_aload_n dX9_rests_0 rfl ?_
  refine r_iload_n dX9_rests_1 rfl ?_
  refine cV_i1 fX9_isWorker rcv_18 lkX9_113 rfl dX9_rests_2 (sp_X9_isWorker hW.1 hn6 ?_)
  refine r_if_eq 18 dX9_rests_5 rfl (fun h5 => ?_) (fun h5 => ?_)
  · refine r_iconst (-1) dX9_rests_18 rfl ?_
    refine r_istore_n_3 dX9_rests_19 rfl ?_
    refine r_iload_n dX9_rests_20 rfl ?_
    refine r_if_eq 30 dX9_rests_21 rfl (fun h21 => ?_) (fun h21 => ?_)
    · exact absurd h21 (by decide)
    · refine r_aload_n dX9_rests_24 rfl ?_
      refine r_iload_n dX9_rests_25 rfl ?_
      refine cV_i1 fX9_no rcv_18 lkX9_36 rfl dX9_rests_26 (sp_X9_no (Or.inl rfl) ?_)
      refine r_ireturn rfl (by first | rfl | exact nar_bi _ | assumption) dX9_rests_29 ⟨_, rfl, ?_⟩
      exact Kr (-1) (by unfold vRests; rw [(bi_eq0 _).mp h5]; rfl) (by decide)
  · obtain ⟨q, hq, rfl⟩ := hasW_ex (tb_of h5) hn6
    have hv : vRests n (nI q) v = outs v 0 30 := by unfold vRests; rw [tb_of h5]; rfl
    refine r_iload_n dX9_rests_8 rfl ?_
    refine r_iconst (0) dX9_rests_9 rfl ?_
    refine r_bipush (30) dX9_rests_10 rfl ?_
    refine cS_i3 fX9_wrongBy lkX9_136 rfl dX9_rests_12 (sp_X9_wrongBy  ?_)
    refine r_goto 19 dX9_rests_15 rfl ?_
    refine r_istore_n_3 dX9_rests_19 rfl ?_
    refine r_iload_n dX9_rests_20 rfl ?_
    refine r_if_eq 30 dX9_rests_21 rfl (fun h21 => ?_) (fun h21 => ?_)
    · refine r_aload_n dX9_rests_30 rfl ?_
      refine getX9_9 rfl dX9_rests_31 ?_
      refine r_iload_n dX9_rests_34 rfl ?_
      refine r_iconst (3) dX9_rests_35 rfl ?_
      refine cS_i2 fX9_of lkX9_44 rfl dX9_rests_36 (sp_of3  ?_)
      refine ld_19  (by omega) (by omega) dX9_rests_39 ?_
      refine r_istore_4 dX9_rests_40 rfl ?_
      refine r_aload_n dX9_rests_42 rfl ?_
      refine getX9_9 rfl dX9_rests_43 ?_
      refine r_iload_n dX9_rests_46 rfl ?_
      refine r_iconst (3) dX9_rests_47 rfl ?_
      refine cS_i2 fX9_of lkX9_44 rfl dX9_rests_48 (sp_of3  ?_)
      refine r_iload_n dX9_rests_51 rfl ?_
      refine st_19  (by omega) (by omega) dX9_rests_52 ?_
      refine r_iload dX9_rests_53 rfl ?_
      refine r_ireturn rfl (by first | rfl | exact nar_bi _ | assumption) dX9_rests_55 ⟨_, rfl, ?_⟩
      exact K q hq rfl (hv.trans h21)
    · refine r_aload_n dX9_rests_24 rfl ?_
      refine r_iload_n dX9_rests_25 rfl ?_
      refine cV_i1 fX9_no rcv_18 lkX9_36 rfl dX9_rests_26 (sp_X9_no (outs_ref h21) ?_)
      refine r_ireturn rfl (by first | rfl | exact nar_bi _ | assumption) dX9_rests_29 ⟨_, rfl, ?_⟩
      exact Kr _ hv h21
theorem k5_e (k : Int32) : (0 ≤ k ∧ k ≤ 5) ↔ (0 ≤ k ∧ k < 6) := by
  constructor
  · rintro ⟨h1, h2⟩
    obtain ⟨j, hj, rfl⟩ := nI_of (Int32.not_lt.mpr h1)
    have := (nI_leI (b := 5) hj (by omega)).mp h2
    exact ⟨h1, (nI_ltI (b := 6) hj (by omega)).mpr (by omega)⟩
  · rintro ⟨h1, h2⟩
    obtain ⟨j, hj, rfl⟩ := nI_of (Int32.not_lt.mpr h1)
    have := (nI_ltI (b := 6) hj (by omega)).mp h2
    exact ⟨h1, (nI_leI (b := 5) hj (by omega)).mpr (by omega)⟩
theorem sp_X9_turn {n : Nat} {p k f : Int32} (hW : WF (σ 3) n) (Kr : ∀ c, vTurn n p k f = c → ¬ c = 0 → Q c (rfs σ 13 c)) (K : ∀ q, q < n → p = nI q → vTurn n p k f = 0 → Q (10 * σ 3 (3 + 5 * q) + σ 3 (4 + 5 * q)) (va_up σ 3 (upd (upd (σ 3) (3 + 5 * q) k) (4 + 5 * q) f))) : Mi E mX9_turn [.ref (ad E 18 0), .int p, .int k, .int f] σ Q := by
  have hn6 := hW.2.1
  refine Mw_of (L0 := [some (.ref (ad E 18 0)), some (.int p), some (.int k), some (.int f), none, none]) pn_X9 rfl rfl (Nat.le_of_ble_eq_true rfl) ?_
  refine r_aload_n dX9_turn_0 rfl ?_
  refine r_iload_n dX9_turn_1 rfl ?_
  refine cV_i1 fX9_isWorker rcv_18 lkX9_113 rfl dX9_turn_2 (sp_X9_isWorker hW.1 hn6 ?_)
  refine r_if_ne 12 dX9_turn_5 rfl (fun h5 => ?_) (fun h5 => ?_)
  · obtain ⟨q, hq, rfl⟩ := hasW_ex (tb_of h5) hn6
    have hv : vTurn n (nI q) k f = if 0 ≤ k ∧ k < 6 then outs f 0 9 else -2 := by unfold vTurn; rw [tb_of h5]; rfl
    refine r_iload_n dX9_turn_12 rfl ?_
    refine r_iconst (0) dX9_turn_13 rfl ?_
    refine r_iconst (5) dX9_turn_14 rfl ?_
    refine cS_i3 fX9_isIn lkX9_40 rfl dX9_turn_15 (sp_X9_isIn  ?_)
    refine r_if_ne 26 dX9_turn_18 rfl (fun h18 => ?_) (fun h18 => ?_)
    · have hk := (k5_e k).mp (of_decide_eq_true (tb_of h18))
      rw [if_pos hk] at hv
      refine r_iload_n dX9_turn_26 rfl ?_
      refine r_iconst (0) dX9_turn_27 rfl ?_
      refine r_bipush (9) dX9_turn_28 rfl ?_
      refine cS_i3 fX9_wrongBy lkX9_136 rfl dX9_turn_30 (sp_X9_wrongBy  ?_)
      refine r_istore_4 dX9_turn_33 rfl ?_
      refine r_iload dX9_turn_35 rfl ?_
      refine r_if_eq 47 dX9_turn_37 rfl (fun h37 => ?_) (fun h37 => ?_)
      · refine r_bipush (10) dX9_turn_47 rfl ?_
        refine r_aload_n dX9_turn_49 rfl ?_
        refine getX9_9 rfl dX9_turn_50 ?_
        refine r_iload_n dX9_turn_53 rfl ?_
        refine r_iconst (0) dX9_turn_54 rfl ?_
        refine cS_i2 fX9_of lkX9_44 rfl dX9_turn_55 (sp_of0  ?_)
        refine ld_19  (by omega) (by omega) dX9_turn_58 ?_
        refine r_imul dX9_turn_59 ?_
        refine r_aload_n dX9_turn_60 rfl ?_
        refine getX9_9 rfl dX9_turn_61 ?_
        refine r_iload_n dX9_turn_64 rfl ?_
        refine r_iconst (1) dX9_turn_65 rfl ?_
        refine cS_i2 fX9_of lkX9_44 rfl dX9_turn_66 (sp_of1  ?_)
        refine ld_19  (by omega) (by omega) dX9_turn_69 ?_
        refine r_iadd dX9_turn_70 ?_
        refine r_istore_5 dX9_turn_71 rfl ?_
        refine r_aload_n dX9_turn_73 rfl ?_
        refine getX9_9 rfl dX9_turn_74 ?_
        refine r_iload_n dX9_turn_77 rfl ?_
        refine r_iconst (0) dX9_turn_78 rfl ?_
        refine cS_i2 fX9_of lkX9_44 rfl dX9_turn_79 (sp_of0  ?_)
        refine r_iload_n dX9_turn_82 rfl ?_
        refine st_19  (by omega) (by omega) dX9_turn_83 ?_
        refine r_aload_n dX9_turn_84 rfl ?_
        refine getX9_9 rfl dX9_turn_85 ?_
        refine r_iload_n dX9_turn_88 rfl ?_
        refine r_iconst (1) dX9_turn_89 rfl ?_
        refine cS_i2 fX9_of lkX9_44 rfl dX9_turn_90 (sp_of1  ?_)
        refine r_iload_n dX9_turn_93 rfl ?_
        refine st_19  (by omega) (by omega) dX9_turn_94 ?_
        refine r_iload dX9_turn_95 rfl ?_
        refine r_ireturn rfl (by first | rfl | exact nar_bi _ | assumption) dX9_turn_97 ⟨_, rfl, ?_⟩
        refine qof (K q hq rfl (hv.trans h37)) rfl ?_
        simp only [s2, up_at, up_up]
      · refine r_aload_n dX9_turn_40 rfl ?_
        refine r_iload dX9_turn_41 rfl ?_
        refine cV_i1 fX9_no rcv_18 lkX9_36 rfl dX9_turn_43 (sp_X9_no (outs_ref h37) ?_)
        refine r_ireturn rfl (by first | rfl | exact nar_bi _ | assumption) dX9_turn_46 ⟨_, rfl, ?_⟩
        exact Kr _ hv h37
    · have hk := of_decide_eq_false ((bi_eq0 _).mp h18)
      rw [if_neg (fun a => hk ((k5_e k).mpr a))] at hv
      refine r_bipush (-2) dX9_turn_21 rfl ?_
      refine r_goto 33 dX9_turn_23 rfl ?_
      refine r_istore_4 dX9_turn_33 rfl ?_
      refine r_iload dX9_turn_35 rfl ?_
      refine r_if_eq 47 dX9_turn_37 rfl (fun h37 => ?_) (fun h37 => ?_)
      · exact absurd h37 (by decide)
      · refine r_aload_n dX9_turn_40 rfl ?_
        refine r_iload dX9_turn_41 rfl ?_
        refine cV_i1 fX9_no rcv_18 lkX9_36 rfl dX9_turn_43 (sp_X9_no (Or.inr (Or.inl rfl)) ?_)
        refine r_ireturn rfl (by first | rfl | exact nar_bi _ | assumption) dX9_turn_46 ⟨_, rfl, ?_⟩
        exact Kr (-2) hv (by decide)
  · refine r_iconst (-1) dX9_turn_8 rfl ?_
    refine r_goto 33 dX9_turn_9 rfl ?_
    refine r_istore_4 dX9_turn_33 rfl ?_
    refine r_iload dX9_turn_35 rfl ?_
    refine r_if_eq 47 dX9_turn_37 rfl (fun h37 => ?_) (fun h37 => ?_)
    · exact absurd h37 (by decide)
    · refine r_aload_n dX9_turn_40 rfl ?_
      refine r_iload dX9_turn_41 rfl ?_
      refine cV_i1 fX9_no rcv_18 lkX9_36 rfl dX9_turn_43 (sp_X9_no (Or.inl rfl) ?_)
      refine r_ireturn rfl (by first | rfl | exact nar_bi _ | assumption) dX9_turn_46 ⟨_, rfl, ?_⟩
      exact Kr (-1) (by unfold vTurn; rw [(bi_eq0 _).mp h5]; rfl) (by decide)
theorem sp_X9_days {n : Nat} {m : Int32} (hW : WF (σ 3) n) (Kr : ∀ c, vDays (σ 3) m = c → ¬ c = 0 → Q c (rfs σ 13 c)) (K : ∀ j, j ≤ 60 → m = nI j → vDays (σ 3) m = 0 → Q (dayN 0 n (σ 3) j 2) (va_up σ 3 (dayN 0 n (σ 3) j))) : Mi E mX9_days [.ref (ad E 18 0), .int m] σ Q := by
  refine Mw_of (L0 := [some (.ref (ad E 18 0)), some (.int m)]) pn_X9 rfl rfl (Nat.le_of_ble_eq_true rfl) ?_
  refine r_iload_n dX9_days_0 rfl ?_
  refine r_iconst (1) dX9_days_1 rfl ?_
  refine r_icmp_ge 12 dX9_days_2 rfl (fun h2 => ?_) (fun h2 => ?_)
  · have o1 : outs m 1 60 = if 60 < m then -6 else 0 := by unfold outs; rw [if_neg (Int32.not_lt.mpr h2)]
    refine r_iload_n dX9_days_12 rfl ?_
    refine r_bipush (60) dX9_days_13 rfl ?_
    refine r_icmp_gt 32 dX9_days_15 rfl (fun h15 => ?_) (fun h15 => ?_)
    · refine r_aload_n dX9_days_32 rfl ?_
      refine r_bipush (-6) dX9_days_33 rfl ?_
      refine cV_i1 fX9_no rcv_18 lkX9_36 rfl dX9_days_35 (sp_X9_no (Or.inr (Or.inr (Or.inr (Or.inr rfl)))) ?_)
      refine r_ireturn rfl (by first | rfl | exact nar_bi _ | assumption) dX9_days_38 ⟨_, rfl, ?_⟩
      exact Kr (-6) (by unfold vDays; rw [o1, if_pos h15]; rfl) (by decide)
    · rw [if_neg h15] at o1
      refine r_aload_n dX9_days_18 rfl ?_
      refine getX9_9 rfl dX9_days_19 ?_
      refine r_iconst (1) dX9_days_22 rfl ?_
      refine ld_19 (t := 1)  (by omega) (by omega) dX9_days_23 ?_
      refine r_iload_n dX9_days_24 rfl ?_
      refine r_iadd dX9_days_25 ?_
      refine r_sipush (999) dX9_days_26 rfl ?_
      refine r_icmp_le 39 dX9_days_29 rfl (fun h29 => ?_) (fun h29 => ?_)
      · have hv : vDays (σ 3) m = 0 := by unfold vDays; rw [if_neg (fun h => h o1), if_neg (Int32.not_lt.mpr h29)]
        obtain ⟨j, hj, rfl⟩ := nI_of (Int32.not_lt.mpr (Int32.le_trans (by decide : (0 : Int32) ≤ 1) h2))
        have hj60 : j ≤ 60 := (nI_leI hj (by omega)).mp (Int32.not_lt.mp h15)
        refine r_aload_n dX9_days_39 rfl ?_
        refine getX9_9 rfl dX9_days_40 ?_
        refine r_iload_n dX9_days_43 rfl ?_
        refine cS_v2 fX9_daysOn lkX9_123 rfl dX9_days_44 (sp_X9_daysOn (by omega) hW.1 hW.2.1 (by omega) ?_)
        refine r_aload_n dX9_days_47 rfl ?_
        refine getX9_9 rfl dX9_days_48 ?_
        refine r_iconst (2) dX9_days_51 rfl ?_
        refine ld_19 (t := 2)  (by omega) (by omega) dX9_days_52 ?_
        refine r_ireturn rfl (by first | rfl | exact nar_bi _ | assumption) dX9_days_53 ⟨_, rfl, ?_⟩
        rw [up_at]
        exact K j hj60 rfl hv
      · refine r_aload_n dX9_days_32 rfl ?_
        refine r_bipush (-6) dX9_days_33 rfl ?_
        refine cV_i1 fX9_no rcv_18 lkX9_36 rfl dX9_days_35 (sp_X9_no (Or.inr (Or.inr (Or.inr (Or.inr rfl)))) ?_)
        refine r_ireturn rfl (by first | rfl | exact nar_bi _ | assumption) dX9_days_38 ⟨_, rfl, ?_⟩
        exact Kr (-6) (by unfold vDays; rw [if_neg (fun h => h o1), if_pos (Int32.not_le.mp h29)]) (by decide)
  · have o1 : outs m 1 60 = -4 := by unfold outs; rw [if_pos (Int32.not_le.mp h2)]
    refine r_aload_n dX9_days_5 rfl ?_
    refine r_bipush (-4) dX9_days_6 rfl ?_
    refine cV_i1 fX9_no rcv_18 lkX9_36 rfl dX9_days_8 (sp_X9_no (Or.inr (Or.inr (Or.inr (Or.inl rfl)))) ?_)
    refine r_ireturn rfl (by first | rfl | exact nar_bi _ | assumption) dX9_days_11 ⟨_, rfl, ?_⟩
    exact Kr (-4) (by unfold vDays; rw [o1]; rfl) (by decide)
end PUBB
