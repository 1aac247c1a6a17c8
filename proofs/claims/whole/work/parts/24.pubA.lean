/-! ===== what is asked and changed, the class's side: first batch ===== -/
section PUBA
variable {E : EnvT} {σ : Sg} {Q : Int32 → Sg → Prop} {Ql : Int64 → Sg → Prop} {Qv : Sg → Prop}
def isRef (c : Int32) : Prop := c = -1 ∨ c = -2 ∨ c = -3 ∨ c = -4 ∨ c = -6
def rfs (σ : Sg) (a : Nat) (c : Int32) : Sg := s2 σ a (-c).toNatClampNeg (σ a (-c).toNatClampNeg + 1)
theorem isRef_N {c : Int32} (h : isRef c) : ∃ k, 0 < k ∧ k < 7 ∧ -c = nI k ∧ (-c).toNatClampNeg = k := by
  rcases h with rfl | rfl | rfl | rfl | rfl
  · exact ⟨1, by decide, by decide, by decide, by decide⟩
  · exact ⟨2, by decide, by decide, by decide, by decide⟩
  · exact ⟨3, by decide, by decide, by decide, by decide⟩
  · exact ⟨4, by decide, by decide, by decide, by decide⟩
  · exact ⟨6, by decide, by decide, by decide, by decide⟩
theorem outs_ref {x lo hi : Int32} (h : ¬ outs x lo hi = 0) : isRef (outs x lo hi) := by
  unfold outs at h ⊢
  split
  · exact Or.inr (Or.inr (Or.inr (Or.inl rfl)))
  · split
    · exact Or.inr (Or.inr (Or.inr (Or.inr rfl)))
    · rename_i h1 h2
      rw [if_neg h1, if_neg h2] at h
      exact absurd rfl h
theorem outs_0 {x lo hi : Int32} (h : outs x lo hi = 0) : lo ≤ x ∧ x ≤ hi := by
  unfold outs at h
  split at h
  · exact absurd h (by decide)
  · split at h
    · exact absurd h (by decide)
    · rename_i h1 h2
      exact ⟨Int32.not_lt.mp h1, Int32.not_lt.mp h2⟩
theorem outs_N {x : Int32} {b : Nat} (hb : b < 1000) (h : outs x 0 (nI b) = 0) : ∃ m, m ≤ b ∧ x = nI m := by
  obtain ⟨h1, h2⟩ := outs_0 h
  obtain ⟨j, hj, rfl⟩ := nI_of (Int32.not_lt.mpr h1)
  exact ⟨j, (nI_leI hj (by omega)).mp h2, rfl⟩
theorem sp_X8_refuse {c : Int32} (hc : isRef c) (K : Q c (rfs σ 9 c)) : Mi E mX8_refuse [.ref (ad E 0 0), .int c] σ Q := by
  obtain ⟨k, h0, h7, e1, e2⟩ := isRef_N hc
  unfold rfs at K
  rw [e2] at K
  refine Mw_of (L0 := [some (.ref (ad E 0 0)), some (.int c), none]) pn_X8 rfl rfl (Nat.le_of_ble_eq_true rfl) ?_
  refine r_iload_n dX8_refuse_0 rfl ?_
  refine r_ineg dX8_refuse_1 ?_
  refine r_istore_n_2 dX8_refuse_2 rfl ?_
  rw [e1]
  refine r_iload_n dX8_refuse_3 rfl ?_
  refine r_if_le 26 dX8_refuse_4 rfl (fun h4 => ?_) (fun h4 => ?_)
  · exact absurd h4 (nI_nle h0 (by omega))
  · refine r_iload_n dX8_refuse_7 rfl ?_
    refine r_aload_n dX8_refuse_8 rfl ?_
    refine getX8_41 rfl dX8_refuse_9 ?_
    refine r_alen (nI 7) (by decide) rfl rfl dX8_refuse_12 ?_
    refine r_icmp_ge_N 26 dX8_refuse_13 rfl (by omega) (by omega) (fun h13 => ?_) (fun h13 => ?_)
    · exfalso; omega
    · refine r_aload_n dX8_refuse_16 rfl ?_
      refine getX8_41 rfl dX8_refuse_17 ?_
      refine r_iload_n dX8_refuse_20 rfl ?_
      refine r_dup2 dX8_refuse_21 rfl rfl ?_
      refine ld_17  (by omega) dX8_refuse_22 ?_
      refine r_iconst (1) dX8_refuse_23 rfl ?_
      refine r_iadd dX8_refuse_24 ?_
      refine st_17  (by omega) dX8_refuse_25 ?_
      refine r_iload_n dX8_refuse_26 rfl ?_
      refine r_ireturn rfl (by first | rfl | exact nar_bi _ | assumption) dX8_refuse_27 ⟨_, rfl, ?_⟩
      exact K
def WIDE : Int64 := 4000000000000000000
theorem sp_X8_refuseLong {c : Int32} (hc : isRef c) (K : Ql (WIDE - c.toInt64) (rfs σ 9 c)) : Ml E mX8_refuseLong [.ref (ad E 0 0), .int c] σ Ql := by
  refine Mw_of (L0 := [some (.ref (ad E 0 0)), some (.int c)]) pn_X8 rfl rfl (Nat.le_of_ble_eq_true rfl) ?_
  refine r_ldc2 kcX8_257 dX8_refuseLong_0 ?_
  refine r_aload_n dX8_refuseLong_3 rfl ?_
  refine r_iload_n dX8_refuseLong_4 rfl ?_
  refine cV_i1 fX8_refuse rcv_0 lkX8_52 rfl dX8_refuseLong_5 (sp_X8_refuse hc ?_)
  refine r_i2l dX8_refuseLong_8 ?_
  refine r_lsub dX8_refuseLong_9 ?_
  refine r_lreturn rfl dX8_refuseLong_10 ⟨_, rfl, ?_⟩
  exact K
def two2 (p q : Int32) (n : Nat) : Bool := hasW p n && hasW q n && !(p == q)
theorem sp_X8_areTwo {n : Nat} {p q : Int32} (hn : σ 0 0 = nI n) (K : Q (bi (two2 p q n)) σ) : Mi E mX8_areTwo [.ref (ad E 0 0), .int p, .int q] σ Q := by
  refine Mw_of (L0 := [some (.ref (ad E 0 0)), some (.int p), some (.int q)]) pn_X8 rfl rfl (Nat.le_of_ble_eq_true rfl) ?_
  refine r_aload_n dX8_areTwo_0 rfl ?_
  refine getX8_10 rfl dX8_areTwo_1 ?_
  refine r_iload_n dX8_areTwo_4 rfl ?_
  refine cVN_i1 fX1_has (rcv_1 (by omega)) lkX8_87 rfl dX8_areTwo_5 (sp_X1_has (by omega) hn ?_)
  refine r_if_eq 31 dX8_areTwo_8 rfl (fun h8 => ?_) (fun h8 => ?_)
  · refine r_iconst (0) dX8_areTwo_31 rfl ?_
    refine r_ireturn rfl (by first | rfl | exact nar_bi _ | assumption) dX8_areTwo_32 ⟨_, rfl, ?_⟩
    exact qof K (by unfold two2; first | (rw [(bi_eq0 _).mp h8]; rfl) | (rw [(bi_eq0 _).mp h19, Bool.and_false]; rfl) | (rw [tb_of h8, tb_of h19]; simp [h24, bi])) rfl
  · refine r_aload_n dX8_areTwo_11 rfl ?_
    refine getX8_10 rfl dX8_areTwo_12 ?_
    refine r_iload_n dX8_areTwo_15 rfl ?_
    refine cVN_i1 fX1_has (rcv_1 (by omega)) lkX8_87 rfl dX8_areTwo_16 (sp_X1_has (by omega) hn ?_)
    refine r_if_eq 31 dX8_areTwo_19 rfl (fun h19 => ?_) (fun h19 => ?_)
    · refine r_iconst (0) dX8_areTwo_31 rfl ?_
      refine r_ireturn rfl (by first | rfl | exact nar_bi _ | assumption) dX8_areTwo_32 ⟨_, rfl, ?_⟩
      exact qof K (by unfold two2; first | (rw [(bi_eq0 _).mp h8]; rfl) | (rw [(bi_eq0 _).mp h19, Bool.and_false]; rfl) | (rw [tb_of h8, tb_of h19]; simp [h24, bi])) rfl
    · refine r_iload_n dX8_areTwo_22 rfl ?_
      refine r_iload_n dX8_areTwo_23 rfl ?_
      refine r_icmp_eq 31 dX8_areTwo_24 rfl (fun h24 => ?_) (fun h24 => ?_)
      · refine r_iconst (0) dX8_areTwo_31 rfl ?_
        refine r_ireturn rfl (by first | rfl | exact nar_bi _ | assumption) dX8_areTwo_32 ⟨_, rfl, ?_⟩
        exact qof K (by unfold two2; first | (rw [(bi_eq0 _).mp h8]; rfl) | (rw [(bi_eq0 _).mp h19, Bool.and_false]; rfl) | (rw [tb_of h8, tb_of h19]; simp [h24, bi])) rfl
      · refine r_iconst (1) dX8_areTwo_27 rfl ?_
        refine r_goto 32 dX8_areTwo_28 rfl ?_
        refine r_ireturn rfl (by first | rfl | exact nar_bi _ | assumption) dX8_areTwo_32 ⟨_, rfl, ?_⟩
        exact qof K (by unfold two2; first | (rw [(bi_eq0 _).mp h8]; rfl) | (rw [(bi_eq0 _).mp h19, Bool.and_false]; rfl) | (rw [tb_of h8, tb_of h19]; simp [h24, bi])) rfl
theorem two2_ex {p q : Int32} {n : Nat} (h : two2 p q n = true) (hn : n ≤ 6) : ∃ a b, a < n ∧ b < n ∧ a ≠ b ∧ p = nI a ∧ q = nI b := by
  unfold two2 at h
  simp only [Bool.and_eq_true, Bool.not_eq_true', beq_eq_false_iff_ne, ne_eq] at h
  obtain ⟨⟨h1, h2⟩, h3⟩ := h
  obtain ⟨a, ha, rfl⟩ := hasW_ex h1 hn
  obtain ⟨b, hb, rfl⟩ := hasW_ex h2 hn
  exact ⟨a, b, ha, hb, fun e => h3 (by rw [e]), rfl, rfl⟩
def isWd (x : Int32) : Bool := decide (0 ≤ x ∧ x < 7)
def eith (x : Int32) : Bool := x == 0 || x == 1
theorem isWd_ex {x : Int32} (h : isWd x = true) : ∃ j, j < 7 ∧ x = nI j := by
  have h := of_decide_eq_true h
  obtain ⟨j, hj, rfl⟩ := nI_of (Int32.not_lt.mpr h.1)
  exact ⟨j, (nI_ltI hj (by omega)).mp (show nI j < nI 7 from h.2), rfl⟩
/-- worker -/
def wval (r : Row) (q : Nat) (w : Int32) : Int32 := if w = 5 then pbh (r (3 + 5 * q)) (r (4 + 5 * q)) else r (3 + w.toNatClampNeg + 5 * q)
def vWorker (n : Nat) (p w : Int32) : Int32 := if hasW p n then (if 0 ≤ w ∧ w ≤ 5 then 0 else -2) else -1
theorem sp_X8_worker {n : Nat} {p w : Int32} (hW : WF (σ 0) n) (Kr : ∀ c, vWorker n p w = c → ¬ c = 0 → Q c (rfs σ 9 c)) (K : ∀ q, q < n → p = nI q → vWorker n p w = 0 → Q (wval (σ 0) q w) σ) : Mi E mX8_worker [.ref (ad E 0 0), .int p, .int w] σ Q := by
  have hn6 := hW.2.1
  refine Mw_of (L0 := [some (.ref (ad E 0 0)), some (.int p), some (.int w)]) pn_X8 rfl rfl (Nat.le_of_ble_eq_true rfl) ?_
  refine r_aload_n dX8_worker_0 rfl ?_
  refine getX8_10 rfl dX8_worker_1 ?_
  refine r_iload_n dX8_worker_4 rfl ?_
  refine cVN_i1 fX1_has (rcv_1 (by omega)) lkX8_87 rfl dX8_worker_5 (sp_X1_has (by omega) hW.1 ?_)
  refine r_if_ne 17 dX8_worker_8 rfl (fun h8 => ?_) (fun h8 => ?_)
  · obtain ⟨q, hq, rfl⟩ := hasW_ex (tb_of h8) hn6
    have hv : vWorker n (nI q) w = if 0 ≤ w ∧ w ≤ 5 then 0 else -2 := by unfold vWorker; rw [tb_of h8]; rfl
    refine r_iload_n dX8_worker_17 rfl ?_
    by_cases h0 : w = 0
    · subst h0
      refine r_tableIn 38 56 dX8_worker_18 (by decide) (by decide) rfl rfl ?_
      refine r_aload_n dX8_worker_56 rfl ?_
      refine getX8_10 rfl dX8_worker_57 ?_
      refine getX8_91 (by omega) rfl dX8_worker_60 ?_
      refine r_iload_n dX8_worker_63 rfl ?_
      refine ld_9  (by omega) (by omega) dX8_worker_64 ?_
      refine r_ireturn rfl (by first | rfl | exact nar_bi _ | assumption) dX8_worker_65 ⟨_, rfl, ?_⟩
      exact K q hq rfl hv
    by_cases h1 : w = 1
    · subst h1
      refine r_tableIn 48 66 dX8_worker_18 (by decide) (by decide) rfl rfl ?_
      refine r_aload_n dX8_worker_66 rfl ?_
      refine getX8_10 rfl dX8_worker_67 ?_
      refine getX8_94 (by omega) rfl dX8_worker_70 ?_
      refine r_iload_n dX8_worker_73 rfl ?_
      refine ld_10  (by omega) (by omega) dX8_worker_74 ?_
      refine r_ireturn rfl (by first | rfl | exact nar_bi _ | assumption) dX8_worker_75 ⟨_, rfl, ?_⟩
      exact K q hq rfl hv
    by_cases h2 : w = 2
    · subst h2
      refine r_tableIn 58 76 dX8_worker_18 (by decide) (by decide) rfl rfl ?_
      refine r_aload_n dX8_worker_76 rfl ?_
      refine getX8_10 rfl dX8_worker_77 ?_
      refine getX8_97 (by omega) rfl dX8_worker_80 ?_
      refine r_iload_n dX8_worker_83 rfl ?_
      refine ld_11  (by omega) (by omega) dX8_worker_84 ?_
      refine r_ireturn rfl (by first | rfl | exact nar_bi _ | assumption) dX8_worker_85 ⟨_, rfl, ?_⟩
      exact K q hq rfl hv
    by_cases h3 : w = 3
    · subst h3
      refine r_tableIn 68 86 dX8_worker_18 (by decide) (by decide) rfl rfl ?_
      refine r_aload_n dX8_worker_86 rfl ?_
      refine getX8_10 rfl dX8_worker_87 ?_
      refine getX8_100 (by omega) rfl dX8_worker_90 ?_
      refine r_iload_n dX8_worker_93 rfl ?_
      refine ld_12  (by omega) (by omega) dX8_worker_94 ?_
      refine r_ireturn rfl (by first | rfl | exact nar_bi _ | assumption) dX8_worker_95 ⟨_, rfl, ?_⟩
      exact K q hq rfl hv
    by_cases h4 : w = 4
    · subst h4
      refine r_tableIn 78 96 dX8_worker_18 (by decide) (by decide) rfl rfl ?_
      refine r_aload_n dX8_worker_96 rfl ?_
      refine getX8_10 rfl dX8_worker_97 ?_
      refine getX8_103 (by omega) rfl dX8_worker_100 ?_
      refine r_iload_n dX8_worker_103 rfl ?_
      refine ld_13  (by omega) (by omega) dX8_worker_104 ?_
      refine r_ireturn rfl (by first | rfl | exact nar_bi _ | assumption) dX8_worker_105 ⟨_, rfl, ?_⟩
      exact K q hq rfl hv
    by_cases h5 : w = 5
    · subst h5
      obtain ⟨⟨k, hk, ek⟩, -⟩ := hW.2.2 q (by omega)
      refine r_tableIn 88 106 dX8_worker_18 (by decide) (by decide) rfl rfl ?_
      refine r_aload_n dX8_worker_106 rfl ?_
      refine getX8_10 rfl dX8_worker_107 ?_
      refine r_iload_n dX8_worker_110 rfl ?_
      refine cVN_r1 fX1_ruleOf (rcv_1 (by omega)) lkX8_106 rfl dX8_worker_111 (sp_X1_ruleOf (by omega) (by omega) hk ek ?_)
      refine r_aload_n dX8_worker_114 rfl ?_
      refine getX8_10 rfl dX8_worker_115 ?_
      refine getX8_94 (by omega) rfl dX8_worker_118 ?_
      refine r_iload_n dX8_worker_121 rfl ?_
      refine ld_10  (by omega) (by omega) dX8_worker_122 ?_
      refine d_due hk (by omega) lkX8_110 rfl rfl rfl rfl dX8_worker_123 ?_
      rw [← ek]
      refine r_ireturn rfl (by first | rfl | exact nar_bi _ | assumption) dX8_worker_126 ⟨_, rfl, ?_⟩
      exact K q hq rfl hv
    have n0 := i32_ne (v := 0) 0 rfl h0
    have n1 := i32_ne (v := 1) 1 rfl h1
    have n2 := i32_ne (v := 2) 2 rfl h2
    have n3 := i32_ne (v := 3) 3 rfl h3
    have n4 := i32_ne (v := 4) 4 rfl h4
    have n5 := i32_ne (v := 5) 5 rfl h5
    refine r_tableOut 127 dX8_worker_18 (by omega) rfl ?_
    refine r_aload_n dX8_worker_127 rfl ?_
    refine r_bipush (-2) dX8_worker_128 rfl ?_
    refine cV_i1 fX8_refuse rcv_0 lkX8_52 rfl dX8_worker_130 (sp_X8_refuse (Or.inr (Or.inl rfl)) ?_)
    refine r_ireturn rfl (by first | rfl | exact nar_bi _ | assumption) dX8_worker_133 ⟨_, rfl, ?_⟩
    refine Kr (-2) ?_ (by decide)
    rw [hv, if_neg]
    rintro ⟨a, b⟩
    have a := Int32.le_iff_toInt_le.mp a
    have b := Int32.le_iff_toInt_le.mp b
    rw [show (0 : Int32).toInt = 0 from rfl] at a
    rw [show (5 : Int32).toInt = 5 from rfl] at b
    omega
  · refine r_aload_n dX8_worker_11 rfl ?_
    refine r_iconst (-1) dX8_worker_12 rfl ?_
    refine cV_i1 fX8_refuse rcv_0 lkX8_52 rfl dX8_worker_13 (sp_X8_refuse (Or.inl rfl) ?_)
    refine r_ireturn rfl (by first | rfl | exact nar_bi _ | assumption) dX8_worker_16 ⟨_, rfl, ?_⟩
    refine Kr (-1) ?_ (by decide)
    unfold vWorker
    rw [(bi_eq0 _).mp h8]
    rfl
/-- from -/
def fval (r : Row) (n q : Nat) (w : Int32) : Int32 := match fromW r n q with
  | none => -9
  | some o => if w = 0 then nI o else oI (whc (isLst (r (3 + 5 * q))) (wnt r q o) 7)
def vFrom (n : Nat) (p w : Int32) : Int32 := if hasW p n then (if eith w then 0 else -2) else -1
theorem sp_X8_from {n : Nat} {p w : Int32} (hW : WF (σ 0) n) (Kr : ∀ c, vFrom n p w = c → ¬ c = 0 → Q c (rfs σ 9 c)) (K : ∀ q, q < n → p = nI q → vFrom n p w = 0 → Q (fval (σ 0) n q w) σ) : Mi E mX8_from [.ref (ad E 0 0), .int p, .int w] σ Q := by
  have hn6 := hW.2.1
  refine Mw_of (L0 := [some (.ref (ad E 0 0)), some (.int p), some (.int w), none, none]) pn_X8 rfl rfl (Nat.le_of_ble_eq_true rfl) ?_
  refine r_aload_n dX8_from_0 rfl ?_
  refine getX8_10 rfl dX8_from_1 ?_
  refine r_iload_n dX8_from_4 rfl ?_
  refine cVN_i1 fX1_has (rcv_1 (by omega)) lkX8_87 rfl dX8_from_5 (sp_X1_has (by omega) hW.1 ?_)
  refine r_if_ne 17 dX8_from_8 rfl (fun h8 => ?_) (fun h8 => ?_)
  · obtain ⟨q, hq, rfl⟩ := hasW_ex (tb_of h8) hn6
    refine r_iload_n dX8_from_17 rfl ?_
    refine cS_i1 fX8_isEither lkX8_115 rfl dX8_from_18 (sp_X8_isEither  ?_)
    refine r_if_ne 31 dX8_from_21 rfl (fun h21 => ?_) (fun h21 => ?_)
    · have he : eith w = true := tb_of h21
      have K := K q hq rfl (by unfold vFrom; rw [tb_of h8, he]; rfl)
      unfold fval at K
      obtain ⟨⟨k, hk, ek⟩, -⟩ := hW.2.2 q (by omega)
      refine r_aload_n dX8_from_31 rfl ?_
      refine getX8_10 rfl dX8_from_32 ?_
      refine r_iload_n dX8_from_35 rfl ?_
      refine cVN_r1 fX1_ruleOf (rcv_1 (by omega)) lkX8_106 rfl dX8_from_36 (sp_X1_ruleOf (by omega) (by omega) hk ek ?_)
      refine r_astore_n_3 dX8_from_39 rfl ?_
      refine r_aload_n dX8_from_40 rfl ?_
      refine r_aload_n dX8_from_41 rfl ?_
      refine getX8_10 rfl dX8_from_42 ?_
      refine r_iload_n dX8_from_45 rfl ?_
      refine d_pay hk (by omega) hW hq ek lkX8_118 rfl rfl rfl rfl dX8_from_46 ?_
      refine r_istore_4 dX8_from_49 rfl ?_
      cases hf : fromW (σ 0) n q with
      | none =>
        rw [hf] at K
        rw [oI_none]
        refine r_iload dX8_from_51 rfl ?_
        refine r_bipush (-9) dX8_from_53 rfl ?_
        refine r_icmp_eq 62 dX8_from_55 rfl (fun h55 => ?_) (fun h55 => ?_)
        · refine r_iload dX8_from_62 rfl ?_
          refine r_ireturn rfl (by first | rfl | exact nar_bi _ | assumption) dX8_from_64 ⟨_, rfl, ?_⟩
          exact K
        · exact absurd rfl h55
      | some o =>
        have ho := fromW_lt (by omega) hf
        have hw0 := fromW_wnt hf
        obtain ⟨m, hm, em⟩ := R7_ex (wnt_R7 (p := q) (hW.2.2 o (by omega)).2.2.1)
        have hm0 : m ≠ 0 := fun h => hw0 (by rw [em, h]; rfl)
        rw [hf] at K
        dsimp only at K
        rw [oI_some]
        refine r_iload dX8_from_51 rfl ?_
        refine r_bipush (-9) dX8_from_53 rfl ?_
        refine r_icmp_eq 62 dX8_from_55 rfl (fun h55 => ?_) (fun h55 => ?_)
        · exact absurd h55 (fun e => absurd (nI_pos (n := o) (by omega)) (by rw [e]; decide))
        · refine r_iload_n dX8_from_58 rfl ?_
          refine r_if_ne 65 dX8_from_59 rfl (fun h59 => ?_) (fun h59 => ?_)
          · refine r_aload_n dX8_from_65 rfl ?_
            refine r_aload_n dX8_from_66 rfl ?_
            refine getX8_10 rfl dX8_from_67 ?_
            refine r_iload dX8_from_70 rfl ?_
            refine r_iload_n dX8_from_72 rfl ?_
            refine cVN_i2 fX1_offered (rcv_1 (by omega)) lkX8_122 rfl dX8_from_73 (sp_X1_offered (by omega) (by omega) (by omega) ?_)
            rw [em]
            refine d_wkd hk (by omega) hm hm0 lkX8_126 rfl rfl dX8_from_76 ?_
            rw [← em, ← ek]
            refine r_ireturn rfl (by first | rfl | exact nar_bi _ | assumption) dX8_from_79 ⟨_, rfl, ?_⟩
            rw [if_neg h59] at K
            exact K
          · refine r_iload dX8_from_62 rfl ?_
            refine r_ireturn rfl (by first | rfl | exact nar_bi _ | assumption) dX8_from_64 ⟨_, rfl, ?_⟩
            rw [if_pos h59] at K
            exact K
    · refine r_aload_n dX8_from_24 rfl ?_
      refine r_bipush (-2) dX8_from_25 rfl ?_
      refine cV_i1 fX8_refuse rcv_0 lkX8_52 rfl dX8_from_27 (sp_X8_refuse (Or.inr (Or.inl rfl)) ?_)
      refine r_ireturn rfl (by first | rfl | exact nar_bi _ | assumption) dX8_from_30 ⟨_, rfl, ?_⟩
      refine Kr (-2) ?_ (by decide)
      have he : eith w = false := (bi_eq0 _).mp h21
      unfold vFrom
      rw [tb_of h8, he]
      rfl
  · refine r_aload_n dX8_from_11 rfl ?_
    refine r_iconst (-1) dX8_from_12 rfl ?_
    refine cV_i1 fX8_refuse rcv_0 lkX8_52 rfl dX8_from_13 (sp_X8_refuse (Or.inl rfl) ?_)
    refine r_ireturn rfl (by first | rfl | exact nar_bi _ | assumption) dX8_from_16 ⟨_, rfl, ?_⟩
    refine Kr (-1) ?_ (by decide)
    unfold vFrom
    rw [(bi_eq0 _).mp h8]
    rfl
/-- frees -/
def vFrees (n : Nat) (p w : Int32) : Int32 := if hasW p n && isWd w then 0 else -1
def frR (r : Row) (q : Nat) (w : Int32) : Row := upd r (5 + 5 * q) (r (5 + 5 * q) ^^^ (1 <<< (w &&& 31)))
theorem sp_X8_frees {n : Nat} {p w : Int32} (hW : WF (σ 0) n) (Kr : ∀ c, vFrees n p w = c → ¬ c = 0 → Q c (rfs σ 9 c)) (K : ∀ q, q < n → p = nI q → vFrees n p w = 0 → Q (frR (σ 0) q w (5 + 5 * q)) (va_up σ 0 (frR (σ 0) q w))) : Mi E mX8_frees [.ref (ad E 0 0), .int p, .int w] σ Q := by
  have hn6 := hW.2.1
  refine Mw_of (L0 := [some (.ref (ad E 0 0)), some (.int p), some (.int w)]) pn_X8 rfl rfl (Nat.le_of_ble_eq_true rfl) ?_
  refine r_aload_n dX8_frees_0 rfl ?_
  refine getX8_10 rfl dX8_frees_1 ?_
  refine r_iload_n dX8_frees_4 rfl ?_
  refine cVN_i1 fX1_has (rcv_1 (by omega)) lkX8_87 rfl dX8_frees_5 (sp_X1_has (by omega) hW.1 ?_)
  refine r_if_eq 18 dX8_frees_8 rfl (fun h8 => ?_) (fun h8 => ?_)
  · refine r_aload_n dX8_frees_18 rfl ?_
    refine r_iconst (-1) dX8_frees_19 rfl ?_
    refine cV_i1 fX8_refuse rcv_0 lkX8_52 rfl dX8_frees_20 (sp_X8_refuse (Or.inl rfl) ?_)
    refine r_ireturn rfl (by first | rfl | exact nar_bi _ | assumption) dX8_frees_23 ⟨_, rfl, ?_⟩
    exact Kr (-1) (by unfold vFrees; rw [(bi_eq0 _).mp h8]; rfl) (by decide)
  · refine r_iload_n dX8_frees_11 rfl ?_
    refine cS_i1 fX8_isWeekday lkX8_129 rfl dX8_frees_12 (sp_X8_isWeekday  ?_)
    refine r_if_ne 24 dX8_frees_15 rfl (fun h15 => ?_) (fun h15 => ?_)
    · obtain ⟨q, hq, rfl⟩ := hasW_ex (tb_of h8) hn6
      have hw : isWd w = true := tb_of h15
      refine r_aload_n dX8_frees_24 rfl ?_
      refine getX8_10 rfl dX8_frees_25 ?_
      refine r_iload_n dX8_frees_28 rfl ?_
      refine r_iload_n dX8_frees_29 rfl ?_
      refine cVN_v2 fX1_change (rcv_1 (by omega)) lkX8_132 rfl dX8_frees_30 (sp_X1_change (by omega) (by omega) ?_)
      refine r_aload_n dX8_frees_33 rfl ?_
      refine getX8_10 rfl dX8_frees_34 ?_
      refine getX8_97 (by omega) rfl dX8_frees_37 ?_
      refine r_iload_n dX8_frees_40 rfl ?_
      refine ld_11  (by omega) (by omega) dX8_frees_41 ?_
      refine r_ireturn rfl (by first | rfl | exact nar_bi _ | assumption) dX8_frees_42 ⟨_, rfl, ?_⟩
      exact qof (K q hq rfl (by unfold vFrees; rw [tb_of h8, hw]; rfl)) (by rw [up_at]; rfl) rfl
    · refine r_aload_n dX8_frees_18 rfl ?_
      refine r_iconst (-1) dX8_frees_19 rfl ?_
      refine cV_i1 fX8_refuse rcv_0 lkX8_52 rfl dX8_frees_20 (sp_X8_refuse (Or.inl rfl) ?_)
      refine r_ireturn rfl (by first | rfl | exact nar_bi _ | assumption) dX8_frees_23 ⟨_, rfl, ?_⟩
      have hw : isWd w = false := (bi_eq0 _).mp h15
      exact Kr (-1) (by unfold vFrees; rw [hw, Bool.and_false]; rfl) (by decide)
/-- gives -/
def vGives (r : Row) (n : Nat) (p q w : Int32) : Int32 := if two2 p q n && isWd w then (if tb (r (5 + 5 * p.toNatClampNeg)) w && !tb (r (5 + 5 * q.toNatClampNeg)) w then 0 else -3) else -1
theorem sp_X8_gives {n : Nat} {p q w : Int32} (hW : WF (σ 0) n) (Kr : ∀ c, vGives (σ 0) n p q w = c → ¬ c = 0 → Q c (rfs σ 9 c)) (K : ∀ a b j, a < n → b < n → j < 7 → p = nI a → q = nI b → w = nI j → vGives (σ 0) n p q w = 0 → Q (mvd (σ 0) a b w (5 + 5 * b)) (va_up σ 0 (mvd (σ 0) a b w))) : Mi E mX8_gives [.ref (ad E 0 0), .int p, .int q, .int w] σ Q := by
  have hn6 := hW.2.1
  refine Mw_of (L0 := [some (.ref (ad E 0 0)), some (.int p), some (.int q), some (.int w)]) pn_X8 rfl rfl (Nat.le_of_ble_eq_true rfl) ?_
  refine r_aload_n dX8_gives_0 rfl ?_
  refine r_iload_n dX8_gives_1 rfl ?_
  refine r_iload_n dX8_gives_2 rfl ?_
  refine cV_i2 fX8_areTwo rcv_0 lkX8_136 rfl dX8_gives_3 (sp_X8_areTwo hW.1 ?_)
  refine r_if_eq 16 dX8_gives_6 rfl (fun h6 => ?_) (fun h6 => ?_)
  · refine r_aload_n dX8_gives_16 rfl ?_
    refine r_iconst (-1) dX8_gives_17 rfl ?_
    refine cV_i1 fX8_refuse rcv_0 lkX8_52 rfl dX8_gives_18 (sp_X8_refuse (Or.inl rfl) ?_)
    refine r_ireturn rfl (by first | rfl | exact nar_bi _ | assumption) dX8_gives_21 ⟨_, rfl, ?_⟩
    exact Kr (-1) (by unfold vGives; rw [(bi_eq0 _).mp h6]; rfl) (by decide)
  · refine r_iload_n dX8_gives_9 rfl ?_
    refine cS_i1 fX8_isWeekday lkX8_129 rfl dX8_gives_10 (sp_X8_isWeekday  ?_)
    refine r_if_ne 22 dX8_gives_13 rfl (fun h13 => ?_) (fun h13 => ?_)
    · obtain ⟨a, b, ha, hb, hab, rfl, rfl⟩ := two2_ex (tb_of h6) hn6
      obtain ⟨j, hj, rfl⟩ := isWd_ex (x := w) (tb_of h13)
      have hw : isWd (nI j) = true := tb_of h13
      have hv : vGives (σ 0) n (nI a) (nI b) (nI j) = if tb (σ 0 (5 + 5 * a)) (nI j) && !tb (σ 0 (5 + 5 * b)) (nI j) then 0 else -3 := by
        unfold vGives; rw [tb_of h6, hw, nI_clamp (by omega), nI_clamp (by omega)]; rfl
      refine r_aload_n dX8_gives_22 rfl ?_
      refine getX8_10 rfl dX8_gives_23 ?_
      refine r_iload_n dX8_gives_26 rfl ?_
      refine r_iload_n dX8_gives_27 rfl ?_
      refine r_iload_n dX8_gives_28 rfl ?_
      refine cVN_i3 fX1_canHand (rcv_1 (by omega)) lkX8_140 rfl dX8_gives_29 (sp_X1_canHand (by omega) (by omega) (by omega) ?_)
      refine r_if_ne 42 dX8_gives_32 rfl (fun h32 => ?_) (fun h32 => ?_)
      · have hc := tb_of h32
        rw [hc] at hv
        simp only [Bool.and_eq_true, Bool.not_eq_true'] at hc
        rw [tb_bt _ (by omega), tb_bt _ (by omega)] at hc
        refine r_aload_n dX8_gives_42 rfl ?_
        refine getX8_10 rfl dX8_gives_43 ?_
        refine r_iload_n dX8_gives_46 rfl ?_
        refine r_iload_n dX8_gives_47 rfl ?_
        refine r_iload_n dX8_gives_48 rfl ?_
        refine cVN_v3 fX1_hand (rcv_1 (by omega)) lkX8_144 rfl dX8_gives_49 (sp_X1_hand (by omega) (by omega) (by omega) ?_)
        rw [hnd_mvd (by omega) (Ne.symm hab) hc.1 hc.2]
        refine r_aload_n dX8_gives_52 rfl ?_
        refine getX8_10 rfl dX8_gives_53 ?_
        refine getX8_97 (by omega) rfl dX8_gives_56 ?_
        refine r_iload_n dX8_gives_59 rfl ?_
        refine ld_11  (by omega) (by omega) dX8_gives_60 ?_
        refine r_ireturn rfl (by first | rfl | exact nar_bi _ | assumption) dX8_gives_61 ⟨_, rfl, ?_⟩
        rw [up_at]
        exact K a b j ha hb hj rfl rfl rfl hv
      · refine r_aload_n dX8_gives_35 rfl ?_
        refine r_bipush (-3) dX8_gives_36 rfl ?_
        refine cV_i1 fX8_refuse rcv_0 lkX8_52 rfl dX8_gives_38 (sp_X8_refuse (Or.inr (Or.inr (Or.inl rfl))) ?_)
        refine r_ireturn rfl (by first | rfl | exact nar_bi _ | assumption) dX8_gives_41 ⟨_, rfl, ?_⟩
        exact Kr (-3) (by rw [hv, (bi_eq0 _).mp h32]; rfl) (by decide)
    · refine r_aload_n dX8_gives_16 rfl ?_
      refine r_iconst (-1) dX8_gives_17 rfl ?_
      refine cV_i1 fX8_refuse rcv_0 lkX8_52 rfl dX8_gives_18 (sp_X8_refuse (Or.inl rfl) ?_)
      refine r_ireturn rfl (by first | rfl | exact nar_bi _ | assumption) dX8_gives_21 ⟨_, rfl, ?_⟩
      have hw : isWd w = false := (bi_eq0 _).mp h13
      exact Kr (-1) (by unfold vGives; rw [hw, Bool.and_false]; rfl) (by decide)
/-- rests -/
def vRests (n : Nat) (p v : Int32) : Int32 := if hasW p n then outs v 0 30 else -1
theorem sp_X8_rests {n : Nat} {p v : Int32} (hW : WF (σ 0) n) (Kr : ∀ c, vRests n p v = c → ¬ c = 0 → Q c (rfs σ 9 c)) (K : ∀ q, q < n → p = nI q → vRests n p v = 0 → Q (σ 0 (6 + 5 * q)) (va_up σ 0 (upd (σ 0) (6 + 5 * q) v))) : Mi E mX8_rests [.ref (ad E 0 0), .int p, .int v] σ Q := by
  have hn6 := hW.2.1
  refine Mw_of (L0 := [some (.ref (ad E 0 0)), some (.int p), some (.int v), none, none]) pn_X8 rfl rfl (Nat.le_of_ble_eq_true rfl) ?_
  refine r_aload_n dX8_rests_0 rfl ?_
  refine getX8_10 rfl dX8_rests_1 ?_
  refine r_iload_n dX8_rests_4 rfl ?_
  refine cVN_i1 fX1_has (rcv_1 (by omega)) lkX8_87 rfl dX8_rests_5 (sp_X1_has (by omega) hW.1 ?_)
  refine r_if_ne 17 dX8_rests_8 rfl (fun h8 => ?_) (fun h8 => ?_)
  · obtain ⟨q, hq, rfl⟩ := hasW_ex (tb_of h8) hn6
    have hv : vRests n (nI q) v = outs v 0 30 := by unfold vRests; rw [tb_of h8]; rfl
    refine r_iload_n dX8_rests_17 rfl ?_
    refine r_iconst (0) dX8_rests_18 rfl ?_
    refine r_bipush (30) dX8_rests_19 rfl ?_
    refine cS_i3 fX8_outside lkX8_44 rfl dX8_rests_21 (sp_X8_outside  ?_)
    refine r_istore_n_3 dX8_rests_24 rfl ?_
    refine r_iload_n dX8_rests_25 rfl ?_
    refine r_if_eq 35 dX8_rests_26 rfl (fun h26 => ?_) (fun h26 => ?_)
    · refine r_aload_n dX8_rests_35 rfl ?_
      refine getX8_10 rfl dX8_rests_36 ?_
      refine getX8_100 (by omega) rfl dX8_rests_39 ?_
      refine r_iload_n dX8_rests_42 rfl ?_
      refine ld_12  (by omega) (by omega) dX8_rests_43 ?_
      refine r_istore_4 dX8_rests_44 rfl ?_
      refine r_aload_n dX8_rests_46 rfl ?_
      refine getX8_10 rfl dX8_rests_47 ?_
      refine getX8_100 (by omega) rfl dX8_rests_50 ?_
      refine r_iload_n dX8_rests_53 rfl ?_
      refine r_iload_n dX8_rests_54 rfl ?_
      refine st_12  (by omega) (by omega) dX8_rests_55 ?_
      refine r_iload dX8_rests_56 rfl ?_
      refine r_ireturn rfl (by first | rfl | exact nar_bi _ | assumption) dX8_rests_58 ⟨_, rfl, ?_⟩
      exact K q hq rfl (hv.trans h26)
    · refine r_aload_n dX8_rests_29 rfl ?_
      refine r_iload_n dX8_rests_30 rfl ?_
      refine cV_i1 fX8_refuse rcv_0 lkX8_52 rfl dX8_rests_31 (sp_X8_refuse (outs_ref h26) ?_)
      refine r_ireturn rfl (by first | rfl | exact nar_bi _ | assumption) dX8_rests_34 ⟨_, rfl, ?_⟩
      exact Kr _ hv h26
  · refine r_aload_n dX8_rests_11 rfl ?_
    refine r_iconst (-1) dX8_rests_12 rfl ?_
    refine cV_i1 fX8_refuse rcv_0 lkX8_52 rfl dX8_rests_13 (sp_X8_refuse (Or.inl rfl) ?_)
    refine r_ireturn rfl (by first | rfl | exact nar_bi _ | assumption) dX8_rests_16 ⟨_, rfl, ?_⟩
    exact Kr (-1) (by unfold vRests; rw [(bi_eq0 _).mp h8]; rfl) (by decide)
/-- turn -/
def vTurn (n : Nat) (p k f : Int32) : Int32 := if hasW p n then (if 0 ≤ k ∧ k < 6 then outs f 0 9 else -2) else -1
theorem sp_X8_turn {n : Nat} {p k f : Int32} (hW : WF (σ 0) n) (Kr : ∀ c, vTurn n p k f = c → ¬ c = 0 → Q c (rfs σ 9 c)) (K : ∀ q, q < n → p = nI q → vTurn n p k f = 0 → Q (10 * σ 0 (3 + 5 * q) + σ 0 (4 + 5 * q)) (va_up σ 0 (upd (upd (σ 0) (3 + 5 * q) k) (4 + 5 * q) f))) : Mi E mX8_turn [.ref (ad E 0 0), .int p, .int k, .int f] σ Q := by
  have hn6 := hW.2.1
  refine Mw_of (L0 := [some (.ref (ad E 0 0)), some (.int p), some (.int k), some (.int f), none, none]) pn_X8 rfl rfl (Nat.le_of_ble_eq_true rfl) ?_
  refine r_aload_n dX8_turn_0 rfl ?_
  refine getX8_10 rfl dX8_turn_1 ?_
  refine r_iload_n dX8_turn_4 rfl ?_
  refine cVN_i1 fX1_has (rcv_1 (by omega)) lkX8_87 rfl dX8_turn_5 (sp_X1_has (by omega) hW.1 ?_)
  refine r_if_ne 17 dX8_turn_8 rfl (fun h8 => ?_) (fun h8 => ?_)
  · obtain ⟨q, hq, rfl⟩ := hasW_ex (tb_of h8) hn6
    have hv : vTurn n (nI q) k f = if 0 ≤ k ∧ k < 6 then outs f 0 9 else -2 := by unfold vTurn; rw [tb_of h8]; rfl
    refine r_iload_n dX8_turn_17 rfl ?_
    refine r_if_lt 27 dX8_turn_18 rfl (fun h18 => ?_) (fun h18 => ?_)
    · refine r_aload_n dX8_turn_27 rfl ?_
      refine r_bipush (-2) dX8_turn_28 rfl ?_
      refine cV_i1 fX8_refuse rcv_0 lkX8_52 rfl dX8_turn_30 (sp_X8_refuse (Or.inr (Or.inl rfl)) ?_)
      refine r_ireturn rfl (by first | rfl | exact nar_bi _ | assumption) dX8_turn_33 ⟨_, rfl, ?_⟩
      exact Kr (-2) (by rw [hv, if_neg (fun a => absurd a.1 (Int32.not_le.mpr h18))]) (by decide)
    · refine r_iload_n dX8_turn_21 rfl ?_
      refine r_bipush (6) dX8_turn_22 rfl ?_
      refine r_icmp_lt 34 dX8_turn_24 rfl (fun h24 => ?_) (fun h24 => ?_)
      · rw [if_pos ⟨Int32.not_lt.mp h18, h24⟩] at hv
        refine r_iload_n dX8_turn_34 rfl ?_
        refine r_iconst (0) dX8_turn_35 rfl ?_
        refine r_bipush (9) dX8_turn_36 rfl ?_
        refine cS_i3 fX8_outside lkX8_44 rfl dX8_turn_38 (sp_X8_outside  ?_)
        refine r_istore_4 dX8_turn_41 rfl ?_
        refine r_iload dX8_turn_43 rfl ?_
        refine r_if_eq 55 dX8_turn_45 rfl (fun h45 => ?_) (fun h45 => ?_)
        · refine r_bipush (10) dX8_turn_55 rfl ?_
          refine r_aload_n dX8_turn_57 rfl ?_
          refine getX8_10 rfl dX8_turn_58 ?_
          refine getX8_91 (by omega) rfl dX8_turn_61 ?_
          refine r_iload_n dX8_turn_64 rfl ?_
          refine ld_9  (by omega) (by omega) dX8_turn_65 ?_
          refine r_imul dX8_turn_66 ?_
          refine r_aload_n dX8_turn_67 rfl ?_
          refine getX8_10 rfl dX8_turn_68 ?_
          refine getX8_94 (by omega) rfl dX8_turn_71 ?_
          refine r_iload_n dX8_turn_74 rfl ?_
          refine ld_10  (by omega) (by omega) dX8_turn_75 ?_
          refine r_iadd dX8_turn_76 ?_
          refine r_istore_5 dX8_turn_77 rfl ?_
          refine r_aload_n dX8_turn_79 rfl ?_
          refine getX8_10 rfl dX8_turn_80 ?_
          refine getX8_91 (by omega) rfl dX8_turn_83 ?_
          refine r_iload_n dX8_turn_86 rfl ?_
          refine r_iload_n dX8_turn_87 rfl ?_
          refine st_9  (by omega) (by omega) dX8_turn_88 ?_
          refine r_aload_n dX8_turn_89 rfl ?_
          refine getX8_10 rfl dX8_turn_90 ?_
          refine getX8_94 (by omega) rfl dX8_turn_93 ?_
          refine r_iload_n dX8_turn_96 rfl ?_
          refine r_iload_n dX8_turn_97 rfl ?_
          refine st_10  (by omega) (by omega) dX8_turn_98 ?_
          refine r_iload dX8_turn_99 rfl ?_
          refine r_ireturn rfl (by first | rfl | exact nar_bi _ | assumption) dX8_turn_101 ⟨_, rfl, ?_⟩
          exact qof (K q hq rfl (hv.trans h45)) rfl (by simp only [s2, up_at, up_up])
        · refine r_aload_n dX8_turn_48 rfl ?_
          refine r_iload dX8_turn_49 rfl ?_
          refine cV_i1 fX8_refuse rcv_0 lkX8_52 rfl dX8_turn_51 (sp_X8_refuse (outs_ref h45) ?_)
          refine r_ireturn rfl (by first | rfl | exact nar_bi _ | assumption) dX8_turn_54 ⟨_, rfl, ?_⟩
          exact Kr _ hv h45
      · refine r_aload_n dX8_turn_27 rfl ?_
        refine r_bipush (-2) dX8_turn_28 rfl ?_
        refine cV_i1 fX8_refuse rcv_0 lkX8_52 rfl dX8_turn_30 (sp_X8_refuse (Or.inr (Or.inl rfl)) ?_)
        refine r_ireturn rfl (by first | rfl | exact nar_bi _ | assumption) dX8_turn_33 ⟨_, rfl, ?_⟩
        exact Kr (-2) (by rw [hv, if_neg (fun a => h24 a.2)]) (by decide)
  · refine r_aload_n dX8_turn_11 rfl ?_
    refine r_iconst (-1) dX8_turn_12 rfl ?_
    refine cV_i1 fX8_refuse rcv_0 lkX8_52 rfl dX8_turn_13 (sp_X8_refuse (Or.inl rfl) ?_)
    refine r_ireturn rfl (by first | rfl | exact nar_bi _ | assumption) dX8_turn_16 ⟨_, rfl, ?_⟩
    exact Kr (-1) (by unfold vTurn; rw [(bi_eq0 _).mp h8]; rfl) (by decide)
/-- days -/
def vDays (r : Row) (m : Int32) : Int32 := if ¬ outs m 1 60 = 0 then outs m 1 60 else if 999 < r 1 + m then -6 else 0
theorem sp_X8_days {n : Nat} {m : Int32} (hW : WF (σ 0) n) (Kr : ∀ c, vDays (σ 0) m = c → ¬ c = 0 → Q c (rfs σ 9 c)) (K : ∀ j, j ≤ 60 → m = nI j → vDays (σ 0) m = 0 → Q (dayN 0 n (σ 0) j 2) (va_up σ 0 (dayN 0 n (σ 0) j))) : Mi E mX8_days [.ref (ad E 0 0), .int m] σ Q := by
  refine Mw_of (L0 := [some (.ref (ad E 0 0)), some (.int m), none]) pn_X8 rfl rfl (Nat.le_of_ble_eq_true rfl) ?_
  refine r_iload_n dX8_days_0 rfl ?_
  refine r_iconst (1) dX8_days_1 rfl ?_
  refine r_bipush (60) dX8_days_2 rfl ?_
  refine cS_i3 fX8_outside lkX8_44 rfl dX8_days_4 (sp_X8_outside  ?_)
  refine r_istore_n_2 dX8_days_7 rfl ?_
  refine r_iload_n dX8_days_8 rfl ?_
  refine r_if_ne 30 dX8_days_9 rfl (fun h9 => ?_) (fun h9 => ?_)
  · refine r_iload_n dX8_days_30 rfl ?_
    refine r_if_eq 40 dX8_days_31 rfl (fun h31 => ?_) (fun h31 => ?_)
    · exact absurd h31 h9
    · refine r_aload_n dX8_days_34 rfl ?_
      refine r_iload_n dX8_days_35 rfl ?_
      refine cV_i1 fX8_refuse rcv_0 lkX8_52 rfl dX8_days_36 (sp_X8_refuse (outs_ref h9) ?_)
      refine r_ireturn rfl (by first | rfl | exact nar_bi _ | assumption) dX8_days_39 ⟨_, rfl, ?_⟩
      exact Kr _ (by unfold vDays; rw [if_pos h9]) h9
  · refine r_aload_n dX8_days_12 rfl ?_
    refine getX8_10 rfl dX8_days_13 ?_
    refine getX8_148 (by omega) rfl dX8_days_16 ?_
    refine r_iload_n dX8_days_19 rfl ?_
    refine r_iadd dX8_days_20 ?_
    refine r_sipush (999) dX8_days_21 rfl ?_
    refine r_icmp_le 30 dX8_days_24 rfl (fun h24 => ?_) (fun h24 => ?_)
    · refine r_iload_n dX8_days_30 rfl ?_
      refine r_if_eq 40 dX8_days_31 rfl (fun h31 => ?_) (fun h31 => ?_)
      · have hv : vDays (σ 0) m = 0 := by unfold vDays; rw [if_neg (fun h => h h9), if_neg (Int32.not_lt.mpr h24)]
        obtain ⟨hlo, hhi⟩ := outs_0 h9
        obtain ⟨j, hj, rfl⟩ := nI_of (Int32.not_lt.mpr (Int32.le_trans (by decide : (0 : Int32) ≤ 1) hlo))
        have hj60 : j ≤ 60 := (nI_leI hj (by omega)).mp hhi
        refine r_aload_n dX8_days_40 rfl ?_
        refine getX8_10 rfl dX8_days_41 ?_
        refine r_iload_n dX8_days_44 rfl ?_
        refine r_iconst (0) dX8_days_45 rfl ?_
        refine cVN_i2 fX1_passDays (rcv_1 (by omega)) lkX8_151 rfl dX8_days_46 (sp_X1_passDays (by omega) hW (by omega) ?_)
        refine r_pop dX8_days_49 rfl ?_
        refine r_aload_n dX8_days_50 rfl ?_
        refine getX8_10 rfl dX8_days_51 ?_
        refine getX8_154 (by omega) rfl dX8_days_54 ?_
        refine r_ireturn rfl (by first | rfl | exact nar_bi _ | assumption) dX8_days_57 ⟨_, rfl, ?_⟩
        rw [up_at]
        exact K j hj60 rfl hv
      · exact absurd h9 h31
    · refine r_bipush (-6) dX8_days_27 rfl ?_
      refine r_istore_n_2 dX8_days_29 rfl ?_
      refine r_iload_n dX8_days_30 rfl ?_
      refine r_if_eq 40 dX8_days_31 rfl (fun h31 => ?_) (fun h31 => ?_)
      · exact absurd h31 (by decide)
      · refine r_aload_n dX8_days_34 rfl ?_
        refine r_iload_n dX8_days_35 rfl ?_
        refine cV_i1 fX8_refuse rcv_0 lkX8_52 rfl dX8_days_36 (sp_X8_refuse (Or.inr (Or.inr (Or.inr (Or.inr rfl)))) ?_)
        refine r_ireturn rfl (by first | rfl | exact nar_bi _ | assumption) dX8_days_39 ⟨_, rfl, ?_⟩
        exact Kr (-6) (by unfold vDays; rw [if_neg (fun h => h h9), if_pos (Int32.not_le.mp h24)]) (by decide)
end PUBA
