/-! ===== whatIs, lots ===== -/
section WHATIS
variable {E : EnvT} {σ : Sg} {Q : Int32 → Sg → Prop} {Qv : Sg → Prop}
def tft (r : Row) (n p : Nat) (tl : Row) : Nat → Bool
  | 0 => true
  | k + 1 => tft r n p tl k && (dayN 0 n r k (6 + 5 * p) == tl k)
theorem tft_mono {r : Row} {n p : Nat} {tl : Row} {k : Nat} (h : tft r n p tl k = false) : ∀ j, tft r n p tl (k + j) = false
  | 0 => h
  | j + 1 => by
    show (tft r n p tl (k + j) && _) = false
    rw [tft_mono h j, Bool.false_and]
theorem eith_ex {w : Int32} (h : eith w = true) : ∃ e, e < 2 ∧ w = nI e := by
  unfold eith at h
  rw [Bool.or_eq_true, beq_iff_eq, beq_iff_eq] at h
  rcases h with h | h
  · exact ⟨0, by omega, h⟩
  · exact ⟨1, by omega, h⟩
def wiN (e : Nat) : Nat := if e = 0 then 6 else 10
def fit (r : Row) (n q e : Nat) (tl : Row) (c : Nat) : Nat → Int32
  | 0 => 0
  | t + 1 => if tft (upd r (3 + e + 5 * q) (nI t)) n q tl c then fit r n q e tl c t ||| ((1 : Int32) <<< (nI t &&& 31)) else fit r n q e tl c t
theorem upd3_WF {r : Row} {n q e t : Nat} (hW : WF r n) (he : e < 2) (ht : t < wiN e) : WF (upd r (3 + e + 5 * q) (nI t)) n := by
  unfold wiN at ht
  by_cases h : e = 0
  · rw [if_pos h] at ht
    rw [h]
    exact updk_WF hW ht
  · rw [if_neg h] at ht
    rw [show e = 1 by omega]
    exact updf_WF hW ht
theorem sp_X8_tiresAsTold {n p c : Nat} (hW : WF (σ 1) n) (hp : p < 6) (hc : σ 10 1 = nI c) (hc16 : c ≤ 16) (K : ∀ r1, Q (bi (tft (σ 1) n p (σ 8) c)) (va_up σ 1 r1)) : Mi E mX8_tiresAsTold [.ref (ad E 0 0), .int (nI p)] σ Q := by
  have hn6 := hW.2.1
  refine Mw_of (L0 := [some (.ref (ad E 0 0)), some (.int (nI p)), none]) pn_X8 rfl rfl (Nat.le_of_ble_eq_true rfl) ?_
  refine r_iconst (0) dX8_tiresAsTold_0 rfl ?_
  refine r_istore_n_2 dX8_tiresAsTold_1 rfl ?_
  have LOOP : ∀ k, k ≤ c → tft (σ 1) n p (σ 8) k = true → GW E (ZM E 4 fun v σ' => ∃ r, v = some (.int r) ∧ Q r σ') mX8_tiresAsTold 2 [some (.ref (ad E 0 0)), some (.int (nI p)), some (.int (nI k))] [] (va_up σ 1 (dayN 0 n (σ 1) (k - 1))) := by
    refine down ?_ ?_
    · intro hf
      rw [hf] at K
      refine r_iload_n dX8_tiresAsTold_2 rfl ?_
      refine r_aload_n dX8_tiresAsTold_3 rfl ?_
      refine getX8_37 rfl dX8_tiresAsTold_4 ?_
      rw [up_ne (by omega), hc]
      refine r_icmp_ge_N 50 dX8_tiresAsTold_7 rfl (by omega) (by omega) (fun h7 => ?_) (fun h7 => ?_)
      · refine r_iconst (1) dX8_tiresAsTold_50 rfl ?_
        refine r_ireturn rfl (by first | rfl | exact nar_bi _ | assumption) dX8_tiresAsTold_51 ⟨_, rfl, ?_⟩
        exact K _
      · exfalso; omega
    · intro k hk ih hf
      have key : GW E (ZM E 4 fun v σ' => ∃ r, v = some (.int r) ∧ Q r σ') mX8_tiresAsTold 24 [some (.ref (ad E 0 0)), some (.int (nI p)), some (.int (nI k))] [] (va_up σ 1 (dayN 0 n (σ 1) k)) := by
        refine r_aload_n dX8_tiresAsTold_24 rfl ?_
        refine getX8_16 rfl dX8_tiresAsTold_25 ?_
        refine getX8_100 (by omega) rfl dX8_tiresAsTold_28 ?_
        refine r_iload_n dX8_tiresAsTold_31 rfl ?_
        refine ld_12  (by omega) (by omega) dX8_tiresAsTold_32 ?_
        rw [up_at]
        refine r_aload_n dX8_tiresAsTold_33 rfl ?_
        refine getX8_33 rfl dX8_tiresAsTold_34 ?_
        refine r_iload_n dX8_tiresAsTold_37 rfl ?_
        refine ld_16  (by omega) dX8_tiresAsTold_38 ?_
        rw [up_ne (a := 1) (x := 8) (by omega)]
        refine r_icmp_eq 44 dX8_tiresAsTold_39 rfl (fun h39 => ?_) (fun h39 => ?_)
        · refine r_inc1_2 dX8_tiresAsTold_44 rfl ?_
          refine r_goto 2 dX8_tiresAsTold_47 rfl ?_
          exact ih (by rw [tft, hf, h39]; exact beq_self_eq_true _)
        · refine r_iconst (0) dX8_tiresAsTold_42 rfl ?_
          refine r_ireturn rfl (by first | rfl | exact nar_bi _ | assumption) dX8_tiresAsTold_43 ⟨_, rfl, ?_⟩
          have h1 : tft (σ 1) n p (σ 8) (k + 1) = false := by rw [tft, hf, beq_eq_false_iff_ne.mpr h39]; rfl
          have h2 := tft_mono h1 (c - (k + 1))
          rw [show k + 1 + (c - (k + 1)) = c by omega] at h2
          rw [h2] at K
          exact K _
      refine r_iload_n dX8_tiresAsTold_2 rfl ?_
      refine r_aload_n dX8_tiresAsTold_3 rfl ?_
      refine getX8_37 rfl dX8_tiresAsTold_4 ?_
      rw [up_ne (by omega), hc]
      refine r_icmp_ge_N 50 dX8_tiresAsTold_7 rfl (by omega) (by omega) (fun h7 => ?_) (fun h7 => ?_)
      · exfalso; omega
      · refine r_iload_n dX8_tiresAsTold_10 rfl ?_
        refine r_if_le 24 dX8_tiresAsTold_11 rfl (fun h11 => ?_) (fun h11 => ?_)
        · have hk0 : k = 0 := by
            refine Nat.le_zero.mp (Nat.not_lt.mp (fun h => nI_nle h (by omega) h11))
          rw [hk0] at key ⊢
          exact key
        · have hk0 : 0 < k := Nat.pos_of_ne_zero (fun e => h11 (by rw [e]; decide))
          refine r_aload_n dX8_tiresAsTold_14 rfl ?_
          refine getX8_16 rfl dX8_tiresAsTold_15 ?_
          refine r_iconst (1) dX8_tiresAsTold_18 rfl ?_
          refine r_iconst (0) dX8_tiresAsTold_19 rfl ?_
          refine cVN_i2 fX1_passDays (rcv_1 (by omega)) lkX8_151 rfl dX8_tiresAsTold_20 (sp_X1_passDays (m := 1) (by omega) (by rw [up_at]; exact dayN_WF hW _) (by omega) ?_)
          rw [up_at, up_up, dayN_1, Nat.sub_add_cancel hk0]
          refine r_pop dX8_tiresAsTold_23 rfl ?_
          exact key
  refine r_sub ?_ (LOOP 0 (by omega) rfl)
  exact up_same.symm
theorem sp_X8_whatIs {n c : Nat} {p w : Int32} (hW : WF (σ 0) n) (hc : σ 10 1 = nI c) (hc16 : c ≤ 16) (Kr : ∀ x, vFrom n p w = x → ¬ x = 0 → Q x (rfs σ 9 x)) (K : ∀ q e, q < n → p = nI q → e < 2 → w = nI e → vFrom n p w = 0 → ∀ r1, Q (fit (σ 0) n q e (σ 8) c (wiN e)) (va_up σ 1 r1)) : Mi E mX8_whatIs [.ref (ad E 0 0), .int p, .int w] σ Q := by
  have hn6 := hW.2.1
  refine Mw_of (L0 := [some (.ref (ad E 0 0)), some (.int p), some (.int w), none, none, none]) pn_X8 rfl rfl (Nat.le_of_ble_eq_true rfl) ?_
  refine r_aload_n dX8_whatIs_0 rfl ?_
  refine getX8_10 rfl dX8_whatIs_1 ?_
  refine r_iload_n dX8_whatIs_4 rfl ?_
  refine cVN_i1 fX1_has (rcv_1 (by omega)) lkX8_87 rfl dX8_whatIs_5 (sp_X1_has (by omega) hW.1 ?_)
  refine r_if_ne 17 dX8_whatIs_8 rfl (fun h8 => ?_) (fun h8 => ?_)
  · obtain ⟨q, hq, rfl⟩ := hasW_ex (tb_of h8) hn6
    have hv : vFrom n (nI q) w = if eith w then 0 else -2 := by unfold vFrom; rw [tb_of h8]; rfl
    refine r_iload_n dX8_whatIs_17 rfl ?_
    refine cS_i1 fX8_isEither lkX8_115 rfl dX8_whatIs_18 (sp_X8_isEither  ?_)
    refine r_if_ne 31 dX8_whatIs_21 rfl (fun h21 => ?_) (fun h21 => ?_)
    · have he : eith w = true := tb_of h21
      rw [he] at hv
      obtain ⟨e, he2, rfl⟩ := eith_ex he
      have K := K q e hq rfl he2 rfl hv
      have LOOP : ∀ k, k ≤ wiN e → ∀ r1, GW E (ZM E 5 fun v σ' => ∃ r, v = some (.int r) ∧ Q r σ') mX8_whatIs 49 [some (.ref (ad E 0 0)), some (.int (nI q)), some (.int (nI e)), some (.int (fit (σ 0) n q e (σ 8) c k)), some (.int (nI (wiN e))), some (.int (nI k))] [] (va_up σ 1 r1) := by
        have h10 : wiN e ≤ 10 := by unfold wiN; split <;> omega
        refine down ?_ ?_
        · intro r1
          refine r_iload dX8_whatIs_49 rfl ?_
          refine r_iload dX8_whatIs_51 rfl ?_
          refine r_icmp_ge_N 117 dX8_whatIs_53 rfl (by omega) (by omega) (fun h53 => ?_) (fun h53 => ?_)
          · refine r_iload_n dX8_whatIs_117 rfl ?_
            refine r_ireturn rfl (by first | rfl | exact nar_bi _ | assumption) dX8_whatIs_118 ⟨_, rfl, ?_⟩
            exact K _
          · exfalso; omega
        · intro k hk ih r1
          have e0 : (va_up σ 1 r1) 0 = σ 0 := up_ne (by omega)
          have hWm := upd3_WF (q := q) hW he2 hk
          rw [fit] at ih
          have key : GW E (ZM E 5 fun v σ' => ∃ r, v = some (.int r) ∧ Q r σ') mX8_whatIs 96 [some (.ref (ad E 0 0)), some (.int (nI q)), some (.int (nI e)), some (.int (fit (σ 0) n q e (σ 8) c k)), some (.int (nI (wiN e))), some (.int (nI k))] [] (va_up σ 1 (upd (σ 0) (3 + e + 5 * q) (nI k))) := by
            refine r_aload_n dX8_whatIs_96 rfl ?_
            refine r_iload_n dX8_whatIs_97 rfl ?_
            refine cV_i1 fX8_tiresAsTold rcv_0 lkX8_245 rfl dX8_whatIs_98 (sp_X8_tiresAsTold (c := c) (by rw [up_at]; exact hWm) (by omega) (by rw [up_ne (by omega)]; exact hc) hc16 (fun r2 => ?_))
            rw [up_at, up_up, up_ne (a := 1) (x := 8) (by omega)]
            refine r_if_eq 111 dX8_whatIs_101 rfl (fun h101 => ?_) (fun h101 => ?_)
            · rw [(bi_eq0 _).mp h101] at ih
              simp only [Bool.false_eq_true, if_false] at ih
              refine r_inc1_5 dX8_whatIs_111 rfl ?_
              refine r_goto 49 dX8_whatIs_114 rfl ?_
              exact ih _
            · rw [tb_of h101] at ih
              simp only [if_true] at ih
              refine r_iload_n dX8_whatIs_104 rfl ?_
              refine r_iconst (1) dX8_whatIs_105 rfl ?_
              refine r_iload dX8_whatIs_106 rfl ?_
              refine r_ishl dX8_whatIs_108 ?_
              refine r_ior dX8_whatIs_109 ?_
              refine r_istore_n_3 dX8_whatIs_110 rfl ?_
              refine r_inc1_5 dX8_whatIs_111 rfl ?_
              refine r_goto 49 dX8_whatIs_114 rfl ?_
              exact ih _
          refine r_iload dX8_whatIs_49 rfl ?_
          refine r_iload dX8_whatIs_51 rfl ?_
          refine r_icmp_ge_N 117 dX8_whatIs_53 rfl (by omega) (by omega) (fun h53 => ?_) (fun h53 => ?_)
          · exfalso; omega
          · refine r_aload_n dX8_whatIs_56 rfl ?_
            refine getX8_16 rfl dX8_whatIs_57 ?_
            refine r_aload_n dX8_whatIs_60 rfl ?_
            refine getX8_10 rfl dX8_whatIs_61 ?_
            refine cVN_v1 fX1_become (rcv_1 (by omega)) lkX8_63 rfl dX8_whatIs_64 (sp_X1_become (by omega) (by omega) (by omega) ?_)
            rw [e0, up_up]
            refine r_iload_n dX8_whatIs_67 rfl ?_
            refine r_if_ne 85 dX8_whatIs_68 rfl (fun h68 => ?_) (fun h68 => ?_)
            · have h1 : e = 1 := by
                have : ¬ e = 0 := fun q => h68 (by rw [q]; rfl)
                omega
              refine r_aload_n dX8_whatIs_85 rfl ?_
              refine getX8_16 rfl dX8_whatIs_86 ?_
              refine getX8_94 (by omega) rfl dX8_whatIs_89 ?_
              refine r_iload_n dX8_whatIs_92 rfl ?_
              refine r_iload dX8_whatIs_93 rfl ?_
              refine st_10  (by omega) (by omega) dX8_whatIs_95 ?_
              rw [s2_up]
              rw [h1] at key ⊢
              exact key
            · have h0 : e = 0 := (nI_eq (b := 0) (by omega) (by omega)).mp h68
              refine r_aload_n dX8_whatIs_71 rfl ?_
              refine getX8_16 rfl dX8_whatIs_72 ?_
              refine getX8_91 (by omega) rfl dX8_whatIs_75 ?_
              refine r_iload_n dX8_whatIs_78 rfl ?_
              refine r_iload dX8_whatIs_79 rfl ?_
              refine st_9  (by omega) (by omega) dX8_whatIs_81 ?_
              rw [s2_up]
              refine r_goto 96 dX8_whatIs_82 rfl ?_
              rw [h0] at key ⊢
              exact key
      refine r_iconst (0) dX8_whatIs_31 rfl ?_
      refine r_istore_n_3 dX8_whatIs_32 rfl ?_
      refine r_iload_n dX8_whatIs_33 rfl ?_
      refine r_if_ne 42 dX8_whatIs_34 rfl (fun h34 => ?_) (fun h34 => ?_)
      · have h1 : wiN e = 10 := by unfold wiN; rw [if_neg (fun q => h34 (by rw [q]; rfl))]
        rw [h1] at LOOP
        refine r_bipush (10) dX8_whatIs_42 rfl ?_
        refine r_istore_4 dX8_whatIs_44 rfl ?_
        refine r_iconst (0) dX8_whatIs_46 rfl ?_
        refine r_istore_5 dX8_whatIs_47 rfl ?_
        refine r_sub up_same.symm (LOOP 0 (by omega) _)
      · have h0 : wiN e = 6 := by unfold wiN; rw [if_pos ((nI_eq (b := 0) (by omega) (by omega)).mp h34)]
        rw [h0] at LOOP
        refine r_bipush (6) dX8_whatIs_37 rfl ?_
        refine r_goto 44 dX8_whatIs_39 rfl ?_
        refine r_istore_4 dX8_whatIs_44 rfl ?_
        refine r_iconst (0) dX8_whatIs_46 rfl ?_
        refine r_istore_5 dX8_whatIs_47 rfl ?_
        refine r_sub up_same.symm (LOOP 0 (by omega) _)
    · have he : eith w = false := (bi_eq0 _).mp h21
      rw [he] at hv
      refine r_aload_n dX8_whatIs_24 rfl ?_
      refine r_bipush (-2) dX8_whatIs_25 rfl ?_
      refine cV_i1 fX8_refuse rcv_0 lkX8_52 rfl dX8_whatIs_27 (sp_X8_refuse (Or.inr (Or.inl rfl)) ?_)
      refine r_ireturn rfl (by first | rfl | exact nar_bi _ | assumption) dX8_whatIs_30 ⟨_, rfl, ?_⟩
      exact Kr (-2) hv (by decide)
  · refine r_aload_n dX8_whatIs_11 rfl ?_
    refine r_iconst (-1) dX8_whatIs_12 rfl ?_
    refine cV_i1 fX8_refuse rcv_0 lkX8_52 rfl dX8_whatIs_13 (sp_X8_refuse (Or.inl rfl) ?_)
    refine r_ireturn rfl (by first | rfl | exact nar_bi _ | assumption) dX8_whatIs_16 ⟨_, rfl, ?_⟩
    exact Kr (-1) (by unfold vFrom; rw [(bi_eq0 _).mp h8]; rfl) (by decide)
theorem bi_and (x y : Bool) : bi x &&& bi y = bi (x && y) := by cases x <;> cases y <;> decide
theorem or_0 (x : Int32) : x ||| 0 = x := Int32.or_zero
theorem sp_X9_whatIs {n c : Nat} {p w : Int32} (hW : WF (σ 3) n) (hc : σ 15 2 = nI c) (hc16 : c ≤ 16) (Kr : ∀ x, vFrom n p w = x → ¬ x = 0 → Q x (rfs σ 13 x)) (K : ∀ q e, q < n → p = nI q → e < 2 → w = nI e → vFrom n p w = 0 → ∀ r1, Q (fit (σ 3) n q e (σ 12) c (wiN e)) (va_up σ 4 r1)) : Mi E mX9_whatIs [.ref (ad E 18 0), .int p, .int w] σ Q := by
  have hn6 := hW.2.1
  refine Mw_of (L0 := [some (.ref (ad E 18 0)), some (.int p), some (.int w), none, none, none, none]) pn_X9 rfl rfl (Nat.le_of_ble_eq_true rfl) ?_
  refine r_aload_n dX9_whatIs_0 rfl ?_
  refine r_iload_n dX9_whatIs_1 rfl ?_
  refine cV_i1 fX9_isWorker rcv_18 lkX9_113 rfl dX9_whatIs_2 (sp_X9_isWorker hW.1 hn6 ?_)
  refine r_if_ne 14 dX9_whatIs_5 rfl (fun h5 => ?_) (fun h5 => ?_)
  · obtain ⟨q, hq, rfl⟩ := hasW_ex (tb_of h5) hn6
    have hv : vFrom n (nI q) w = if eith w then 0 else -2 := by unfold vFrom; rw [tb_of h5]; rfl
    refine r_iload_n dX9_whatIs_14 rfl ?_
    refine r_iconst (0) dX9_whatIs_15 rfl ?_
    refine r_iconst (1) dX9_whatIs_16 rfl ?_
    refine cS_i3 fX9_isIn lkX9_40 rfl dX9_whatIs_17 (sp_X9_isIn  ?_)
    rw [eith_e]
    refine r_if_ne 30 dX9_whatIs_20 rfl (fun h20 => ?_) (fun h20 => ?_)
    · have he : eith w = true := tb_of h20
      rw [he] at hv
      obtain ⟨e, he2, rfl⟩ := eith_ex he
      have K := K q e hq rfl he2 rfl hv
      refine r_iconst (0) dX9_whatIs_30 rfl ?_
      refine r_istore_n_3 dX9_whatIs_31 rfl ?_
      refine r_iconst (0) dX9_whatIs_32 rfl ?_
      refine r_istore_4 dX9_whatIs_33 rfl ?_
      have h10 : wiN e ≤ 10 := by unfold wiN; split <;> omega
      have LOOP : ∀ k, k ≤ wiN e → ∀ y5 y6 r1, GW E (ZM E 6 fun v σ' => ∃ r, v = some (.int r) ∧ Q r σ') mX9_whatIs 35 [some (.ref (ad E 18 0)), some (.int (nI q)), some (.int (nI e)), some (.int (fit (σ 3) n q e (σ 12) c k)), some (.int (nI k)), y5, y6] [] (va_up σ 4 r1) := by
        refine down ?_ ?_
        · intro y5 y6 r1
          have key : ∀ y5 y6, GW E (ZM E 6 fun v σ' => ∃ r, v = some (.int r) ∧ Q r σ') mX9_whatIs 48 [some (.ref (ad E 18 0)), some (.int (nI q)), some (.int (nI e)), some (.int (fit (σ 3) n q e (σ 12) c (wiN e))), some (.int (nI (wiN e))), y5, y6] [.int (nI (wiN e)), .int (nI (wiN e))] (va_up σ 4 r1) := by
            intro y5 y6
            refine r_icmp_ge_N 155 dX9_whatIs_48 rfl (by omega) (by omega) (fun h48 => ?_) (fun h48 => ?_)
            · refine r_iload_n dX9_whatIs_155 rfl ?_
              refine r_ireturn rfl (by first | rfl | exact nar_bi _ | assumption) dX9_whatIs_156 ⟨_, rfl, ?_⟩
              exact K _
            · exfalso; omega
          refine r_iload dX9_whatIs_35 rfl ?_
          refine r_iload_n dX9_whatIs_37 rfl ?_
          refine r_if_ne 46 dX9_whatIs_38 rfl (fun h38 => ?_) (fun h38 => ?_)
          · have h1 : wiN e = 10 := by unfold wiN; rw [if_neg (fun q => h38 (by rw [q]; rfl))]
            rw [h1] at key ⊢
            refine r_bipush (10) dX9_whatIs_46 rfl ?_
            exact key _ _
          · have h0 : wiN e = 6 := by unfold wiN; rw [if_pos ((nI_eq (b := 0) (by omega) (by omega)).mp h38)]
            rw [h0] at key ⊢
            refine r_bipush (6) dX9_whatIs_41 rfl ?_
            refine r_goto 48 dX9_whatIs_43 rfl ?_
            exact key _ _
        · intro k hk ih y5 y6 r1
          have e3 : (va_up σ 4 r1) 3 = σ 3 := up_ne (by omega)
          have hWm := upd3_WF (q := q) hW he2 hk
          rw [fit] at ih
          generalize hT : upd (σ 3) (3 + e + 5 * q) (nI k) = T at ih hWm
          have key : ∀ y5 y6, GW E (ZM E 6 fun v σ' => ∃ r, v = some (.int r) ∧ Q r σ') mX9_whatIs 48 [some (.ref (ad E 18 0)), some (.int (nI q)), some (.int (nI e)), some (.int (fit (σ 3) n q e (σ 12) c k)), some (.int (nI k)), y5, y6] [.int (nI (wiN e)), .int (nI k)] (va_up σ 4 r1) := by
            intro y5 y6
            refine r_icmp_ge_N 155 dX9_whatIs_48 rfl (by omega) (by omega) (fun h48 => ?_) (fun h48 => ?_)
            · exfalso; omega
            · refine r_iconst (1) dX9_whatIs_51 rfl ?_
              refine r_istore_5 dX9_whatIs_52 rfl ?_
              refine r_aload_n dX9_whatIs_54 rfl ?_
              refine getX9_9 rfl dX9_whatIs_55 ?_
              refine r_aload_n dX9_whatIs_58 rfl ?_
              refine getX9_13 rfl dX9_whatIs_59 ?_
              refine cS_v2 fX9_copies lkX9_129 rfl dX9_whatIs_62 (sp_X9_copies (by omega) (by omega) (by omega) ?_)
              rw [e3, up_up]
              refine r_aload_n dX9_whatIs_65 rfl ?_
              refine getX9_13 rfl dX9_whatIs_66 ?_
              refine r_iload_n dX9_whatIs_69 rfl ?_
              refine r_iload_n dX9_whatIs_70 rfl ?_
              refine cS_i2 fX9_of lkX9_44 rfl dX9_whatIs_71 (sp_X9_of  ?_)
              refine r_iload dX9_whatIs_74 rfl ?_
              refine st_19  (by omega) (by omega) dX9_whatIs_76 ?_
              rw [s2_up, hT]
              refine r_iconst (0) dX9_whatIs_77 rfl ?_
              refine r_istore_6 dX9_whatIs_78 rfl ?_
              have INNER : ∀ j, j ≤ c → GW E (ZM E 6 fun v σ' => ∃ r, v = some (.int r) ∧ Q r σ') mX9_whatIs 80 [some (.ref (ad E 18 0)), some (.int (nI q)), some (.int (nI e)), some (.int (fit (σ 3) n q e (σ 12) c k)), some (.int (nI k)), some (.int (bi (tft T n q (σ 12) j))), some (.int (nI j))] [] (va_up σ 4 (dayN 0 n T j)) := by
                refine down ?_ ?_
                · refine r_iload dX9_whatIs_80 rfl ?_
                  refine r_aload_n dX9_whatIs_82 rfl ?_
                  refine getX9_192 rfl dX9_whatIs_83 ?_
                  rw [up_ne (by omega), hc]
                  refine r_icmp_ge_N 133 dX9_whatIs_86 rfl (by omega) (by omega) (fun h86 => ?_) (fun h86 => ?_)
                  · refine r_iload_n dX9_whatIs_133 rfl ?_
                    refine r_iload dX9_whatIs_134 rfl ?_
                    refine r_if_eq 146 dX9_whatIs_136 rfl (fun h136 => ?_) (fun h136 => ?_)
                    · rw [(bi_eq0 _).mp h136] at ih
                      simp only [Bool.false_eq_true, if_false] at ih
                      refine r_iconst (0) dX9_whatIs_146 rfl ?_
                      refine r_ior dX9_whatIs_147 ?_
                      rw [or_0]
                      refine r_istore_n_3 dX9_whatIs_148 rfl ?_
                      refine r_inc1_4 dX9_whatIs_149 rfl ?_
                      refine r_goto 35 dX9_whatIs_152 rfl ?_
                      exact ih _ _ _
                    · rw [tb_of h136] at ih
                      simp only [if_true] at ih
                      refine r_iconst (1) dX9_whatIs_139 rfl ?_
                      refine r_iload dX9_whatIs_140 rfl ?_
                      refine r_ishl dX9_whatIs_142 ?_
                      refine r_goto 147 dX9_whatIs_143 rfl ?_
                      refine r_ior dX9_whatIs_147 ?_
                      refine r_istore_n_3 dX9_whatIs_148 rfl ?_
                      refine r_inc1_4 dX9_whatIs_149 rfl ?_
                      refine r_goto 35 dX9_whatIs_152 rfl ?_
                      exact ih _ _ _
                  · exfalso; omega
                · intro j hj ih2
                  have hWj := dayN_WF (u := 0) hWm j
                  rw [tft, ← bi_and] at ih2
                  refine r_iload dX9_whatIs_80 rfl ?_
                  refine r_aload_n dX9_whatIs_82 rfl ?_
                  refine getX9_192 rfl dX9_whatIs_83 ?_
                  rw [up_ne (by omega), hc]
                  refine r_icmp_ge_N 133 dX9_whatIs_86 rfl (by omega) (by omega) (fun h86 => ?_) (fun h86 => ?_)
                  · exfalso; omega
                  · refine r_iload dX9_whatIs_89 rfl ?_
                    refine r_aload_n dX9_whatIs_91 rfl ?_
                    refine getX9_13 rfl dX9_whatIs_92 ?_
                    refine r_iload_n dX9_whatIs_95 rfl ?_
                    refine r_iconst (3) dX9_whatIs_96 rfl ?_
                    refine cS_i2 fX9_of lkX9_44 rfl dX9_whatIs_97 (sp_of3  ?_)
                    refine ld_19  (by omega) (by omega) dX9_whatIs_100 ?_
                    rw [up_at]
                    refine r_aload_n dX9_whatIs_101 rfl ?_
                    refine getX9_25 rfl dX9_whatIs_102 ?_
                    refine r_iload dX9_whatIs_105 rfl ?_
                    refine ld_21  (by omega) dX9_whatIs_107 ?_
                    rw [up_ne (a := 4) (x := 12) (by omega)]
                    refine r_icmp_ne 115 dX9_whatIs_108 rfl (fun h108 => ?_) (fun h108 => ?_)
                    · rw [beq_eq_false_iff_ne.mpr h108] at ih2
                      refine r_iconst (0) dX9_whatIs_115 rfl ?_
                      refine r_iand dX9_whatIs_116 ?_
                      refine r_istore_5 dX9_whatIs_117 rfl ?_
                      refine r_aload_n dX9_whatIs_119 rfl ?_
                      refine getX9_13 rfl dX9_whatIs_120 ?_
                      refine r_iconst (0) dX9_whatIs_123 rfl ?_
                      refine cS_v2 fX9_day lkX9_89 rfl dX9_whatIs_124 (sp_X9_day (by omega) (by rw [up_at]; exact hWj.1) hn6 ?_)
                      rw [up_at, up_up]
                      refine r_inc1_6 dX9_whatIs_127 rfl ?_
                      refine r_goto 80 dX9_whatIs_130 rfl ?_
                      exact ih2
                    · rw [h108, beq_self_eq_true] at ih2
                      refine r_iconst (1) dX9_whatIs_111 rfl ?_
                      refine r_goto 116 dX9_whatIs_112 rfl ?_
                      refine r_iand dX9_whatIs_116 ?_
                      refine r_istore_5 dX9_whatIs_117 rfl ?_
                      refine r_aload_n dX9_whatIs_119 rfl ?_
                      refine getX9_13 rfl dX9_whatIs_120 ?_
                      refine r_iconst (0) dX9_whatIs_123 rfl ?_
                      refine cS_v2 fX9_day lkX9_89 rfl dX9_whatIs_124 (sp_X9_day (by omega) (by rw [up_at]; exact hWj.1) hn6 ?_)
                      rw [up_at, up_up]
                      refine r_inc1_6 dX9_whatIs_127 rfl ?_
                      refine r_goto 80 dX9_whatIs_130 rfl ?_
                      exact ih2
              exact INNER 0 (by omega)
          refine r_iload dX9_whatIs_35 rfl ?_
          refine r_iload_n dX9_whatIs_37 rfl ?_
          refine r_if_ne 46 dX9_whatIs_38 rfl (fun h38 => ?_) (fun h38 => ?_)
          · have h1 : wiN e = 10 := by unfold wiN; rw [if_neg (fun q => h38 (by rw [q]; rfl))]
            rw [h1] at key
            refine r_bipush (10) dX9_whatIs_46 rfl ?_
            exact key _ _
          · have h0 : wiN e = 6 := by unfold wiN; rw [if_pos ((nI_eq (b := 0) (by omega) (by omega)).mp h38)]
            rw [h0] at key
            refine r_bipush (6) dX9_whatIs_41 rfl ?_
            refine r_goto 48 dX9_whatIs_43 rfl ?_
            exact key _ _
      refine r_sub up_same.symm (LOOP 0 (by omega) _ _ _)
    · have he : eith w = false := (bi_eq0 _).mp h20
      rw [he] at hv
      refine r_aload_n dX9_whatIs_23 rfl ?_
      refine r_bipush (-2) dX9_whatIs_24 rfl ?_
      refine cV_i1 fX9_no rcv_18 lkX9_36 rfl dX9_whatIs_26 (sp_X9_no (Or.inr (Or.inl rfl)) ?_)
      refine r_ireturn rfl (by first | rfl | exact nar_bi _ | assumption) dX9_whatIs_29 ⟨_, rfl, ?_⟩
      exact Kr (-2) hv (by decide)
  · refine r_aload_n dX9_whatIs_8 rfl ?_
    refine r_iconst (-1) dX9_whatIs_9 rfl ?_
    refine cV_i1 fX9_no rcv_18 lkX9_36 rfl dX9_whatIs_10 (sp_X9_no (Or.inl rfl) ?_)
    refine r_ireturn rfl (by first | rfl | exact nar_bi _ | assumption) dX9_whatIs_13 ⟨_, rfl, ?_⟩
    exact Kr (-1) (by unfold vFrom; rw [(bi_eq0 _).mp h5]; rfl) (by decide)
end WHATIS
