/-! ===== the best of several: better, send, holiday ===== -/
section BEST2
variable {E : EnvT} {σ : Sg} {Q : Int32 → Sg → Prop} {Qv : Sg → Prop}
theorem updk_WF {r : Row} {n a k : Nat} (h : WF r n) (hk : k < 6) : WF (upd r (3 + 5 * a) (nI k)) n := by
  obtain ⟨h0, h6, hw⟩ := h
  refine ⟨by rw [upd_ne (by omega)]; exact h0, h6, fun q hq => ?_⟩
  obtain ⟨a1, a2, a3, a4, a5⟩ := hw q hq
  unfold WFp
  rw [upd_ne (j := 4 + 5 * q) (by omega), upd_ne (j := 5 + 5 * q) (by omega), upd_ne (j := 6 + 5 * q) (by omega), upd_ne (j := 7 + 5 * q) (by omega)]
  refine ⟨?_, a2, a3, a4, a5⟩
  by_cases hqa : q = a
  · rw [hqa, upd_eq]; exact ⟨k, hk, rfl⟩
  · rw [upd_ne (by omega)]; exact a1
theorem updf_WF {r : Row} {n a k : Nat} (h : WF r n) (hk : k < 10) : WF (upd r (4 + 5 * a) (nI k)) n := by
  obtain ⟨h0, h6, hw⟩ := h
  refine ⟨by rw [upd_ne (by omega)]; exact h0, h6, fun q hq => ?_⟩
  obtain ⟨a1, a2, a3, a4, a5⟩ := hw q hq
  unfold WFp
  rw [upd_ne (j := 3 + 5 * q) (by omega), upd_ne (j := 5 + 5 * q) (by omega), upd_ne (j := 6 + 5 * q) (by omega), upd_ne (j := 7 + 5 * q) (by omega)]
  refine ⟨a1, ?_, a3, a4, a5⟩
  by_cases hqa : q = a
  · rw [hqa, upd_eq]; exact ⟨k, hk, rfl⟩
  · rw [upd_ne (by omega)]; exact a2
theorem updo_WF {r : Row} {n a : Nat} {x : Int32} (h : WF r n) (hx : R7 x) : WF (upd r (5 + 5 * a) x) n := by
  obtain ⟨h0, h6, hw⟩ := h
  refine ⟨by rw [upd_ne (by omega)]; exact h0, h6, fun q hq => ?_⟩
  obtain ⟨a1, a2, a3, a4, a5⟩ := hw q hq
  unfold WFp
  rw [upd_ne (j := 3 + 5 * q) (by omega), upd_ne (j := 4 + 5 * q) (by omega), upd_ne (j := 6 + 5 * q) (by omega), upd_ne (j := 7 + 5 * q) (by omega)]
  refine ⟨a1, a2, ?_, a4, a5⟩
  by_cases hqa : q = a
  · rw [hqa, upd_eq]; exact hx
  · rw [upd_ne (by omega)]; exact a3
theorem updt_WF {r : Row} {n a t : Nat} (h : WF r n) (ht : t < 31) : WF (upd r (6 + 5 * a) (nI t)) n := by
  obtain ⟨h0, h6, hw⟩ := h
  refine ⟨by rw [upd_ne (by omega)]; exact h0, h6, fun q hq => ?_⟩
  obtain ⟨a1, a2, a3, a4, a5⟩ := hw q hq
  unfold WFp
  rw [upd_ne (j := 3 + 5 * q) (by omega), upd_ne (j := 4 + 5 * q) (by omega), upd_ne (j := 5 + 5 * q) (by omega), upd_ne (j := 7 + 5 * q) (by omega)]
  refine ⟨a1, a2, a3, ?_, a5⟩
  by_cases hqa : q = a
  · rw [hqa, upd_eq]; exact ⟨t, ht, rfl⟩
  · rw [upd_ne (by omega)]; exact a4
theorem addO_WF {r : Row} {n : Nat} {ws wd : Int32} (h : WF r n) (hx : R7 wd) : ∀ k, k ≤ 6 → WF (addO r ws wd k) n
  | 0, _ => h
  | k + 1, hk => by
    have ih := addO_WF (ws := ws) h hx k (by omega)
    unfold addO
    split
    · exact updo_WF ih (R7_or (ih.2.2 k (by omega)).2.2.1 hx)
    · exact ih
/-- better -/
def vBet (n : Nat) (p m w : Int32) : Int32 := if hasW p n then (if outs m 0 30 = 0 then (if eith w then 0 else -2) else outs m 0 30) else -1
def btr (s0 : Int32 × Int32) (r : Row) (n a m : Nat) : Nat → Int32 × Int32 := amn (fun _ => true) (fun k => sumT (dayN 0 n (upd r (3 + 5 * a) (nI k)) m) n) nI s0
theorem btr_s {s0 : Int32 × Int32} {r : Row} {n a m k : Nat} : btr s0 r n a m (k + 1) = if sumT (dayN 0 n (upd r (3 + 5 * a) (nI k)) m) n < (btr s0 r n a m k).2 then (nI k, sumT (dayN 0 n (upd r (3 + 5 * a) (nI k)) m) n) else btr s0 r n a m k := by
  show (if true = true ∧ _ then _ else _) = _
  simp only [true_and]
  rfl
theorem sumT_lt {r : Row} {n : Nat} (hW : WF r n) (N : Nat) (hN : 1000 < N) (hN2 : N < 2 ^ 31) {z : Int32} (hz : nI N = z) : sumT r n < z := by
  obtain ⟨s, hs, e⟩ := sumT_N hW n hW.2.1
  have h6 := hW.2.1
  rw [e, ← hz]
  exact (nI_ltI (by omega) hN2).mpr (by omega)
theorem btr_e {r : Row} {n a m : Nat} (hW : WF r n) : btr (-9, 1000000000) r n a m 6 = btr (0, 2147483647) r n a m 6 := by
  have hx := updk_WF (a := a) (k := 0) hW (by omega)
  have h1 := sumT_lt (dayN_WF (u := 0) hx m) 1000000000 (by omega) (by omega) (z := 1000000000) (by decide +kernel)
  have h2 := sumT_lt (dayN_WF (u := 0) hx m) 2147483647 (by omega) (by omega) (z := 2147483647) (by decide +kernel)
  show btr (-9, 1000000000) r n a m (5 + 1) = btr (0, 2147483647) r n a m (5 + 1)
  unfold btr
  exact amn_init rfl h1 h2 5
def betV (r : Row) (n a m : Nat) (w : Int32) : Int32 := if w = 0 then (btr (0, 2147483647) r n a m 6).1 else (btr (0, 2147483647) r n a m 6).2
theorem sp_X8_better {n : Nat} {p m w : Int32} (hW : WF (σ 0) n) (Kr : ∀ c, vBet n p m w = c → ¬ c = 0 → Q c (rfs σ 9 c)) (K : ∀ a j, a < n → p = nI a → j ≤ 30 → m = nI j → vBet n p m w = 0 → ∀ r1, Q (betV (σ 0) n a j w) (va_up σ 1 r1)) : Mi E mX8_better [.ref (ad E 0 0), .int p, .int m, .int w] σ Q := by
  have hn6 := hW.2.1
  refine Mw_of (L0 := [some (.ref (ad E 0 0)), some (.int p), some (.int m), some (.int w), none, none, none, none, none]) pn_X8 rfl rfl (Nat.le_of_ble_eq_true rfl) ?_
  refine r_aload_n dX8_better_0 rfl ?_
  refine getX8_10 rfl dX8_better_1 ?_
  refine r_iload_n dX8_better_4 rfl ?_
  refine cVN_i1 fX1_has (rcv_1 (by omega)) lkX8_87 rfl dX8_better_5 (sp_X1_has (by omega) hW.1 ?_)
  refine r_if_ne 17 dX8_better_8 rfl (fun h8 => ?_) (fun h8 => ?_)
  · obtain ⟨a, ha, rfl⟩ := hasW_ex (tb_of h8) hn6
    have hv : vBet n (nI a) m w = if outs m 0 30 = 0 then (if eith w then 0 else -2) else outs m 0 30 := by unfold vBet; rw [tb_of h8]; rfl
    refine r_iload_n dX8_better_17 rfl ?_
    refine r_iconst (0) dX8_better_18 rfl ?_
    refine r_bipush (30) dX8_better_19 rfl ?_
    refine cS_i3 fX8_outside lkX8_44 rfl dX8_better_21 (sp_X8_outside  ?_)
    refine r_istore_4 dX8_better_24 rfl ?_
    refine r_iload dX8_better_26 rfl ?_
    refine r_if_eq 38 dX8_better_28 rfl (fun h28 => ?_) (fun h28 => ?_)
    · rw [if_pos h28] at hv
      obtain ⟨j, hj, rfl⟩ := outs_N (b := 30) (by omega) h28
      refine r_iload_n dX8_better_38 rfl ?_
      refine cS_i1 fX8_isEither lkX8_115 rfl dX8_better_39 (sp_X8_isEither  ?_)
      refine r_if_ne 52 dX8_better_42 rfl (fun h42 => ?_) (fun h42 => ?_)
      · have he : eith w = true := tb_of h42
        rw [he] at hv
        have K := K a j ha rfl hj rfl hv
        unfold betV at K
        refine r_ldc kcX8_207 dX8_better_52 ?_
        refine r_istore_5 dX8_better_54 rfl ?_
        refine r_iconst (0) dX8_better_56 rfl ?_
        refine r_istore_6 dX8_better_57 rfl ?_
        refine r_iconst (0) dX8_better_59 rfl ?_
        refine r_istore_7 dX8_better_60 rfl ?_
        have LOOP : ∀ k, k ≤ 6 → ∀ y r1, GW E (ZM E 5 fun v σ' => ∃ r, v = some (.int r) ∧ Q r σ') mX8_better 62 [some (.ref (ad E 0 0)), some (.int (nI a)), some (.int (nI j)), some (.int w), some (.int (outs (nI j) 0 30)), some (.int (btr (0, 2147483647) (σ 0) n a j k).2), some (.int (btr (0, 2147483647) (σ 0) n a j k).1), some (.int (nI k)), y] [] (va_up σ 1 r1) := by
          refine down ?_ ?_
          · intro y r1
            refine r_iload dX8_better_62 rfl ?_
            refine r_bipush (6) dX8_better_64 rfl ?_
            refine r_icmp_ge_N (b := 6) 129 dX8_better_66 rfl (by omega) (by omega) (fun h66 => ?_) (fun h66 => ?_)
            · refine r_iload_n dX8_better_129 rfl ?_
              refine r_if_ne 138 dX8_better_130 rfl (fun h130 => ?_) (fun h130 => ?_)
              · refine r_iload dX8_better_138 rfl ?_
                refine r_ireturn rfl (by first | rfl | exact nar_bi _ | assumption) dX8_better_140 ⟨_, rfl, ?_⟩
                rw [if_neg h130] at K
                exact K _
              · refine r_iload dX8_better_133 rfl ?_
                refine r_goto 140 dX8_better_135 rfl ?_
                refine r_ireturn rfl (by first | rfl | exact nar_bi _ | assumption) dX8_better_140 ⟨_, rfl, ?_⟩
                rw [if_pos h130] at K
                exact K _
            · exfalso; omega
          · intro k hk ih y r1
            have e0 : (va_up σ 1 r1) 0 = σ 0 := up_ne (by omega)
            have hWm := updk_WF (a := a) hW hk
            rw [btr_s] at ih
            refine r_iload dX8_better_62 rfl ?_
            refine r_bipush (6) dX8_better_64 rfl ?_
            refine r_icmp_ge_N (b := 6) 129 dX8_better_66 rfl (by omega) (by omega) (fun h66 => ?_) (fun h66 => ?_)
            · exfalso; omega
            · refine r_aload_n dX8_better_69 rfl ?_
              refine getX8_16 rfl dX8_better_70 ?_
              refine r_aload_n dX8_better_73 rfl ?_
              refine getX8_10 rfl dX8_better_74 ?_
              refine cVN_v1 fX1_become (rcv_1 (by omega)) lkX8_63 rfl dX8_better_77 (sp_X1_become (by omega) (by omega) (by omega) ?_)
              rw [e0, up_up]
              refine r_aload_n dX8_better_80 rfl ?_
              refine getX8_16 rfl dX8_better_81 ?_
              refine getX8_91 (by omega) rfl dX8_better_84 ?_
              refine r_iload_n dX8_better_87 rfl ?_
              refine r_iload dX8_better_88 rfl ?_
              refine st_9  (by omega) (by omega) dX8_better_90 ?_
              rw [s2_up]
              refine r_aload_n dX8_better_91 rfl ?_
              refine r_iload_n dX8_better_92 rfl ?_
              refine cV_i1 fX8_allTiredBehind rcv_0 lkX8_201 rfl dX8_better_93 (sp_X8_allTiredBehind (by rw [up_at]; exact hWm) (by omega) (fun r2 => ?_))
              rw [up_at, up_up]
              refine r_istore_8 dX8_better_96 rfl ?_
              refine r_iload dX8_better_98 rfl ?_
              refine r_iload dX8_better_100 rfl ?_
              refine r_icmp_ge 110 dX8_better_102 rfl (fun h102 => ?_) (fun h102 => ?_)
              · rw [if_neg (Int32.not_lt.mpr h102)] at ih
                refine r_iload dX8_better_110 rfl ?_
                refine r_istore_6 dX8_better_112 rfl ?_
                refine r_iload dX8_better_114 rfl ?_
                refine r_iload dX8_better_116 rfl ?_
                refine r_mmin lkX8_198 wm_min1 wm_init wm_min2 rfl dX8_better_118 ?_
                rw [if_neg (Int32.not_lt.mpr h102)]
                refine r_istore_5 dX8_better_121 rfl ?_
                refine r_inc1_7 dX8_better_123 rfl ?_
                refine r_goto 62 dX8_better_126 rfl ?_
                exact ih _ _
              · rw [if_pos (Int32.not_le.mp h102)] at ih
                refine r_iload dX8_better_105 rfl ?_
                refine r_goto 112 dX8_better_107 rfl ?_
                refine r_istore_6 dX8_better_112 rfl ?_
                refine r_iload dX8_better_114 rfl ?_
                refine r_iload dX8_better_116 rfl ?_
                refine r_mmin lkX8_198 wm_min1 wm_init wm_min2 rfl dX8_better_118 ?_
                rw [if_pos (Int32.not_le.mp h102)]
                refine r_istore_5 dX8_better_121 rfl ?_
                refine r_inc1_7 dX8_better_123 rfl ?_
                refine r_goto 62 dX8_better_126 rfl ?_
                exact ih _ _
        refine r_sub up_same.symm (LOOP 0 (by omega) _ _)
      · have he : eith w = false := (bi_eq0 _).mp h42
        rw [he] at hv
        refine r_aload_n dX8_better_45 rfl ?_
        refine r_bipush (-2) dX8_better_46 rfl ?_
        refine cV_i1 fX8_refuse rcv_0 lkX8_52 rfl dX8_better_48 (sp_X8_refuse (Or.inr (Or.inl rfl)) ?_)
        refine r_ireturn rfl (by first | rfl | exact nar_bi _ | assumption) dX8_better_51 ⟨_, rfl, ?_⟩
        exact Kr (-2) hv (by decide)
    · rw [if_neg h28] at hv
      refine r_aload_n dX8_better_31 rfl ?_
      refine r_iload dX8_better_32 rfl ?_
      refine cV_i1 fX8_refuse rcv_0 lkX8_52 rfl dX8_better_34 (sp_X8_refuse (outs_ref h28) ?_)
      refine r_ireturn rfl (by first | rfl | exact nar_bi _ | assumption) dX8_better_37 ⟨_, rfl, ?_⟩
      exact Kr _ hv h28
  · refine r_aload_n dX8_better_11 rfl ?_
    refine r_iconst (-1) dX8_better_12 rfl ?_
    refine cV_i1 fX8_refuse rcv_0 lkX8_52 rfl dX8_better_13 (sp_X8_refuse (Or.inl rfl) ?_)
    refine r_ireturn rfl (by first | rfl | exact nar_bi _ | assumption) dX8_better_16 ⟨_, rfl, ?_⟩
    exact Kr (-1) (by unfold vBet; rw [(bi_eq0 _).mp h8]; rfl) (by decide)
theorem sp_X9_better {n : Nat} {p m w : Int32} (hW : WF (σ 3) n) (Kr : ∀ c, vBet n p m w = c → ¬ c = 0 → Q c (rfs σ 13 c)) (K : ∀ a j, a < n → p = nI a → j ≤ 30 → m = nI j → vBet n p m w = 0 → ∀ r1, Q (betV (σ 3) n a j w) (va_up σ 4 r1)) : Mi E mX9_better [.ref (ad E 18 0), .int p, .int m, .int w] σ Q := by
  have hn6 := hW.2.1
  have REF : ∀ c, isRef c → ∀ y5 y6 y7, Q c (rfs σ 13 c) → GW E (ZM E 7 fun v σ' => ∃ r, v = some (.int r) ∧ Q r σ') mX9_better 39 [some (.ref (ad E 18 0)), some (.int p), some (.int m), some (.int w), some (.int c), y5, y6, y7] [] σ := by
    intro c hc y5 y6 y7 hq
    refine r_iload dX9_better_39 rfl ?_
    refine r_if_eq 51 dX9_better_41 rfl (fun h41 => ?_) (fun h41 => ?_)
    · rw [h41] at hc
      exact absurd hc (by unfold isRef; decide)
    · refine r_aload_n dX9_better_44 rfl ?_
      refine r_iload dX9_better_45 rfl ?_
      refine cV_i1 fX9_no rcv_18 lkX9_36 rfl dX9_better_47 (sp_X9_no hc ?_)
      refine r_ireturn rfl (by first | rfl | exact nar_bi _ | assumption) dX9_better_50 ⟨_, rfl, ?_⟩
      exact hq
  refine Mw_of (L0 := [some (.ref (ad E 18 0)), some (.int p), some (.int m), some (.int w), none, none, none, none]) pn_X9 rfl rfl (Nat.le_of_ble_eq_true rfl) ?_
  refine r_aload_n dX9_better_0 rfl ?_
  refine r_iload_n dX9_better_1 rfl ?_
  refine cV_i1 fX9_isWorker rcv_18 lkX9_113 rfl dX9_better_2 (sp_X9_isWorker hW.1 hn6 ?_)
  refine r_if_eq 18 dX9_better_5 rfl (fun h5 => ?_) (fun h5 => ?_)
  · refine r_iconst (-1) dX9_better_18 rfl ?_
    refine r_istore_4 dX9_better_19 rfl ?_
    refine r_iload dX9_better_21 rfl ?_
    refine r_if_ne 39 dX9_better_23 rfl (fun h23 => ?_) (fun h23 => ?_)
    · exact REF (-1) (Or.inl rfl) _ _ _ (Kr (-1) (by unfold vBet; rw [(bi_eq0 _).mp h5]; rfl) (by decide))
    · exact absurd h23 (by decide)
  · obtain ⟨a, ha, rfl⟩ := hasW_ex (tb_of h5) hn6
    have hv : vBet n (nI a) m w = if outs m 0 30 = 0 then (if eith w then 0 else -2) else outs m 0 30 := by unfold vBet; rw [tb_of h5]; rfl
    refine r_iload_n dX9_better_8 rfl ?_
    refine r_iconst (0) dX9_better_9 rfl ?_
    refine r_bipush (30) dX9_better_10 rfl ?_
    refine cS_i3 fX9_wrongBy lkX9_136 rfl dX9_better_12 (sp_X9_wrongBy  ?_)
    refine r_goto 19 dX9_better_15 rfl ?_
    refine r_istore_4 dX9_better_19 rfl ?_
    refine r_iload dX9_better_21 rfl ?_
    refine r_if_ne 39 dX9_better_23 rfl (fun h23 => ?_) (fun h23 => ?_)
    · rw [if_neg h23] at hv
      exact REF _ (outs_ref h23) _ _ _ (Kr _ hv h23)
    · rw [if_pos h23] at hv
      obtain ⟨j, hj, rfl⟩ := outs_N (b := 30) (by omega) h23
      refine r_iload_n dX9_better_26 rfl ?_
      refine r_iconst (0) dX9_better_27 rfl ?_
      refine r_iconst (1) dX9_better_28 rfl ?_
      refine cS_i3 fX9_isIn lkX9_40 rfl dX9_better_29 (sp_X9_isIn  ?_)
      rw [eith_e]
      refine r_if_ne 39 dX9_better_32 rfl (fun h32 => ?_) (fun h32 => ?_)
      · rw [tb_of h32] at hv
        have K := K a j ha rfl hj rfl hv
        unfold betV at K
        rw [← btr_e hW] at K
        refine r_iload dX9_better_39 rfl ?_
        refine r_if_eq 51 dX9_better_41 rfl (fun h41 => ?_) (fun h41 => ?_)
        · refine r_bipush (-9) dX9_better_51 rfl ?_
          refine r_istore_5 dX9_better_53 rfl ?_
          refine r_ldc kcX9_147 dX9_better_55 ?_
          refine r_istore_6 dX9_better_57 rfl ?_
          refine r_iconst (0) dX9_better_59 rfl ?_
          refine r_istore_7 dX9_better_60 rfl ?_
          have LOOP : ∀ k, k ≤ 6 → ∀ r1, GW E (ZM E 7 fun v σ' => ∃ r, v = some (.int r) ∧ Q r σ') mX9_better 62 [some (.ref (ad E 18 0)), some (.int (nI a)), some (.int (nI j)), some (.int w), some (.int (outs (nI j) 0 30)), some (.int (btr (-9, 1000000000) (σ 3) n a j k).1), some (.int (btr (-9, 1000000000) (σ 3) n a j k).2), some (.int (nI k))] [] (va_up σ 4 r1) := by
            refine down ?_ ?_
            · intro r1
              refine r_iload dX9_better_62 rfl ?_
              refine r_bipush (6) dX9_better_64 rfl ?_
              refine r_icmp_ge_N (b := 6) 134 dX9_better_66 rfl (by omega) (by omega) (fun h66 => ?_) (fun h66 => ?_)
              · refine r_iload_n dX9_better_134 rfl ?_
                refine r_if_ne 143 dX9_better_135 rfl (fun h135 => ?_) (fun h135 => ?_)
                · refine r_iload dX9_better_143 rfl ?_
                  refine r_ireturn rfl (by first | rfl | exact nar_bi _ | assumption) dX9_better_145 ⟨_, rfl, ?_⟩
                  rw [if_neg h135] at K
                  exact K _
                · refine r_iload dX9_better_138 rfl ?_
                  refine r_goto 145 dX9_better_140 rfl ?_
                  refine r_ireturn rfl (by first | rfl | exact nar_bi _ | assumption) dX9_better_145 ⟨_, rfl, ?_⟩
                  rw [if_pos h135] at K
                  exact K _
              · exfalso; omega
            · intro k hk ih r1
              have e3 : (va_up σ 4 r1) 3 = σ 3 := up_ne (by omega)
              have hWm := updk_WF (a := a) hW hk
              rw [btr_s] at ih
              refine r_iload dX9_better_62 rfl ?_
              refine r_bipush (6) dX9_better_64 rfl ?_
              refine r_icmp_ge_N (b := 6) 134 dX9_better_66 rfl (by omega) (by omega) (fun h66 => ?_) (fun h66 => ?_)
              · exfalso; omega
              · refine r_aload_n dX9_better_69 rfl ?_
                refine getX9_9 rfl dX9_better_70 ?_
                refine r_aload_n dX9_better_73 rfl ?_
                refine getX9_13 rfl dX9_better_74 ?_
                refine cS_v2 fX9_copies lkX9_129 rfl dX9_better_77 (sp_X9_copies (by omega) (by omega) (by omega) ?_)
                rw [e3, up_up]
                refine r_aload_n dX9_better_80 rfl ?_
                refine getX9_13 rfl dX9_better_81 ?_
                refine r_iload_n dX9_better_84 rfl ?_
                refine r_iconst (0) dX9_better_85 rfl ?_
                refine cS_i2 fX9_of lkX9_44 rfl dX9_better_86 (sp_of0  ?_)
                refine r_iload dX9_better_89 rfl ?_
                refine st_19  (by omega) (by omega) dX9_better_91 ?_
                rw [s2_up]
                refine r_aload_n dX9_better_92 rfl ?_
                refine getX9_13 rfl dX9_better_93 ?_
                refine r_iload_n dX9_better_96 rfl ?_
                refine cS_v2 fX9_daysOn lkX9_123 rfl dX9_better_97 (sp_X9_daysOn (by omega) (by rw [up_at]; exact hWm.1) hn6 (by omega) ?_)
                rw [up_at, up_up]
                refine r_aload_n dX9_better_100 rfl ?_
                refine getX9_13 rfl dX9_better_101 ?_
                refine cS_i1 fX9_allTired lkX9_167 rfl dX9_better_104 (sp_X9_allTired (by omega) (by rw [up_at]; exact (dayN_WF hWm j).1) hn6 ?_)
                rw [up_at]
                refine r_iload dX9_better_107 rfl ?_
                refine r_icmp_lt 115 dX9_better_109 rfl (fun h109 => ?_) (fun h109 => ?_)
                · rw [if_pos h109] at ih
                  refine r_iload dX9_better_115 rfl ?_
                  refine r_istore_5 dX9_better_117 rfl ?_
                  refine r_aload_n dX9_better_119 rfl ?_
                  refine getX9_13 rfl dX9_better_120 ?_
                  refine cS_i1 fX9_allTired lkX9_167 rfl dX9_better_123 (sp_X9_allTired (by omega) (by rw [up_at]; exact (dayN_WF hWm j).1) hn6 ?_)
                  rw [up_at]
                  refine r_istore_6 dX9_better_126 rfl ?_
                  refine r_inc1_7 dX9_better_128 rfl ?_
                  refine r_goto 62 dX9_better_131 rfl ?_
                  exact ih _
                · rw [if_neg h109] at ih
                  refine r_goto 128 dX9_better_112 rfl ?_
                  refine r_inc1_7 dX9_better_128 rfl ?_
                  refine r_goto 62 dX9_better_131 rfl ?_
                  exact ih _
          refine r_sub up_same.symm (LOOP 0 (by omega) _)
        · exact absurd h23 h41
      · rw [(bi_eq0 _).mp h32] at hv
        refine r_bipush (-2) dX9_better_35 rfl ?_
        refine r_istore_4 dX9_better_37 rfl ?_
        exact REF (-2) (Or.inr (Or.inl rfl)) _ _ _ (Kr (-2) hv (by decide))
/-- send -/
theorem or127 {x : Int32} (h : R7 x) : x ||| 127 = 127 := b_ext (fun i hi => by
  rw [b_or]
  by_cases h7 : i < 7
  · have : bt 127 i = true := by
      rw [show (127 : Int32) = nI 127 from rfl, bt_nI hi]
      exact (by decide : ∀ i, i < 7 → (127).testBit i = true) i h7
    rw [this, Bool.or_true]
  · rw [h i (by omega) hi, Bool.false_or])
theorem tb_0 (k : Nat) (hk : k < 32) : tb 0 (nI k) = false := by rw [tb_bt _ hk]; exact b_0 k
theorem addO_no {r : Row} {wd : Int32} : ∀ k, k ≤ 6 → addO r 0 wd k = r
  | 0, _ => rfl
  | k + 1, hk => by
    unfold addO
    rw [tb_0 k (by omega)]
    exact addO_no k (by omega)
theorem addO_one {r : Row} {n p : Nat} (hW : WF r n) (hp : p < 6) : ∀ k, k ≤ 6 → addO r ((1 : Int32) <<< (nI p &&& 31)) 127 k = if p < k then upd r (5 + 5 * p) 127 else r
  | 0, _ => rfl
  | k + 1, hk => by
    unfold addO
    rw [addO_one hW hp k (by omega), tb_bt _ (by omega), b_sl1 (by omega) (by omega)]
    by_cases hkp : k = p
    · rw [decide_eq_true hkp, if_pos rfl, if_neg (by omega), if_pos (by omega), hkp, or127 (hW.2.2 p hp).2.2.1]
    · rw [decide_eq_false hkp, if_neg (by decide)]
      by_cases h : p < k
      · rw [if_pos h, if_pos (by omega)]
      · rw [if_neg h, if_neg (by omega)]
def snd (r : Row) (n m : Nat) : Nat → Int32 × Int32 := amn (fun _ => true) (fun p => dayN 0 n (upd r (5 + 5 * p) 127) m 2) nI (-9, dayN 0 n r m 2)
theorem snd_s {r : Row} {n m k : Nat} : snd r n m (k + 1) = if dayN 0 n (upd r (5 + 5 * k) 127) m 2 < (snd r n m k).2 then (nI k, dayN 0 n (upd r (5 + 5 * k) 127) m 2) else snd r n m k := by
  show (if true = true ∧ _ then _ else _) = _
  simp only [true_and]
  rfl
theorem sp_X8_wagesBehind {n m : Nat} {ws : Int32} (hW : WF (σ 0) n) (hm : m ≤ 60) (K : ∀ r1, Q (dayN 0 n (addO (σ 0) ws 127 n) m 2) (va_up σ 1 r1)) : Mi E mX8_wagesBehind [.ref (ad E 0 0), .int (nI m), .int ws] σ Q := by
  have hWa := addO_WF (ws := ws) hW R7_127 n hW.2.1
  refine Mw_of (L0 := [some (.ref (ad E 0 0)), some (.int (nI m)), some (.int ws)]) pn_X8 rfl rfl (Nat.le_of_ble_eq_true rfl) ?_
  refine r_aload_n dX8_wagesBehind_0 rfl ?_
  refine getX8_16 rfl dX8_wagesBehind_1 ?_
  refine r_aload_n dX8_wagesBehind_4 rfl ?_
  refine getX8_10 rfl dX8_wagesBehind_5 ?_
  refine cVN_v1 fX1_become (rcv_1 (by omega)) lkX8_63 rfl dX8_wagesBehind_8 (sp_X1_become (by omega) (by omega) (by omega) ?_)
  refine r_aload_n dX8_wagesBehind_11 rfl ?_
  refine getX8_16 rfl dX8_wagesBehind_12 ?_
  refine r_iload_n dX8_wagesBehind_15 rfl ?_
  refine r_bipush (127) dX8_wagesBehind_16 rfl ?_
  refine cVN_v2 fX1_addOff (rcv_1 (by omega)) lkX8_217 rfl dX8_wagesBehind_18 (sp_X1_addOff (by omega) (by rw [up_at]; exact hW.1) hW.2.1 ?_)
  rw [up_at, up_up]
  refine r_aload_n dX8_wagesBehind_21 rfl ?_
  refine getX8_16 rfl dX8_wagesBehind_22 ?_
  refine r_iload_n dX8_wagesBehind_25 rfl ?_
  refine r_iconst (0) dX8_wagesBehind_26 rfl ?_
  refine cVN_i2 fX1_passDays (rcv_1 (by omega)) lkX8_151 rfl dX8_wagesBehind_27 (sp_X1_passDays (by omega) (by rw [up_at]; exact hWa) (by omega) ?_)
  rw [up_at, up_up]
  refine r_pop dX8_wagesBehind_30 rfl ?_
  refine r_aload_n dX8_wagesBehind_31 rfl ?_
  refine getX8_16 rfl dX8_wagesBehind_32 ?_
  refine getX8_154 (by omega) rfl dX8_wagesBehind_35 ?_
  rw [up_at]
  refine r_ireturn rfl (by first | rfl | exact nar_bi _ | assumption) dX8_wagesBehind_38 ⟨_, rfl, ?_⟩
  exact K _
theorem sp_X8_send {n : Nat} {m : Int32} (hW : WF (σ 0) n) (Kr : ¬ outs m 0 30 = 0 → Q (outs m 0 30) (rfs σ 9 (outs m 0 30))) (K : ∀ j, j ≤ 30 → m = nI j → outs m 0 30 = 0 → ∀ r1, Q (snd (σ 0) n j n).1 (va_up σ 1 r1)) : Mi E mX8_send [.ref (ad E 0 0), .int m] σ Q := by
  have hn6 := hW.2.1
  refine Mw_of (L0 := [some (.ref (ad E 0 0)), some (.int m), none, none, none, none, none]) pn_X8 rfl rfl (Nat.le_of_ble_eq_true rfl) ?_
  refine r_iload_n dX8_send_0 rfl ?_
  refine r_iconst (0) dX8_send_1 rfl ?_
  refine r_bipush (30) dX8_send_2 rfl ?_
  refine cS_i3 fX8_outside lkX8_44 rfl dX8_send_4 (sp_X8_outside  ?_)
  refine r_istore_n_2 dX8_send_7 rfl ?_
  refine r_iload_n dX8_send_8 rfl ?_
  refine r_if_eq 18 dX8_send_9 rfl (fun h9 => ?_) (fun h9 => ?_)
  · obtain ⟨j, hj, rfl⟩ := outs_N (b := 30) (by omega) h9
    have K := K j hj rfl h9
    refine r_aload_n dX8_send_18 rfl ?_
    refine r_iload_n dX8_send_19 rfl ?_
    refine r_iconst (0) dX8_send_20 rfl ?_
    refine cV_i2 fX8_wagesBehind rcv_0 lkX8_214 rfl dX8_send_21 (sp_X8_wagesBehind hW (by omega) (fun r1 => ?_))
    rw [addO_no n hn6]
    refine r_istore_n_3 dX8_send_24 rfl ?_
    refine r_bipush (-9) dX8_send_25 rfl ?_
    refine r_istore_4 dX8_send_27 rfl ?_
    refine r_iconst (0) dX8_send_29 rfl ?_
    refine r_istore_5 dX8_send_30 rfl ?_
    have LOOP : ∀ k, k ≤ n → ∀ y r1, GW E (ZM E 5 fun v σ' => ∃ r, v = some (.int r) ∧ Q r σ') mX8_send 32 [some (.ref (ad E 0 0)), some (.int (nI j)), some (.int (outs (nI j) 0 30)), some (.int (snd (σ 0) n j k).2), some (.int (snd (σ 0) n j k).1), some (.int (nI k)), y] [] (va_up σ 1 r1) := by
      refine down ?_ ?_
      · intro y r1
        refine r_iload dX8_send_32 rfl ?_
        refine r_aload_n dX8_send_34 rfl ?_
        refine getX8_10 rfl dX8_send_35 ?_
        refine getX8_189 (by omega) rfl dX8_send_38 ?_
        rw [up_ne (by omega), hW.1]
        refine r_icmp_ge_N 83 dX8_send_41 rfl (by omega) (by omega) (fun h41 => ?_) (fun h41 => ?_)
        · refine r_iload dX8_send_83 rfl ?_
          refine r_ireturn rfl (by first | rfl | exact nar_bi _ | assumption) dX8_send_85 ⟨_, rfl, ?_⟩
          exact K _
        · exfalso; omega
      · intro k hk ih y r1
        have e0 : (va_up σ 1 r1) 0 = σ 0 := up_ne (by omega)
        rw [snd_s] at ih
        refine r_iload dX8_send_32 rfl ?_
        refine r_aload_n dX8_send_34 rfl ?_
        refine getX8_10 rfl dX8_send_35 ?_
        refine getX8_189 (by omega) rfl dX8_send_38 ?_
        rw [up_ne (by omega), hW.1]
        refine r_icmp_ge_N 83 dX8_send_41 rfl (by omega) (by omega) (fun h41 => ?_) (fun h41 => ?_)
        · exfalso; omega
        · refine r_aload_n dX8_send_44 rfl ?_
          refine r_iload_n dX8_send_45 rfl ?_
          refine r_iconst (1) dX8_send_46 rfl ?_
          refine r_iload dX8_send_47 rfl ?_
          refine r_ishl dX8_send_49 ?_
          refine cV_i2 fX8_wagesBehind rcv_0 lkX8_214 rfl dX8_send_50 (sp_X8_wagesBehind (by rw [e0]; exact hW) (by omega) (fun r2 => ?_))
          rw [e0, up_up, addO_one hW (by omega) n hn6, if_pos hk]
          refine r_istore_6 dX8_send_53 rfl ?_
          refine r_iload dX8_send_55 rfl ?_
          refine r_iload_n dX8_send_57 rfl ?_
          refine r_icmp_ge 66 dX8_send_58 rfl (fun h58 => ?_) (fun h58 => ?_)
          · rw [if_neg (Int32.not_lt.mpr h58)] at ih
            refine r_iload dX8_send_66 rfl ?_
            refine r_istore_4 dX8_send_68 rfl ?_
            refine r_iload_n dX8_send_70 rfl ?_
            refine r_iload dX8_send_71 rfl ?_
            refine r_mmin lkX8_198 wm_min1 wm_init wm_min2 rfl dX8_send_73 ?_
            rw [if_neg (Int32.not_lt.mpr h58)]
            refine r_istore_n_3 dX8_send_76 rfl ?_
            refine r_inc1_5 dX8_send_77 rfl ?_
            refine r_goto 32 dX8_send_80 rfl ?_
            exact ih _ _
          · rw [if_pos (Int32.not_le.mp h58)] at ih
            refine r_iload dX8_send_61 rfl ?_
            refine r_goto 68 dX8_send_63 rfl ?_
            refine r_istore_4 dX8_send_68 rfl ?_
            refine r_iload_n dX8_send_70 rfl ?_
            refine r_iload dX8_send_71 rfl ?_
            refine r_mmin lkX8_198 wm_min1 wm_init wm_min2 rfl dX8_send_73 ?_
            rw [if_pos (Int32.not_le.mp h58)]
            refine r_istore_n_3 dX8_send_76 rfl ?_
            refine r_inc1_5 dX8_send_77 rfl ?_
            refine r_goto 32 dX8_send_80 rfl ?_
            exact ih _ _
    exact LOOP 0 (by omega) _ _
  · refine r_aload_n dX8_send_12 rfl ?_
    refine r_iload_n dX8_send_13 rfl ?_
    refine cV_i1 fX8_refuse rcv_0 lkX8_52 rfl dX8_send_14 (sp_X8_refuse (outs_ref h9) ?_)
    refine r_ireturn rfl (by first | rfl | exact nar_bi _ | assumption) dX8_send_17 ⟨_, rfl, ?_⟩
    exact Kr h9
theorem sp_X9_send {n : Nat} {m : Int32} (hW : WF (σ 3) n) (Kr : ¬ outs m 0 30 = 0 → Q (outs m 0 30) (rfs σ 13 (outs m 0 30))) (K : ∀ j, j ≤ 30 → m = nI j → outs m 0 30 = 0 → ∀ r1, Q (snd (σ 3) n j n).1 (va_up σ 4 r1)) : Mi E mX9_send [.ref (ad E 18 0), .int m] σ Q := by
  have hn6 := hW.2.1
  refine Mw_of (L0 := [some (.ref (ad E 18 0)), some (.int m), none, none, none, none]) pn_X9 rfl rfl (Nat.le_of_ble_eq_true rfl) ?_
  refine r_iload_n dX9_send_0 rfl ?_
  refine r_iconst (0) dX9_send_1 rfl ?_
  refine r_bipush (30) dX9_send_2 rfl ?_
  refine cS_i3 fX9_wrongBy lkX9_136 rfl dX9_send_4 (sp_X9_wrongBy  ?_)
  refine r_istore_n_2 dX9_send_7 rfl ?_
  refine r_iload_n dX9_send_8 rfl ?_
  refine r_if_eq 18 dX9_send_9 rfl (fun h9 => ?_) (fun h9 => ?_)
  · obtain ⟨j, hj, rfl⟩ := outs_N (b := 30) (by omega) h9
    have K := K j hj rfl h9
    refine r_aload_n dX9_send_18 rfl ?_
    refine r_iload_n dX9_send_19 rfl ?_
    refine cV_v1 fX9_takes rcv_18 lkX9_140 rfl dX9_send_20 (sp_X9_takes hW (by omega) ?_)
    refine r_aload_n dX9_send_23 rfl ?_
    refine getX9_13 rfl dX9_send_24 ?_
    refine r_iconst (2) dX9_send_27 rfl ?_
    refine ld_19 (t := 2)  (by omega) (by omega) dX9_send_28 ?_
    rw [up_at]
    refine r_istore_n_3 dX9_send_29 rfl ?_
    refine r_bipush (-9) dX9_send_30 rfl ?_
    refine r_istore_4 dX9_send_32 rfl ?_
    refine r_iconst (0) dX9_send_34 rfl ?_
    refine r_istore_5 dX9_send_35 rfl ?_
    have LOOP : ∀ k, k ≤ n → ∀ r1, GW E (ZM E 8 fun v σ' => ∃ r, v = some (.int r) ∧ Q r σ') mX9_send 37 [some (.ref (ad E 18 0)), some (.int (nI j)), some (.int (outs (nI j) 0 30)), some (.int (snd (σ 3) n j k).2), some (.int (snd (σ 3) n j k).1), some (.int (nI k))] [] (va_up σ 4 r1) := by
      refine down ?_ ?_
      · intro r1
        refine r_iload dX9_send_37 rfl ?_
        refine r_aload_n dX9_send_39 rfl ?_
        refine getX9_9 rfl dX9_send_40 ?_
        refine r_iconst (0) dX9_send_43 rfl ?_
        refine ld_19 (t := 0)  (by omega) (by omega) dX9_send_44 ?_
        rw [up_ne (by omega), hW.1]
        refine r_icmp_ge_N 110 dX9_send_45 rfl (by omega) (by omega) (fun h45 => ?_) (fun h45 => ?_)
        · refine r_iload dX9_send_110 rfl ?_
          refine r_ireturn rfl (by first | rfl | exact nar_bi _ | assumption) dX9_send_112 ⟨_, rfl, ?_⟩
          exact K _
        · exfalso; omega
      · intro k hk ih r1
        have e3 : (va_up σ 4 r1) 3 = σ 3 := up_ne (by omega)
        have hWm := updo_WF (a := k) hW R7_127
        rw [snd_s] at ih
        refine r_iload dX9_send_37 rfl ?_
        refine r_aload_n dX9_send_39 rfl ?_
        refine getX9_9 rfl dX9_send_40 ?_
        refine r_iconst (0) dX9_send_43 rfl ?_
        refine ld_19 (t := 0)  (by omega) (by omega) dX9_send_44 ?_
        rw [up_ne (by omega), hW.1]
        refine r_icmp_ge_N 110 dX9_send_45 rfl (by omega) (by omega) (fun h45 => ?_) (fun h45 => ?_)
        · exfalso; omega
        · refine r_aload_n dX9_send_48 rfl ?_
          refine getX9_9 rfl dX9_send_49 ?_
          refine r_aload_n dX9_send_52 rfl ?_
          refine getX9_13 rfl dX9_send_53 ?_
          refine cS_v2 fX9_copies lkX9_129 rfl dX9_send_56 (sp_X9_copies (by omega) (by omega) (by omega) ?_)
          rw [e3, up_up]
          refine r_aload_n dX9_send_59 rfl ?_
          refine getX9_13 rfl dX9_send_60 ?_
          refine r_iload dX9_send_63 rfl ?_
          refine r_iconst (2) dX9_send_65 rfl ?_
          refine cS_i2 fX9_of lkX9_44 rfl dX9_send_66 (sp_of2  ?_)
          refine r_bipush (127) dX9_send_69 rfl ?_
          refine st_19  (by omega) (by omega) dX9_send_71 ?_
          rw [s2_up]
          refine r_aload_n dX9_send_72 rfl ?_
          refine getX9_13 rfl dX9_send_73 ?_
          refine r_iload_n dX9_send_76 rfl ?_
          refine cS_v2 fX9_daysOn lkX9_123 rfl dX9_send_77 (sp_X9_daysOn (by omega) (by rw [up_at]; exact hWm.1) hn6 (by omega) ?_)
          rw [up_at, up_up]
          refine r_aload_n dX9_send_80 rfl ?_
          refine getX9_13 rfl dX9_send_81 ?_
          refine r_iconst (2) dX9_send_84 rfl ?_
          refine ld_19 (t := 2)  (by omega) (by omega) dX9_send_85 ?_
          rw [up_at]
          refine r_iload_n dX9_send_86 rfl ?_
          refine r_icmp_lt 93 dX9_send_87 rfl (fun h87 => ?_) (fun h87 => ?_)
          · rw [if_pos h87] at ih
            refine r_iload dX9_send_93 rfl ?_
            refine r_istore_4 dX9_send_95 rfl ?_
            refine r_aload_n dX9_send_97 rfl ?_
            refine getX9_13 rfl dX9_send_98 ?_
            refine r_iconst (2) dX9_send_101 rfl ?_
            refine ld_19 (t := 2)  (by omega) (by omega) dX9_send_102 ?_
            rw [up_at]
            refine r_istore_n_3 dX9_send_103 rfl ?_
            refine r_inc1_5 dX9_send_104 rfl ?_
            refine r_goto 37 dX9_send_107 rfl ?_
            exact ih _
          · rw [if_neg h87] at ih
            refine r_goto 104 dX9_send_90 rfl ?_
            refine r_inc1_5 dX9_send_104 rfl ?_
            refine r_goto 37 dX9_send_107 rfl ?_
            exact ih _
    exact LOOP 0 (by omega) _
  · refine r_aload_n dX9_send_12 rfl ?_
    refine r_iload_n dX9_send_13 rfl ?_
    refine cV_i1 fX9_no rcv_18 lkX9_36 rfl dX9_send_14 (sp_X9_no (outs_ref h9) ?_)
    refine r_ireturn rfl (by first | rfl | exact nar_bi _ | assumption) dX9_send_17 ⟨_, rfl, ?_⟩
    exact Kr h9
/-- holiday -/
def vHol (m w : Int32) : Int32 := if outs m 0 30 = 0 then (if eith w then 0 else -2) else outs m 0 30
def hol (s0 : Int32 × Int32) (r : Row) (n m : Nat) : Nat → Int32 × Int32 := amn (fun _ => true) (fun d => sumT (dayN 0 n (addO r 63 ((1 : Int32) <<< (nI d &&& 31)) n) m) n) nI s0
theorem hol_s {s0 : Int32 × Int32} {r : Row} {n m d : Nat} : hol s0 r n m (d + 1) = if sumT (dayN 0 n (addO r 63 ((1 : Int32) <<< (nI d &&& 31)) n) m) n < (hol s0 r n m d).2 then (nI d, sumT (dayN 0 n (addO r 63 ((1 : Int32) <<< (nI d &&& 31)) n) m) n) else hol s0 r n m d := by
  show (if true = true ∧ _ then _ else _) = _
  simp only [true_and]
  rfl
theorem hol_e {r : Row} {n m : Nat} (hW : WF r n) : hol (0, 1000000000) r n m 7 = hol (0, 2147483647) r n m 7 := by
  have hx := addO_WF (ws := 63) hW (R7_sl (j := 0) (by omega)) n hW.2.1
  have h1 := sumT_lt (dayN_WF (u := 0) hx m) 1000000000 (by omega) (by omega) (z := 1000000000) (by decide +kernel)
  have h2 := sumT_lt (dayN_WF (u := 0) hx m) 2147483647 (by omega) (by omega) (z := 2147483647) (by decide +kernel)
  show hol (0, 1000000000) r n m (6 + 1) = hol (0, 2147483647) r n m (6 + 1)
  unfold hol
  exact amn_init rfl h1 h2 6
def holV (r : Row) (n m : Nat) (w : Int32) : Int32 := if w = 0 then (hol (0, 2147483647) r n m 7).1 else (hol (0, 2147483647) r n m 7).2
theorem sp_X8_holiday {n : Nat} {m w : Int32} (hW : WF (σ 0) n) (Kr : ∀ c, vHol m w = c → ¬ c = 0 → Q c (rfs σ 9 c)) (K : ∀ j, j ≤ 30 → m = nI j → vHol m w = 0 → ∀ r1, Q (holV (σ 0) n j w) (va_up σ 1 r1)) : Mi E mX8_holiday [.ref (ad E 0 0), .int m, .int w] σ Q := by
  have hn6 := hW.2.1
  refine Mw_of (L0 := [some (.ref (ad E 0 0)), some (.int m), some (.int w), none, none, none, none, none]) pn_X8 rfl rfl (Nat.le_of_ble_eq_true rfl) ?_
  refine r_iload_n dX8_holiday_0 rfl ?_
  refine r_iconst (0) dX8_holiday_1 rfl ?_
  refine r_bipush (30) dX8_holiday_2 rfl ?_
  refine cS_i3 fX8_outside lkX8_44 rfl dX8_holiday_4 (sp_X8_outside  ?_)
  refine r_istore_n_3 dX8_holiday_7 rfl ?_
  refine r_iload_n dX8_holiday_8 rfl ?_
  refine r_if_eq 18 dX8_holiday_9 rfl (fun h9 => ?_) (fun h9 => ?_)
  · obtain ⟨j, hj, rfl⟩ := outs_N (b := 30) (by omega) h9
    refine r_iload_n dX8_holiday_18 rfl ?_
    refine cS_i1 fX8_isEither lkX8_115 rfl dX8_holiday_19 (sp_X8_isEither  ?_)
    refine r_if_ne 32 dX8_holiday_22 rfl (fun h22 => ?_) (fun h22 => ?_)
    · have he : eith w = true := tb_of h22
      have K := K j hj rfl (by unfold vHol; rw [if_pos h9, he]; rfl)
      unfold holV at K
      refine r_ldc kcX8_207 dX8_holiday_32 ?_
      refine r_istore_4 dX8_holiday_34 rfl ?_
      refine r_iconst (0) dX8_holiday_36 rfl ?_
      refine r_istore_5 dX8_holiday_37 rfl ?_
      refine r_iconst (0) dX8_holiday_39 rfl ?_
      refine r_istore_6 dX8_holiday_40 rfl ?_
      have LOOP : ∀ k, k ≤ 7 → ∀ y r1, GW E (ZM E 5 fun v σ' => ∃ r, v = some (.int r) ∧ Q r σ') mX8_holiday 42 [some (.ref (ad E 0 0)), some (.int (nI j)), some (.int w), some (.int (outs (nI j) 0 30)), some (.int (hol (0, 2147483647) (σ 0) n j k).2), some (.int (hol (0, 2147483647) (σ 0) n j k).1), some (.int (nI k)), y] [] (va_up σ 1 r1) := by
        refine down ?_ ?_
        · intro y r1
          refine r_iload dX8_holiday_42 rfl ?_
          refine r_bipush (7) dX8_holiday_44 rfl ?_
          refine r_icmp_ge_N (b := 7) 111 dX8_holiday_46 rfl (by omega) (by omega) (fun h46 => ?_) (fun h46 => ?_)
          · refine r_iload_n dX8_holiday_111 rfl ?_
            refine r_if_ne 120 dX8_holiday_112 rfl (fun h112 => ?_) (fun h112 => ?_)
            · refine r_iload dX8_holiday_120 rfl ?_
              refine r_ireturn rfl (by first | rfl | exact nar_bi _ | assumption) dX8_holiday_122 ⟨_, rfl, ?_⟩
              rw [if_neg h112] at K
              exact K _
            · refine r_iload dX8_holiday_115 rfl ?_
              refine r_goto 122 dX8_holiday_117 rfl ?_
              refine r_ireturn rfl (by first | rfl | exact nar_bi _ | assumption) dX8_holiday_122 ⟨_, rfl, ?_⟩
              rw [if_pos h112] at K
              exact K _
          · exfalso; omega
        · intro k hk ih y r1
          have e0 : (va_up σ 1 r1) 0 = σ 0 := up_ne (by omega)
          have hWa := addO_WF (ws := 63) hW (R7_sl hk) n hn6
          rw [hol_s] at ih
          refine r_iload dX8_holiday_42 rfl ?_
          refine r_bipush (7) dX8_holiday_44 rfl ?_
          refine r_icmp_ge_N (b := 7) 111 dX8_holiday_46 rfl (by omega) (by omega) (fun h46 => ?_) (fun h46 => ?_)
          · exfalso; omega
          · refine r_aload_n dX8_holiday_49 rfl ?_
            refine getX8_16 rfl dX8_holiday_50 ?_
            refine r_aload_n dX8_holiday_53 rfl ?_
            refine getX8_10 rfl dX8_holiday_54 ?_
            refine cVN_v1 fX1_become (rcv_1 (by omega)) lkX8_63 rfl dX8_holiday_57 (sp_X1_become (by omega) (by omega) (by omega) ?_)
            rw [e0, up_up]
            refine r_aload_n dX8_holiday_60 rfl ?_
            refine getX8_16 rfl dX8_holiday_61 ?_
            refine r_bipush (63) dX8_holiday_64 rfl ?_
            refine r_iconst (1) dX8_holiday_66 rfl ?_
            refine r_iload dX8_holiday_67 rfl ?_
            refine r_ishl dX8_holiday_69 ?_
            refine cVN_v2 fX1_addOff (rcv_1 (by omega)) lkX8_217 rfl dX8_holiday_70 (sp_X1_addOff (by omega) (by rw [up_at]; exact hW.1) hn6 ?_)
            rw [up_at, up_up]
            refine r_aload_n dX8_holiday_73 rfl ?_
            refine r_iload_n dX8_holiday_74 rfl ?_
            refine cV_i1 fX8_allTiredBehind rcv_0 lkX8_201 rfl dX8_holiday_75 (sp_X8_allTiredBehind (by rw [up_at]; exact hWa) (by omega) (fun r2 => ?_))
            rw [up_at, up_up]
            refine r_istore_7 dX8_holiday_78 rfl ?_
            refine r_iload dX8_holiday_80 rfl ?_
            refine r_iload dX8_holiday_82 rfl ?_
            refine r_icmp_ge 92 dX8_holiday_84 rfl (fun h84 => ?_) (fun h84 => ?_)
            · rw [if_neg (Int32.not_lt.mpr h84)] at ih
              refine r_iload dX8_holiday_92 rfl ?_
              refine r_istore_5 dX8_holiday_94 rfl ?_
              refine r_iload dX8_holiday_96 rfl ?_
              refine r_iload dX8_holiday_98 rfl ?_
              refine r_mmin lkX8_198 wm_min1 wm_init wm_min2 rfl dX8_holiday_100 ?_
              rw [if_neg (Int32.not_lt.mpr h84)]
              refine r_istore_4 dX8_holiday_103 rfl ?_
              refine r_inc1_6 dX8_holiday_105 rfl ?_
              refine r_goto 42 dX8_holiday_108 rfl ?_
              exact ih _ _
            · rw [if_pos (Int32.not_le.mp h84)] at ih
              refine r_iload dX8_holiday_87 rfl ?_
              refine r_goto 94 dX8_holiday_89 rfl ?_
              refine r_istore_5 dX8_holiday_94 rfl ?_
              refine r_iload dX8_holiday_96 rfl ?_
              refine r_iload dX8_holiday_98 rfl ?_
              refine r_mmin lkX8_198 wm_min1 wm_init wm_min2 rfl dX8_holiday_100 ?_
              rw [if_pos (Int32.not_le.mp h84)]
              refine r_istore_4 dX8_holiday_103 rfl ?_
              refine r_inc1_6 dX8_holiday_105 rfl ?_
              refine r_goto 42 dX8_holiday_108 rfl ?_
              exact ih _ _
      refine r_sub up_same.symm (LOOP 0 (by omega) _ _)
    · have he : eith w = false := (bi_eq0 _).mp h22
      refine r_aload_n dX8_holiday_25 rfl ?_
      refine r_bipush (-2) dX8_holiday_26 rfl ?_
      refine cV_i1 fX8_refuse rcv_0 lkX8_52 rfl dX8_holiday_28 (sp_X8_refuse (Or.inr (Or.inl rfl)) ?_)
      refine r_ireturn rfl (by first | rfl | exact nar_bi _ | assumption) dX8_holiday_31 ⟨_, rfl, ?_⟩
      exact Kr (-2) (by unfold vHol; rw [if_pos h9, he]; rfl) (by decide)
  · refine r_aload_n dX8_holiday_12 rfl ?_
    refine r_iload_n dX8_holiday_13 rfl ?_
    refine cV_i1 fX8_refuse rcv_0 lkX8_52 rfl dX8_holiday_14 (sp_X8_refuse (outs_ref h9) ?_)
    refine r_ireturn rfl (by first | rfl | exact nar_bi _ | assumption) dX8_holiday_17 ⟨_, rfl, ?_⟩
    exact Kr _ (by unfold vHol; rw [if_neg h9]) h9
theorem tb_63 {p : Nat} (hp : p < 6) : tb 63 (nI p) = true := by rw [tb_bt _ (by omega)]; exact bt_63 (by omega) hp
theorem sp_X9_holiday {n : Nat} {m w : Int32} (hW : WF (σ 3) n) (Kr : ∀ c, vHol m w = c → ¬ c = 0 → Q c (rfs σ 13 c)) (K : ∀ j, j ≤ 30 → m = nI j → vHol m w = 0 → ∀ r1, Q (holV (σ 3) n j w) (va_up σ 4 r1)) : Mi E mX9_holiday [.ref (ad E 18 0), .int m, .int w] σ Q := by
  have hn6 := hW.2.1
  refine Mw_of (L0 := [some (.ref (ad E 18 0)), some (.int m), some (.int w), none, none, none, none, none]) pn_X9 rfl rfl (Nat.le_of_ble_eq_true rfl) ?_
  refine r_iload_n dX9_holiday_0 rfl ?_
  refine r_iconst (0) dX9_holiday_1 rfl ?_
  refine r_bipush (30) dX9_holiday_2 rfl ?_
  refine cS_i3 fX9_wrongBy lkX9_136 rfl dX9_holiday_4 (sp_X9_wrongBy  ?_)
  refine r_istore_n_3 dX9_holiday_7 rfl ?_
  refine r_iload_n dX9_holiday_8 rfl ?_
  refine r_if_ne 24 dX9_holiday_9 rfl (fun h9 => ?_) (fun h9 => ?_)
  · refine r_iload_n dX9_holiday_24 rfl ?_
    refine r_if_eq 34 dX9_holiday_25 rfl (fun h25 => ?_) (fun h25 => ?_)
    · exact absurd h25 h9
    · refine r_aload_n dX9_holiday_28 rfl ?_
      refine r_iload_n dX9_holiday_29 rfl ?_
      refine cV_i1 fX9_no rcv_18 lkX9_36 rfl dX9_holiday_30 (sp_X9_no (outs_ref h9) ?_)
      refine r_ireturn rfl (by first | rfl | exact nar_bi _ | assumption) dX9_holiday_33 ⟨_, rfl, ?_⟩
      exact Kr _ (by unfold vHol; rw [if_neg h9]) h9
  · obtain ⟨j, hj, rfl⟩ := outs_N (b := 30) (by omega) h9
    refine r_iload_n dX9_holiday_12 rfl ?_
    refine r_iconst (0) dX9_holiday_13 rfl ?_
    refine r_iconst (1) dX9_holiday_14 rfl ?_
    refine cS_i3 fX9_isIn lkX9_40 rfl dX9_holiday_15 (sp_X9_isIn  ?_)
    rw [eith_e]
    refine r_if_ne 24 dX9_holiday_18 rfl (fun h18 => ?_) (fun h18 => ?_)
    · have K := K j hj rfl (by unfold vHol; rw [if_pos h9, tb_of h18]; rfl)
      unfold holV at K
      rw [← hol_e hW] at K
      refine r_iload_n dX9_holiday_24 rfl ?_
      refine r_if_eq 34 dX9_holiday_25 rfl (fun h25 => ?_) (fun h25 => ?_)
      · refine r_iconst (0) dX9_holiday_34 rfl ?_
        refine r_istore_4 dX9_holiday_35 rfl ?_
        refine r_ldc kcX9_147 dX9_holiday_37 ?_
        refine r_istore_5 dX9_holiday_39 rfl ?_
        refine r_iconst (0) dX9_holiday_41 rfl ?_
        refine r_istore_6 dX9_holiday_42 rfl ?_
        have LOOP : ∀ k, k ≤ 7 → ∀ y r1, GW E (ZM E 7 fun v σ' => ∃ r, v = some (.int r) ∧ Q r σ') mX9_holiday 44 [some (.ref (ad E 18 0)), some (.int (nI j)), some (.int w), some (.int (outs (nI j) 0 30)), some (.int (hol (0, 1000000000) (σ 3) n j k).1), some (.int (hol (0, 1000000000) (σ 3) n j k).2), some (.int (nI k)), y] [] (va_up σ 4 r1) := by
          refine down ?_ ?_
          · intro y r1
            refine r_iload dX9_holiday_44 rfl ?_
            refine r_bipush (7) dX9_holiday_46 rfl ?_
            refine r_icmp_ge_N (b := 7) 142 dX9_holiday_48 rfl (by omega) (by omega) (fun h48 => ?_) (fun h48 => ?_)
            · refine r_iload_n dX9_holiday_142 rfl ?_
              refine r_if_ne 151 dX9_holiday_143 rfl (fun h143 => ?_) (fun h143 => ?_)
              · refine r_iload dX9_holiday_151 rfl ?_
                refine r_ireturn rfl (by first | rfl | exact nar_bi _ | assumption) dX9_holiday_153 ⟨_, rfl, ?_⟩
                rw [if_neg h143] at K
                exact K _
              · refine r_iload dX9_holiday_146 rfl ?_
                refine r_goto 153 dX9_holiday_148 rfl ?_
                refine r_ireturn rfl (by first | rfl | exact nar_bi _ | assumption) dX9_holiday_153 ⟨_, rfl, ?_⟩
                rw [if_pos h143] at K
                exact K _
            · exfalso; omega
          · intro k hk ih y r1
            have e3 : (va_up σ 4 r1) 3 = σ 3 := up_ne (by omega)
            have hWa := addO_WF (ws := 63) hW (R7_sl hk) n hn6
            rw [hol_s] at ih
            refine r_iload dX9_holiday_44 rfl ?_
            refine r_bipush (7) dX9_holiday_46 rfl ?_
            refine r_icmp_ge_N (b := 7) 142 dX9_holiday_48 rfl (by omega) (by omega) (fun h48 => ?_) (fun h48 => ?_)
            · exfalso; omega
            · refine r_aload_n dX9_holiday_51 rfl ?_
              refine getX9_9 rfl dX9_holiday_52 ?_
              refine r_aload_n dX9_holiday_55 rfl ?_
              refine getX9_13 rfl dX9_holiday_56 ?_
              refine cS_v2 fX9_copies lkX9_129 rfl dX9_holiday_59 (sp_X9_copies (by omega) (by omega) (by omega) ?_)
              rw [e3, up_up]
              refine r_iconst (0) dX9_holiday_62 rfl ?_
              refine r_istore_7 dX9_holiday_63 rfl ?_
              have INNER : ∀ p, p ≤ n → GW E (ZM E 7 fun v σ' => ∃ r, v = some (.int r) ∧ Q r σ') mX9_holiday 65 [some (.ref (ad E 18 0)), some (.int (nI j)), some (.int w), some (.int (outs (nI j) 0 30)), some (.int (hol (0, 1000000000) (σ 3) n j k).1), some (.int (hol (0, 1000000000) (σ 3) n j k).2), some (.int (nI k)), some (.int (nI p))] [] (va_up σ 4 (addO (σ 3) 63 ((1 : Int32) <<< (nI k &&& 31)) p)) := by
                refine down ?_ ?_
                · refine r_iload dX9_holiday_65 rfl ?_
                  refine r_aload_n dX9_holiday_67 rfl ?_
                  refine getX9_9 rfl dX9_holiday_68 ?_
                  refine r_iconst (0) dX9_holiday_71 rfl ?_
                  refine ld_19 (t := 0)  (by omega) (by omega) dX9_holiday_72 ?_
                  rw [up_ne (by omega), hW.1]
                  refine r_icmp_ge_N 100 dX9_holiday_73 rfl (by omega) (by omega) (fun h73 => ?_) (fun h73 => ?_)
                  · refine r_aload_n dX9_holiday_100 rfl ?_
                    refine getX9_13 rfl dX9_holiday_101 ?_
                    refine r_iload_n dX9_holiday_104 rfl ?_
                    refine cS_v2 fX9_daysOn lkX9_123 rfl dX9_holiday_105 (sp_X9_daysOn (by omega) (by rw [up_at]; exact hWa.1) hn6 (by omega) ?_)
                    rw [up_at, up_up]
                    refine r_aload_n dX9_holiday_108 rfl ?_
                    refine getX9_13 rfl dX9_holiday_109 ?_
                    refine cS_i1 fX9_allTired lkX9_167 rfl dX9_holiday_112 (sp_X9_allTired (by omega) (by rw [up_at]; exact (dayN_WF hWa j).1) hn6 ?_)
                    rw [up_at]
                    refine r_iload dX9_holiday_115 rfl ?_
                    refine r_icmp_lt 123 dX9_holiday_117 rfl (fun h117 => ?_) (fun h117 => ?_)
                    · rw [if_pos h117] at ih
                      refine r_iload dX9_holiday_123 rfl ?_
                      refine r_istore_4 dX9_holiday_125 rfl ?_
                      refine r_aload_n dX9_holiday_127 rfl ?_
                      refine getX9_13 rfl dX9_holiday_128 ?_
                      refine cS_i1 fX9_allTired lkX9_167 rfl dX9_holiday_131 (sp_X9_allTired (by omega) (by rw [up_at]; exact (dayN_WF hWa j).1) hn6 ?_)
                      rw [up_at]
                      refine r_istore_5 dX9_holiday_134 rfl ?_
                      refine r_inc1_6 dX9_holiday_136 rfl ?_
                      refine r_goto 44 dX9_holiday_139 rfl ?_
                      exact ih _ _
                    · rw [if_neg h117] at ih
                      refine r_goto 136 dX9_holiday_120 rfl ?_
                      refine r_inc1_6 dX9_holiday_136 rfl ?_
                      refine r_goto 44 dX9_holiday_139 rfl ?_
                      exact ih _ _
                  · exfalso; omega
                · intro p hp ih2
                  rw [addO, tb_63 (by omega)] at ih2
                  simp only [if_true] at ih2
                  refine r_iload dX9_holiday_65 rfl ?_
                  refine r_aload_n dX9_holiday_67 rfl ?_
                  refine getX9_9 rfl dX9_holiday_68 ?_
                  refine r_iconst (0) dX9_holiday_71 rfl ?_
                  refine ld_19 (t := 0)  (by omega) (by omega) dX9_holiday_72 ?_
                  rw [up_ne (by omega), hW.1]
                  refine r_icmp_ge_N 100 dX9_holiday_73 rfl (by omega) (by omega) (fun h73 => ?_) (fun h73 => ?_)
                  · exfalso; omega
                  · refine r_aload_n dX9_holiday_76 rfl ?_
                    refine getX9_13 rfl dX9_holiday_77 ?_
                    refine r_iload dX9_holiday_80 rfl ?_
                    refine r_iconst (2) dX9_holiday_82 rfl ?_
                    refine cS_i2 fX9_of lkX9_44 rfl dX9_holiday_83 (sp_of2  ?_)
                    refine r_dup2 dX9_holiday_86 rfl rfl ?_
                    refine ld_19  (by omega) (by omega) dX9_holiday_87 ?_
                    rw [up_at]
                    refine r_iconst (1) dX9_holiday_88 rfl ?_
                    refine r_iload dX9_holiday_89 rfl ?_
                    refine r_ishl dX9_holiday_91 ?_
                    refine r_ior dX9_holiday_92 ?_
                    refine st_19  (by omega) (by omega) dX9_holiday_93 ?_
                    rw [s2_up]
                    refine r_inc1_7 dX9_holiday_94 rfl ?_
                    refine r_goto 65 dX9_holiday_97 rfl ?_
                    exact ih2
              exact INNER 0 (by omega)
        refine r_sub up_same.symm (LOOP 0 (by omega) _ _)
      · exact absurd h9 h25
    · refine r_bipush (-2) dX9_holiday_21 rfl ?_
      refine r_istore_n_3 dX9_holiday_23 rfl ?_
      refine r_iload_n dX9_holiday_24 rfl ?_
      refine r_if_eq 34 dX9_holiday_25 rfl (fun h25 => ?_) (fun h25 => ?_)
      · exact absurd h25 (by decide)
      · refine r_aload_n dX9_holiday_28 rfl ?_
        refine r_iload_n dX9_holiday_29 rfl ?_
        refine cV_i1 fX9_no rcv_18 lkX9_36 rfl dX9_holiday_30 (sp_X9_no (Or.inr (Or.inl rfl)) ?_)
        refine r_ireturn rfl (by first | rfl | exact nar_bi _ | assumption) dX9_holiday_33 ⟨_, rfl, ?_⟩
        exact Kr (-2) (by unfold vHol; rw [if_pos h9, (bi_eq0 _).mp h18]; rfl) (by decide)
end BEST2
