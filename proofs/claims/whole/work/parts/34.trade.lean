/-! ===== trade ===== -/
section TRADE
variable {E : EnvT} {σ : Sg} {Q : Int32 → Sg → Prop} {Qv : Sg → Prop}
def vTr (n : Nat) (p q m : Int32) : Int32 := if two2 p q n then outs m 0 30 else -1
def trO (r : Row) (a b k : Nat) : Bool := (tb (r (5 + 5 * a)) (nI (k / 7)) && !tb (r (5 + 5 * b)) (nI (k / 7))) && (tb (r (5 + 5 * b)) (nI (k % 7)) && !tb (r (5 + 5 * a)) (nI (k % 7)))
def trR (r : Row) (a b k : Nat) : Row := mvd (mvd r a b (nI (k / 7))) b a (nI (k % 7))
def tt2 (r : Row) (a b : Nat) : Int32 := r (6 + 5 * a) + r (6 + 5 * b)
def trd (r : Row) (n a b m : Nat) : Nat → Int32 × Int32 := amn (trO r a b) (fun k => tt2 (dayN 0 n (trR r a b k) m) a b) (fun k => 10 * nI (k / 7) + nI (k % 7)) (-9, tt2 (dayN 0 n r m) a b)
theorem trd_s {r : Row} {n a b m k : Nat} : trd r n a b m (k + 1) = if trO r a b k = true ∧ tt2 (dayN 0 n (trR r a b k) m) a b < (trd r n a b m k).2 then (10 * nI (k / 7) + nI (k % 7), tt2 (dayN 0 n (trR r a b k) m) a b) else trd r n a b m k := rfl
theorem sp_X8_bothTiredBehind {n m a b : Nat} (hW : WF (σ 1) n) (hm : m ≤ 60) (ha : a < 6) (hb : b < 6) (K : ∀ r1, Q (tt2 (dayN 0 n (σ 1) m) a b) (va_up σ 1 r1)) : Mi E mX8_bothTiredBehind [.ref (ad E 0 0), .int (nI a), .int (nI b), .int (nI m)] σ Q := by
  refine Mw_of (L0 := [some (.ref (ad E 0 0)), some (.int (nI a)), some (.int (nI b)), some (.int (nI m))]) pn_X8 rfl rfl (Nat.le_of_ble_eq_true rfl) ?_
  refine r_aload_n dX8_bothTiredBehind_0 rfl ?_
  refine getX8_16 rfl dX8_bothTiredBehind_1 ?_
  refine r_iload_n dX8_bothTiredBehind_4 rfl ?_
  refine r_iconst (0) dX8_bothTiredBehind_5 rfl ?_
  refine cVN_i2 fX1_passDays (rcv_1 (by omega)) lkX8_151 rfl dX8_bothTiredBehind_6 (sp_X1_passDays (by omega) hW (by omega) ?_)
  refine r_pop dX8_bothTiredBehind_9 rfl ?_
  refine r_aload_n dX8_bothTiredBehind_10 rfl ?_
  refine getX8_16 rfl dX8_bothTiredBehind_11 ?_
  refine getX8_100 (by omega) rfl dX8_bothTiredBehind_14 ?_
  refine r_iload_n dX8_bothTiredBehind_17 rfl ?_
  refine ld_12  (by omega) (by omega) dX8_bothTiredBehind_18 ?_
  rw [up_at]
  refine r_aload_n dX8_bothTiredBehind_19 rfl ?_
  refine getX8_16 rfl dX8_bothTiredBehind_20 ?_
  refine getX8_100 (by omega) rfl dX8_bothTiredBehind_23 ?_
  refine r_iload_n dX8_bothTiredBehind_26 rfl ?_
  refine ld_12  (by omega) (by omega) dX8_bothTiredBehind_27 ?_
  rw [up_at]
  refine r_iadd dX8_bothTiredBehind_28 ?_
  refine r_ireturn rfl (by first | rfl | exact nar_bi _ | assumption) dX8_bothTiredBehind_29 ⟨_, rfl, ?_⟩
  exact K _
theorem hnd2 {r : Row} {a b x y : Nat} (hab : a ≠ b) (hx : x < 7) (hy : y < 7) (h1 : bt (r (5 + 5 * a)) x = true) (h2 : bt (r (5 + 5 * b)) x = false) (h3 : bt (r (5 + 5 * b)) y = true) (h4 : bt (r (5 + 5 * a)) y = false) : hndR (mvd r a b (nI x)) b a (nI y) = mvd (mvd r a b (nI x)) b a (nI y) := by
  refine hnd_mvd (by omega) hab ?_ ?_
  · unfold mvd
    rw [upd_eq, upd_ne (by omega), b_or, h3, Bool.true_or]
  · unfold mvd
    rw [upd_ne (by omega), upd_eq, b_and, h4, Bool.false_and]
theorem sp_X8_trade {n : Nat} {p q m : Int32} (hW : WF (σ 0) n) (Kr : ∀ c, vTr n p q m = c → ¬ c = 0 → Q c (rfs σ 9 c)) (K : ∀ a b j, a < n → b < n → p = nI a → q = nI b → j ≤ 30 → m = nI j → vTr n p q m = 0 → ∀ r1, Q (trd (σ 0) n a b j 49).1 (va_up σ 1 r1)) : Mi E mX8_trade [.ref (ad E 0 0), .int p, .int q, .int m] σ Q := by
  have hn6 := hW.2.1
  refine Mw_of (L0 := [some (.ref (ad E 0 0)), some (.int p), some (.int q), some (.int m), none, none, none, none, none, none]) pn_X8 rfl rfl (Nat.le_of_ble_eq_true rfl) ?_
  refine r_aload_n dX8_trade_0 rfl ?_
  refine r_iload_n dX8_trade_1 rfl ?_
  refine r_iload_n dX8_trade_2 rfl ?_
  refine cV_i2 fX8_areTwo rcv_0 lkX8_136 rfl dX8_trade_3 (sp_X8_areTwo hW.1 ?_)
  refine r_if_ne 15 dX8_trade_6 rfl (fun h6 => ?_) (fun h6 => ?_)
  · obtain ⟨a, b, ha, hb, hab, rfl, rfl⟩ := two2_ex (tb_of h6) hn6
    have hv : vTr n (nI a) (nI b) m = outs m 0 30 := by unfold vTr; rw [tb_of h6]; rfl
    refine r_iload_n dX8_trade_15 rfl ?_
    refine r_iconst (0) dX8_trade_16 rfl ?_
    refine r_bipush (30) dX8_trade_17 rfl ?_
    refine cS_i3 fX8_outside lkX8_44 rfl dX8_trade_19 (sp_X8_outside  ?_)
    refine r_istore_4 dX8_trade_22 rfl ?_
    refine r_iload dX8_trade_24 rfl ?_
    refine r_if_eq 36 dX8_trade_26 rfl (fun h26 => ?_) (fun h26 => ?_)
    · obtain ⟨j, hj, rfl⟩ := outs_N (b := 30) (by omega) h26
      have K := K a b j ha hb rfl rfl hj rfl (hv.trans h26)
      refine r_aload_n dX8_trade_36 rfl ?_
      refine getX8_16 rfl dX8_trade_37 ?_
      refine r_aload_n dX8_trade_40 rfl ?_
      refine getX8_10 rfl dX8_trade_41 ?_
      refine cVN_v1 fX1_become (rcv_1 (by omega)) lkX8_63 rfl dX8_trade_44 (sp_X1_become (by omega) (by omega) (by omega) ?_)
      refine r_aload_n dX8_trade_47 rfl ?_
      refine r_iload_n dX8_trade_48 rfl ?_
      refine r_iload_n dX8_trade_49 rfl ?_
      refine r_iload_n dX8_trade_50 rfl ?_
      refine cV_i3 fX8_bothTiredBehind rcv_0 lkX8_204 rfl dX8_trade_51 (sp_X8_bothTiredBehind (by rw [up_at]; exact hW) (by omega) (by omega) (by omega) (fun r1 => ?_))
      rw [up_at, up_up]
      refine r_istore_5 dX8_trade_54 rfl ?_
      refine r_bipush (-9) dX8_trade_56 rfl ?_
      refine r_istore_6 dX8_trade_58 rfl ?_
      refine r_iconst (0) dX8_trade_60 rfl ?_
      refine r_istore_7 dX8_trade_61 rfl ?_
      have LOOP : ∀ x, x ≤ 7 → ∀ y8 y9 r1, GW E (ZM E 5 fun v σ' => ∃ r, v = some (.int r) ∧ Q r σ') mX8_trade 63 [some (.ref (ad E 0 0)), some (.int (nI a)), some (.int (nI b)), some (.int (nI j)), some (.int (outs (nI j) 0 30)), some (.int (trd (σ 0) n a b j (7 * x)).2), some (.int (trd (σ 0) n a b j (7 * x)).1), some (.int (nI x)), y8, y9] [] (va_up σ 1 r1) := by
        refine down ?_ ?_
        · intro y8 y9 r1
          refine r_iload dX8_trade_63 rfl ?_
          refine r_bipush (7) dX8_trade_65 rfl ?_
          refine r_icmp_ge_N (b := 7) 193 dX8_trade_67 rfl (by omega) (by omega) (fun h67 => ?_) (fun h67 => ?_)
          · refine r_iload dX8_trade_193 rfl ?_
            refine r_ireturn rfl (by first | rfl | exact nar_bi _ | assumption) dX8_trade_195 ⟨_, rfl, ?_⟩
            exact K _
          · exfalso; omega
        · intro x hx ih y8 y9 r1
          refine r_iload dX8_trade_63 rfl ?_
          refine r_bipush (7) dX8_trade_65 rfl ?_
          refine r_icmp_ge_N (b := 7) 193 dX8_trade_67 rfl (by omega) (by omega) (fun h67 => ?_) (fun h67 => ?_)
          · exfalso; omega
          · refine r_iconst (0) dX8_trade_70 rfl ?_
            refine r_istore_8 dX8_trade_71 rfl ?_
            have INNER : ∀ y, y ≤ 7 → ∀ y9 r1, GW E (ZM E 5 fun v σ' => ∃ r, v = some (.int r) ∧ Q r σ') mX8_trade 73 [some (.ref (ad E 0 0)), some (.int (nI a)), some (.int (nI b)), some (.int (nI j)), some (.int (outs (nI j) 0 30)), some (.int (trd (σ 0) n a b j (7 * x + y)).2), some (.int (trd (σ 0) n a b j (7 * x + y)).1), some (.int (nI x)), some (.int (nI y)), y9] [] (va_up σ 1 r1) := by
              refine down ?_ ?_
              · intro y9 r1
                refine r_iload dX8_trade_73 rfl ?_
                refine r_bipush (7) dX8_trade_75 rfl ?_
                refine r_icmp_ge_N (b := 7) 187 dX8_trade_77 rfl (by omega) (by omega) (fun h77 => ?_) (fun h77 => ?_)
                · refine r_inc1_7 dX8_trade_187 rfl ?_
                  refine r_goto 63 dX8_trade_190 rfl ?_
                  exact ih _ _ _
                · exfalso; omega
              · intro y hy ih2 y9 r1
                have e0 : (va_up σ 1 r1) 0 = σ 0 := up_ne (by omega)
                have d1 : (7 * x + y) / 7 = x := by omega
                have d2 : (7 * x + y) % 7 = y := by omega
                rw [show 7 * x + (y + 1) = (7 * x + y) + 1 by omega, trd_s] at ih2
                unfold trO trR at ih2
                rw [d1, d2] at ih2
                refine r_iload dX8_trade_73 rfl ?_
                refine r_bipush (7) dX8_trade_75 rfl ?_
                refine r_icmp_ge_N (b := 7) 187 dX8_trade_77 rfl (by omega) (by omega) (fun h77 => ?_) (fun h77 => ?_)
                · exfalso; omega
                · refine r_aload_n dX8_trade_80 rfl ?_
                  refine getX8_10 rfl dX8_trade_81 ?_
                  refine r_iload_n dX8_trade_84 rfl ?_
                  refine r_iload_n dX8_trade_85 rfl ?_
                  refine r_iload dX8_trade_86 rfl ?_
                  refine cVN_i3 fX1_canHand (rcv_1 (by omega)) lkX8_140 rfl dX8_trade_88 (sp_X1_canHand (by omega) (by omega) (by omega) ?_)
                  rw [e0]
                  refine r_if_eq 181 dX8_trade_91 rfl (fun h91 => ?_) (fun h91 => ?_)
                  · rw [if_neg (fun q => by have h := (bi_eq0 _).mp h91; have := q.1; rw [h] at this; cases this)] at ih2
                    refine r_inc1_8 dX8_trade_181 rfl ?_
                    refine r_goto 73 dX8_trade_184 rfl ?_
                    exact ih2 _ _
                  · have c1 := tb_of h91
                    rw [c1, Bool.true_and] at ih2
                    refine r_aload_n dX8_trade_94 rfl ?_
                    refine getX8_10 rfl dX8_trade_95 ?_
                    refine r_iload_n dX8_trade_98 rfl ?_
                    refine r_iload_n dX8_trade_99 rfl ?_
                    refine r_iload dX8_trade_100 rfl ?_
                    refine cVN_i3 fX1_canHand (rcv_1 (by omega)) lkX8_140 rfl dX8_trade_102 (sp_X1_canHand (by omega) (by omega) (by omega) ?_)
                    rw [e0]
                    refine r_if_eq 181 dX8_trade_105 rfl (fun h105 => ?_) (fun h105 => ?_)
                    · rw [if_neg (fun q => by have h := (bi_eq0 _).mp h105; have := q.1; rw [h] at this; cases this)] at ih2
                      refine r_inc1_8 dX8_trade_181 rfl ?_
                      refine r_goto 73 dX8_trade_184 rfl ?_
                      exact ih2 _ _
                    · have c2 := tb_of h105
                      rw [c2] at ih2
                      simp only [true_and] at ih2
                      simp only [Bool.and_eq_true, Bool.not_eq_true'] at c1 c2
                      rw [tb_bt _ (by omega), tb_bt _ (by omega)] at c1 c2
                      have hWm : WF (mvd (mvd (σ 0) a b (nI x)) b a (nI y)) n := mvd_WF (mvd_WF hW (by omega) (by omega) hx) (by omega) (by omega) hy
                      refine r_aload_n dX8_trade_108 rfl ?_
                      refine getX8_16 rfl dX8_trade_109 ?_
                      refine r_aload_n dX8_trade_112 rfl ?_
                      refine getX8_10 rfl dX8_trade_113 ?_
                      refine cVN_v1 fX1_become (rcv_1 (by omega)) lkX8_63 rfl dX8_trade_116 (sp_X1_become (by omega) (by omega) (by omega) ?_)
                      rw [e0, up_up]
                      refine r_aload_n dX8_trade_119 rfl ?_
                      refine getX8_16 rfl dX8_trade_120 ?_
                      refine r_iload_n dX8_trade_123 rfl ?_
                      refine r_iload_n dX8_trade_124 rfl ?_
                      refine r_iload dX8_trade_125 rfl ?_
                      refine cVN_v3 fX1_hand (rcv_1 (by omega)) lkX8_144 rfl dX8_trade_127 (sp_X1_hand (by omega) (by omega) (by omega) ?_)
                      rw [up_at, up_up, hnd_mvd (by omega) (Ne.symm hab) c1.1 c1.2]
                      refine r_aload_n dX8_trade_130 rfl ?_
                      refine getX8_16 rfl dX8_trade_131 ?_
                      refine r_iload_n dX8_trade_134 rfl ?_
                      refine r_iload_n dX8_trade_135 rfl ?_
                      refine r_iload dX8_trade_136 rfl ?_
                      refine cVN_v3 fX1_hand (rcv_1 (by omega)) lkX8_144 rfl dX8_trade_138 (sp_X1_hand (by omega) (by omega) (by omega) ?_)
                      rw [up_at, up_up, hnd2 hab hx hy c1.1 c1.2 c2.1 c2.2]
                      refine r_aload_n dX8_trade_141 rfl ?_
                      refine r_iload_n dX8_trade_142 rfl ?_
                      refine r_iload_n dX8_trade_143 rfl ?_
                      refine r_iload_n dX8_trade_144 rfl ?_
                      refine cV_i3 fX8_bothTiredBehind rcv_0 lkX8_204 rfl dX8_trade_145 (sp_X8_bothTiredBehind (by rw [up_at]; exact hWm) (by omega) (by omega) (by omega) (fun r2 => ?_))
                      rw [up_at, up_up]
                      refine r_istore_9 dX8_trade_148 rfl ?_
                      refine r_iload dX8_trade_150 rfl ?_
                      refine r_iload dX8_trade_152 rfl ?_
                      refine r_icmp_ge 168 dX8_trade_154 rfl (fun h154 => ?_) (fun h154 => ?_)
                      · rw [if_neg (Int32.not_lt.mpr h154)] at ih2
                        refine r_iload dX8_trade_168 rfl ?_
                        refine r_istore_6 dX8_trade_170 rfl ?_
                        refine r_iload dX8_trade_172 rfl ?_
                        refine r_iload dX8_trade_174 rfl ?_
                        refine r_mmin lkX8_198 wm_min1 wm_init wm_min2 rfl dX8_trade_176 ?_
                        rw [if_neg (Int32.not_lt.mpr h154)]
                        refine r_istore_5 dX8_trade_179 rfl ?_
                        refine r_inc1_8 dX8_trade_181 rfl ?_
                        refine r_goto 73 dX8_trade_184 rfl ?_
                        exact ih2 _ _
                      · rw [if_pos (Int32.not_le.mp h154)] at ih2
                        refine r_bipush (10) dX8_trade_157 rfl ?_
                        refine r_iload dX8_trade_159 rfl ?_
                        refine r_imul dX8_trade_161 ?_
                        refine r_iload dX8_trade_162 rfl ?_
                        refine r_iadd dX8_trade_164 ?_
                        refine r_goto 170 dX8_trade_165 rfl ?_
                        refine r_istore_6 dX8_trade_170 rfl ?_
                        refine r_iload dX8_trade_172 rfl ?_
                        refine r_iload dX8_trade_174 rfl ?_
                        refine r_mmin lkX8_198 wm_min1 wm_init wm_min2 rfl dX8_trade_176 ?_
                        rw [if_pos (Int32.not_le.mp h154)]
                        refine r_istore_5 dX8_trade_179 rfl ?_
                        refine r_inc1_8 dX8_trade_181 rfl ?_
                        refine r_goto 73 dX8_trade_184 rfl ?_
                        exact ih2 _ _
            exact INNER 0 (by omega) _ _
      exact LOOP 0 (by omega) _ _ _
    · refine r_aload_n dX8_trade_29 rfl ?_
      refine r_iload dX8_trade_30 rfl ?_
      refine cV_i1 fX8_refuse rcv_0 lkX8_52 rfl dX8_trade_32 (sp_X8_refuse (outs_ref h26) ?_)
      refine r_ireturn rfl (by first | rfl | exact nar_bi _ | assumption) dX8_trade_35 ⟨_, rfl, ?_⟩
      exact Kr _ hv h26
  · refine r_aload_n dX8_trade_9 rfl ?_
    refine r_iconst (-1) dX8_trade_10 rfl ?_
    refine cV_i1 fX8_refuse rcv_0 lkX8_52 rfl dX8_trade_11 (sp_X8_refuse (Or.inl rfl) ?_)
    refine r_ireturn rfl (by first | rfl | exact nar_bi _ | assumption) dX8_trade_14 ⟨_, rfl, ?_⟩
    exact Kr (-1) (by unfold vTr; rw [(bi_eq0 _).mp h6]; rfl) (by decide)
theorem sp_X9_trade {n : Nat} {p q m : Int32} (hW : WF (σ 3) n) (Kr : ∀ c, vTr n p q m = c → ¬ c = 0 → Q c (rfs σ 13 c)) (K : ∀ a b j, a < n → b < n → p = nI a → q = nI b → j ≤ 30 → m = nI j → vTr n p q m = 0 → ∀ r1, Q (trd (σ 3) n a b j 49).1 (va_up σ 4 r1)) : Mi E mX9_trade [.ref (ad E 18 0), .int p, .int q, .int m] σ Q := by
  have hn6 := hW.2.1
  have NOB : two2 p q n = false → ∀ y4 y5 y6 y7 y8 y9 y10, GW E (ZM E 8 fun v σ' => ∃ r, v = some (.int r) ∧ Q r σ') mX9_trade 31 [some (.ref (ad E 18 0)), some (.int p), some (.int q), some (.int m), y4, y5, y6, y7, y8, y9, y10] [] σ := by
    intro hf y4 y5 y6 y7 y8 y9 y10
    refine r_iconst (-1) dX9_trade_31 rfl ?_
    refine r_istore_4 dX9_trade_32 rfl ?_
    refine r_iload dX9_trade_34 rfl ?_
    refine r_if_eq 46 dX9_trade_36 rfl (fun h36 => ?_) (fun h36 => ?_)
    · exact absurd h36 (by decide)
    · refine r_aload_n dX9_trade_39 rfl ?_
      refine r_iload dX9_trade_40 rfl ?_
      refine cV_i1 fX9_no rcv_18 lkX9_36 rfl dX9_trade_42 (sp_X9_no (Or.inl rfl) ?_)
      refine r_ireturn rfl (by first | rfl | exact nar_bi _ | assumption) dX9_trade_45 ⟨_, rfl, ?_⟩
      exact Kr (-1) (by unfold vTr; rw [hf]; rfl) (by decide)
  refine Mw_of (L0 := [some (.ref (ad E 18 0)), some (.int p), some (.int q), some (.int m), none, none, none, none, none, none, none]) pn_X9 rfl rfl (Nat.le_of_ble_eq_true rfl) ?_
  refine r_aload_n dX9_trade_0 rfl ?_
  refine r_iload_n dX9_trade_1 rfl ?_
  refine cV_i1 fX9_isWorker rcv_18 lkX9_113 rfl dX9_trade_2 (sp_X9_isWorker hW.1 hn6 ?_)
  refine r_if_eq 31 dX9_trade_5 rfl (fun h5 => ?_) (fun h5 => ?_)
  · exact NOB (by unfold two2; rw [(bi_eq0 _).mp h5]; rfl) _ _ _ _ _ _ _
  · refine r_aload_n dX9_trade_8 rfl ?_
    refine r_iload_n dX9_trade_9 rfl ?_
    refine cV_i1 fX9_isWorker rcv_18 lkX9_113 rfl dX9_trade_10 (sp_X9_isWorker hW.1 hn6 ?_)
    refine r_if_eq 31 dX9_trade_13 rfl (fun h13 => ?_) (fun h13 => ?_)
    · exact NOB (by unfold two2; rw [(bi_eq0 _).mp h13, Bool.and_false]; rfl) _ _ _ _ _ _ _
    · refine r_iload_n dX9_trade_16 rfl ?_
      refine r_iload_n dX9_trade_17 rfl ?_
      refine r_icmp_eq 31 dX9_trade_18 rfl (fun h18 => ?_) (fun h18 => ?_)
      · exact NOB (by unfold two2; rw [h18]; simp) _ _ _ _ _ _ _
      · have ht : two2 p q n = true := by unfold two2; rw [tb_of h5, tb_of h13, beq_eq_false_iff_ne.mpr h18]; rfl
        obtain ⟨a, b, ha, hb, hab, rfl, rfl⟩ := two2_ex ht hn6
        have hv : vTr n (nI a) (nI b) m = outs m 0 30 := by unfold vTr; rw [ht]; rfl
        refine r_iload_n dX9_trade_21 rfl ?_
        refine r_iconst (0) dX9_trade_22 rfl ?_
        refine r_bipush (30) dX9_trade_23 rfl ?_
        refine cS_i3 fX9_wrongBy lkX9_136 rfl dX9_trade_25 (sp_X9_wrongBy  ?_)
        refine r_goto 32 dX9_trade_28 rfl ?_
        refine r_istore_4 dX9_trade_32 rfl ?_
        refine r_iload dX9_trade_34 rfl ?_
        refine r_if_eq 46 dX9_trade_36 rfl (fun h36 => ?_) (fun h36 => ?_)
        · obtain ⟨j, hj, rfl⟩ := outs_N (b := 30) (by omega) h36
          have K := K a b j ha hb rfl rfl hj rfl (hv.trans h36)
          refine r_aload_n dX9_trade_46 rfl ?_
          refine r_iload_n dX9_trade_47 rfl ?_
          refine cV_v1 fX9_takes rcv_18 lkX9_140 rfl dX9_trade_48 (sp_X9_takes hW (by omega) ?_)
          refine r_aload_n dX9_trade_51 rfl ?_
          refine getX9_13 rfl dX9_trade_52 ?_
          refine r_iload_n dX9_trade_55 rfl ?_
          refine r_iconst (3) dX9_trade_56 rfl ?_
          refine cS_i2 fX9_of lkX9_44 rfl dX9_trade_57 (sp_of3  ?_)
          refine ld_19  (by omega) (by omega) dX9_trade_60 ?_
          rw [up_at]
          refine r_aload_n dX9_trade_61 rfl ?_
          refine getX9_13 rfl dX9_trade_62 ?_
          refine r_iload_n dX9_trade_65 rfl ?_
          refine r_iconst (3) dX9_trade_66 rfl ?_
          refine cS_i2 fX9_of lkX9_44 rfl dX9_trade_67 (sp_of3  ?_)
          refine ld_19  (by omega) (by omega) dX9_trade_70 ?_
          rw [up_at]
          refine r_iadd dX9_trade_71 ?_
          refine r_istore_5 dX9_trade_72 rfl ?_
          refine r_bipush (-9) dX9_trade_74 rfl ?_
          refine r_istore_6 dX9_trade_76 rfl ?_
          refine r_iconst (0) dX9_trade_78 rfl ?_
          refine r_istore_7 dX9_trade_79 rfl ?_
          have LOOP : ∀ k, k ≤ 49 → ∀ y8 y9 y10 r1, GW E (ZM E 8 fun v σ' => ∃ r, v = some (.int r) ∧ Q r σ') mX9_trade 81 [some (.ref (ad E 18 0)), some (.int (nI a)), some (.int (nI b)), some (.int (nI j)), some (.int (outs (nI j) 0 30)), some (.int (trd (σ 3) n a b j k).2), some (.int (trd (σ 3) n a b j k).1), some (.int (nI k)), y8, y9, y10] [] (va_up σ 4 r1) := by
            refine down ?_ ?_
            · intro y8 y9 y10 r1
              refine r_iload dX9_trade_81 rfl ?_
              refine r_bipush (49) dX9_trade_83 rfl ?_
              refine r_icmp_ge_N (b := 49) 221 dX9_trade_85 rfl (by omega) (by omega) (fun h85 => ?_) (fun h85 => ?_)
              · refine r_iload dX9_trade_221 rfl ?_
                refine r_ireturn rfl (by first | rfl | exact nar_bi _ | assumption) dX9_trade_223 ⟨_, rfl, ?_⟩
                exact K _
              · exfalso; omega
            · intro k hk ih y8 y9 y10 r1
              have e3 : (va_up σ 4 r1) 3 = σ 3 := up_ne (by omega)
              have d1 : nI k / 7 = nI (k / 7) := pk_div (d := 7) (by omega) (by omega) (by omega)
              rw [trd_s] at ih
              unfold trO trR at ih
              refine r_iload dX9_trade_81 rfl ?_
              refine r_bipush (49) dX9_trade_83 rfl ?_
              refine r_icmp_ge_N (b := 49) 221 dX9_trade_85 rfl (by omega) (by omega) (fun h85 => ?_) (fun h85 => ?_)
              · exfalso; omega
              · refine r_iload dX9_trade_88 rfl ?_
                refine r_bipush (7) dX9_trade_90 rfl ?_
                refine r_idiv dX9_trade_92 (by decide) ?_
                rw [d1]
                refine r_istore_8 dX9_trade_93 rfl ?_
                refine r_iload dX9_trade_95 rfl ?_
                refine r_bipush (7) dX9_trade_97 rfl ?_
                refine r_irem dX9_trade_99 (by decide) ?_
                rw [rem7 (by omega)]
                refine r_istore_9 dX9_trade_100 rfl ?_
                refine r_aload_n dX9_trade_102 rfl ?_
                refine r_iload_n dX9_trade_103 rfl ?_
                refine r_iload_n dX9_trade_104 rfl ?_
                refine r_iload dX9_trade_105 rfl ?_
                refine cV_i3 fX9_canGive rcv_18 lkX9_120 rfl dX9_trade_107 (sp_X9_canGive (by omega) (by omega) ?_)
                rw [e3]
                refine r_if_eq 215 dX9_trade_110 rfl (fun h110 => ?_) (fun h110 => ?_)
                · rw [if_neg (fun q => by have h := (bi_eq0 _).mp h110; have := q.1; rw [h] at this; cases this)] at ih
                  refine r_inc1_7 dX9_trade_215 rfl ?_
                  refine r_goto 81 dX9_trade_218 rfl ?_
                  exact ih _ _ _ _
                · have c1 := tb_of h110
                  rw [c1, Bool.true_and] at ih
                  refine r_aload_n dX9_trade_113 rfl ?_
                  refine r_iload_n dX9_trade_114 rfl ?_
                  refine r_iload_n dX9_trade_115 rfl ?_
                  refine r_iload dX9_trade_116 rfl ?_
                  refine cV_i3 fX9_canGive rcv_18 lkX9_120 rfl dX9_trade_118 (sp_X9_canGive (by omega) (by omega) ?_)
                  rw [e3]
                  refine r_if_ne 127 dX9_trade_121 rfl (fun h121 => ?_) (fun h121 => ?_)
                  · rw [tb_of h121] at ih
                    simp only [true_and] at ih
                    have hWm : WF (mvd (mvd (σ 3) a b (nI (k / 7))) b a (nI (k % 7))) n := mvd_WF (mvd_WF hW (by omega) (by omega) (by omega)) (by omega) (by omega) (by omega)
                    refine r_aload_n dX9_trade_127 rfl ?_
                    refine getX9_9 rfl dX9_trade_128 ?_
                    refine r_aload_n dX9_trade_131 rfl ?_
                    refine getX9_13 rfl dX9_trade_132 ?_
                    refine cS_v2 fX9_copies lkX9_129 rfl dX9_trade_135 (sp_X9_copies (by omega) (by omega) (by omega) ?_)
                    rw [e3, up_up]
                    refine r_aload_n dX9_trade_138 rfl ?_
                    refine getX9_13 rfl dX9_trade_139 ?_
                    refine r_iload_n dX9_trade_142 rfl ?_
                    refine r_iload_n dX9_trade_143 rfl ?_
                    refine r_iload dX9_trade_144 rfl ?_
                    refine cS_v4 fX9_movesDay lkX9_75 rfl dX9_trade_146 (sp_X9_movesDay (by omega) (by omega) (by omega) ?_)
                    rw [up_at, up_up]
                    refine r_aload_n dX9_trade_149 rfl ?_
                    refine getX9_13 rfl dX9_trade_150 ?_
                    refine r_iload_n dX9_trade_153 rfl ?_
                    refine r_iload_n dX9_trade_154 rfl ?_
                    refine r_iload dX9_trade_155 rfl ?_
                    refine cS_v4 fX9_movesDay lkX9_75 rfl dX9_trade_157 (sp_X9_movesDay (by omega) (by omega) (by omega) ?_)
                    rw [up_at, up_up]
                    refine r_aload_n dX9_trade_160 rfl ?_
                    refine getX9_13 rfl dX9_trade_161 ?_
                    refine r_iload_n dX9_trade_164 rfl ?_
                    refine cS_v2 fX9_daysOn lkX9_123 rfl dX9_trade_165 (sp_X9_daysOn (by omega) (by rw [up_at]; exact hWm.1) hn6 (by omega) ?_)
                    rw [up_at, up_up]
                    refine r_aload_n dX9_trade_168 rfl ?_
                    refine getX9_13 rfl dX9_trade_169 ?_
                    refine r_iload_n dX9_trade_172 rfl ?_
                    refine r_iconst (3) dX9_trade_173 rfl ?_
                    refine cS_i2 fX9_of lkX9_44 rfl dX9_trade_174 (sp_of3  ?_)
                    refine ld_19  (by omega) (by omega) dX9_trade_177 ?_
                    rw [up_at]
                    refine r_aload_n dX9_trade_178 rfl ?_
                    refine getX9_13 rfl dX9_trade_179 ?_
                    refine r_iload_n dX9_trade_182 rfl ?_
                    refine r_iconst (3) dX9_trade_183 rfl ?_
                    refine cS_i2 fX9_of lkX9_44 rfl dX9_trade_184 (sp_of3  ?_)
                    refine ld_19  (by omega) (by omega) dX9_trade_187 ?_
                    rw [up_at]
                    refine r_iadd dX9_trade_188 ?_
                    refine r_istore_10 dX9_trade_189 rfl ?_
                    refine r_iload dX9_trade_191 rfl ?_
                    refine r_iload dX9_trade_193 rfl ?_
                    refine r_icmp_lt 201 dX9_trade_195 rfl (fun h195 => ?_) (fun h195 => ?_)
                    · change tt2 (dayN 0 n (mvd (mvd (σ 3) a b (nI (k / 7))) b a (nI (k % 7))) j) a b < _ at h195
                      rw [if_pos h195] at ih
                      refine r_bipush (10) dX9_trade_201 rfl ?_
                      refine r_iload dX9_trade_203 rfl ?_
                      refine r_imul dX9_trade_205 ?_
                      refine r_iload dX9_trade_206 rfl ?_
                      refine r_iadd dX9_trade_208 ?_
                      refine r_istore_6 dX9_trade_209 rfl ?_
                      refine r_iload dX9_trade_211 rfl ?_
                      refine r_istore_5 dX9_trade_213 rfl ?_
                      refine r_inc1_7 dX9_trade_215 rfl ?_
                      refine r_goto 81 dX9_trade_218 rfl ?_
                      exact ih _ _ _ _
                    · change ¬ tt2 (dayN 0 n (mvd (mvd (σ 3) a b (nI (k / 7))) b a (nI (k % 7))) j) a b < _ at h195
                      rw [if_neg h195] at ih
                      refine r_goto 215 dX9_trade_198 rfl ?_
                      refine r_inc1_7 dX9_trade_215 rfl ?_
                      refine r_goto 81 dX9_trade_218 rfl ?_
                      exact ih _ _ _ _
                  · rw [if_neg (fun q => by have h := (bi_eq0 _).mp h121; have := q.1; rw [h] at this; cases this)] at ih
                    refine r_goto 215 dX9_trade_124 rfl ?_
                    refine r_inc1_7 dX9_trade_215 rfl ?_
                    refine r_goto 81 dX9_trade_218 rfl ?_
                    exact ih _ _ _ _
          exact LOOP 0 (by omega) _ _ _ _
        · refine r_aload_n dX9_trade_39 rfl ?_
          refine r_iload dX9_trade_40 rfl ?_
          refine cV_i1 fX9_no rcv_18 lkX9_36 rfl dX9_trade_42 (sp_X9_no (outs_ref h36) ?_)
          refine r_ireturn rfl (by first | rfl | exact nar_bi _ | assumption) dX9_trade_45 ⟨_, rfl, ?_⟩
          exact Kr _ hv h36
end TRADE
