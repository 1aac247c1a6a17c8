/-! ===== the best of several: gift, better, send, holiday ===== -/
section BEST
variable {E : EnvT} {σ : Sg} {Q : Int32 → Sg → Prop} {Qv : Sg → Prop}
/-- the first of the least, with what it was at first -/
def amn (ok : Nat → Bool) (v code : Nat → Int32) (s0 : Int32 × Int32) : Nat → Int32 × Int32
  | 0 => s0
  | k + 1 => if ok k = true ∧ v k < (amn ok v code s0 k).2 then (code k, v k) else amn ok v code s0 k
theorem amn_init {ok : Nat → Bool} {v code : Nat → Int32} {s0 s1 : Int32 × Int32} (h0 : ok 0 = true) (h1 : v 0 < s0.2) (h2 : v 0 < s1.2) : ∀ k, amn ok v code s0 (k + 1) = amn ok v code s1 (k + 1)
  | 0 => by
    rw [show amn ok v code s0 (0 + 1) = if ok 0 = true ∧ v 0 < s0.2 then (code 0, v 0) else s0 from rfl, show amn ok v code s1 (0 + 1) = if ok 0 = true ∧ v 0 < s1.2 then (code 0, v 0) else s1 from rfl, if_pos ⟨h0, h1⟩, if_pos ⟨h0, h2⟩]
  | k + 1 => by
    show (if ok (k + 1) = true ∧ v (k + 1) < (amn ok v code s0 (k + 1)).2 then (code (k + 1), v (k + 1)) else amn ok v code s0 (k + 1)) = _
    rw [amn_init h0 h1 h2 k]
    rfl
theorem sumT_N {r : Row} {n : Nat} (hW : WF r n) : ∀ k, k ≤ 6 → ∃ s, s ≤ 30 * k ∧ sumT r k = nI s
  | 0, _ => ⟨0, by omega, rfl⟩
  | k + 1, hk => by
    obtain ⟨s, hs, e⟩ := sumT_N hW k (by omega)
    obtain ⟨-, -, -, ⟨t, ht, et⟩, -⟩ := hW.2.2 k (by omega)
    exact ⟨s + t, by omega, by rw [sumT, e, et, nI_add]⟩
theorem sp_X8_allTiredBehind {n m : Nat} (hW : WF (σ 1) n) (hm : m ≤ 60) (K : ∀ r1, Q (sumT (dayN 0 n (σ 1) m) n) (va_up σ 1 r1)) : Mi E mX8_allTiredBehind [.ref (ad E 0 0), .int (nI m)] σ Q := by
  refine Mw_of (L0 := [some (.ref (ad E 0 0)), some (.int (nI m))]) pn_X8 rfl rfl (Nat.le_of_ble_eq_true rfl) ?_
  refine r_aload_n dX8_allTiredBehind_0 rfl ?_
  refine getX8_16 rfl dX8_allTiredBehind_1 ?_
  refine r_iload_n dX8_allTiredBehind_4 rfl ?_
  refine r_iconst (0) dX8_allTiredBehind_5 rfl ?_
  refine cVN_i2 fX1_passDays (rcv_1 (by omega)) lkX8_151 rfl dX8_allTiredBehind_6 (sp_X1_passDays (by omega) hW (by omega) ?_)
  refine r_pop dX8_allTiredBehind_9 rfl ?_
  refine r_aload_n dX8_allTiredBehind_10 rfl ?_
  refine getX8_16 rfl dX8_allTiredBehind_11 ?_
  refine cVN_i0 fX1_allTired (rcv_1 (by omega)) lkX8_242 rfl dX8_allTiredBehind_14 (sp_X1_allTired (by omega) (by rw [up_at]; exact (dayN_WF hW m).1) hW.2.1 ?_)
  rw [up_at]
  refine r_ireturn rfl (by first | rfl | exact nar_bi _ | assumption) dX8_allTiredBehind_17 ⟨_, rfl, ?_⟩
  exact K _
theorem sp_X9_tiredNow {n m : Nat} (hW : WF (σ 3) n) (hm : m ≤ 60) (K : ∀ r4, Q (sumT (dayN 0 n (σ 3) m) n) (va_up σ 4 r4)) : Mi E mX9_tiredNow [.ref (ad E 18 0), .int (nI m)] σ Q := by
  refine Mw_of (L0 := [some (.ref (ad E 18 0)), some (.int (nI m))]) pn_X9 rfl rfl (Nat.le_of_ble_eq_true rfl) ?_
  refine r_aload_n dX9_tiredNow_0 rfl ?_
  refine r_iload_n dX9_tiredNow_1 rfl ?_
  refine cV_v1 fX9_takes rcv_18 lkX9_140 rfl dX9_tiredNow_2 (sp_X9_takes hW (by omega) ?_)
  refine r_aload_n dX9_tiredNow_5 rfl ?_
  refine getX9_13 rfl dX9_tiredNow_6 ?_
  refine cS_i1 fX9_allTired lkX9_167 rfl dX9_tiredNow_9 (sp_X9_allTired (by omega) (by rw [up_at]; exact (dayN_WF hW m).1) hW.2.1 ?_)
  rw [up_at]
  refine r_ireturn rfl (by first | rfl | exact nar_bi _ | assumption) dX9_tiredNow_12 ⟨_, rfl, ?_⟩
  exact K _
/-- gift -/
def vGift (r : Row) (n : Nat) (p w m : Int32) : Int32 := if hasW p n && isWd w then (if outs m 0 30 = 0 then (if tb (r (5 + 5 * p.toNatClampNeg)) w then 0 else -3) else outs m 0 30) else -1
def gok (r : Row) (a : Nat) (d : Int32) (o : Nat) : Bool := tb (r (5 + 5 * a)) d && !tb (r (5 + 5 * o)) d
def gft (r : Row) (n a : Nat) (d : Int32) (m : Nat) : Nat → Int32 × Int32 := amn (gok r a d) (fun o => sumT (dayN 0 n (mvd r a o d) m) n) nI (-9, sumT (dayN 0 n r m) n)
theorem gft_s {r : Row} {n a : Nat} {d : Int32} {m k : Nat} : gft r n a d m (k + 1) = if gok r a d k = true ∧ sumT (dayN 0 n (mvd r a k d) m) n < (gft r n a d m k).2 then (nI k, sumT (dayN 0 n (mvd r a k d) m) n) else gft r n a d m k := rfl
theorem min_e (x y : Int32) : (if y < x then y else x) = least y x := rfl
theorem sp_X8_gift {n : Nat} {p w m : Int32} (hW : WF (σ 0) n) (Kr : ∀ c, vGift (σ 0) n p w m = c → ¬ c = 0 → Q c (rfs σ 9 c)) (K : ∀ a d j, a < n → p = nI a → d < 7 → w = nI d → j ≤ 30 → m = nI j → vGift (σ 0) n p w m = 0 → ∀ r1, Q (gft (σ 0) n a w j n).1 (va_up σ 1 r1)) : Mi E mX8_gift [.ref (ad E 0 0), .int p, .int w, .int m] σ Q := by
  have hn6 := hW.2.1
  refine Mw_of (L0 := [some (.ref (ad E 0 0)), some (.int p), some (.int w), some (.int m), none, none, none, none, none]) pn_X8 rfl rfl (Nat.le_of_ble_eq_true rfl) ?_
  refine r_aload_n dX8_gift_0 rfl ?_
  refine getX8_10 rfl dX8_gift_1 ?_
  refine r_iload_n dX8_gift_4 rfl ?_
  refine cVN_i1 fX1_has (rcv_1 (by omega)) lkX8_87 rfl dX8_gift_5 (sp_X1_has (by omega) hW.1 ?_)
  refine r_if_eq 18 dX8_gift_8 rfl (fun h8 => ?_) (fun h8 => ?_)
  · refine r_aload_n dX8_gift_18 rfl ?_
    refine r_iconst (-1) dX8_gift_19 rfl ?_
    refine cV_i1 fX8_refuse rcv_0 lkX8_52 rfl dX8_gift_20 (sp_X8_refuse (Or.inl rfl) ?_)
    refine r_ireturn rfl (by first | rfl | exact nar_bi _ | assumption) dX8_gift_23 ⟨_, rfl, ?_⟩
    exact Kr (-1) (by unfold vGift; rw [(bi_eq0 _).mp h8]; rfl) (by decide)
  · refine r_iload_n dX8_gift_11 rfl ?_
    refine cS_i1 fX8_isWeekday lkX8_129 rfl dX8_gift_12 (sp_X8_isWeekday  ?_)
    refine r_if_ne 24 dX8_gift_15 rfl (fun h15 => ?_) (fun h15 => ?_)
    · obtain ⟨a, ha, rfl⟩ := hasW_ex (tb_of h8) hn6
      have hwd : isWd w = true := tb_of h15
      obtain ⟨d, hd, rfl⟩ := isWd_ex hwd
      have hv : vGift (σ 0) n (nI a) (nI d) m = if outs m 0 30 = 0 then (if tb (σ 0 (5 + 5 * a)) (nI d) then 0 else -3) else outs m 0 30 := by unfold vGift; rw [tb_of h8, hwd, nI_clamp (by omega)]; rfl
      refine r_iload_n dX8_gift_24 rfl ?_
      refine r_iconst (0) dX8_gift_25 rfl ?_
      refine r_bipush (30) dX8_gift_26 rfl ?_
      refine cS_i3 fX8_outside lkX8_44 rfl dX8_gift_28 (sp_X8_outside  ?_)
      refine r_istore_4 dX8_gift_31 rfl ?_
      refine r_iload dX8_gift_33 rfl ?_
      refine r_if_eq 45 dX8_gift_35 rfl (fun h35 => ?_) (fun h35 => ?_)
      · rw [if_pos h35] at hv
        obtain ⟨j, hj, rfl⟩ := outs_N (b := 30) (by omega) h35
        refine r_aload_n dX8_gift_45 rfl ?_
        refine getX8_10 rfl dX8_gift_46 ?_
        refine r_iload_n dX8_gift_49 rfl ?_
        refine r_iload_n dX8_gift_50 rfl ?_
        refine cVN_i2 fX1_isOff (rcv_1 (by omega)) lkX8_190 rfl dX8_gift_51 (sp_X1_isOff (by omega) (by omega) ?_)
        refine r_if_ne 64 dX8_gift_54 rfl (fun h54 => ?_) (fun h54 => ?_)
        · rw [tb_of h54] at hv
          have K := K a d j ha rfl hd rfl hj rfl hv
          refine r_aload_n dX8_gift_64 rfl ?_
          refine getX8_16 rfl dX8_gift_65 ?_
          refine r_aload_n dX8_gift_68 rfl ?_
          refine getX8_10 rfl dX8_gift_69 ?_
          refine cVN_v1 fX1_become (rcv_1 (by omega)) lkX8_63 rfl dX8_gift_72 (sp_X1_become (by omega) (by omega) (by omega) ?_)
          refine r_aload_n dX8_gift_75 rfl ?_
          refine r_iload_n dX8_gift_76 rfl ?_
          refine cV_i1 fX8_allTiredBehind rcv_0 lkX8_201 rfl dX8_gift_77 (sp_X8_allTiredBehind (by rw [up_at]; exact hW) (by omega) (fun r1 => ?_))
          rw [up_at, up_up]
          refine r_istore_5 dX8_gift_80 rfl ?_
          refine r_bipush (-9) dX8_gift_82 rfl ?_
          refine r_istore_6 dX8_gift_84 rfl ?_
          refine r_iconst (0) dX8_gift_86 rfl ?_
          refine r_istore_7 dX8_gift_87 rfl ?_
          have LOOP : ∀ k, k ≤ n → ∀ y r1, GW E (ZM E 5 fun v σ' => ∃ r, v = some (.int r) ∧ Q r σ') mX8_gift 89 [some (.ref (ad E 0 0)), some (.int (nI a)), some (.int (nI d)), some (.int (nI j)), some (.int (outs (nI j) 0 30)), some (.int (gft (σ 0) n a (nI d) j k).2), some (.int (gft (σ 0) n a (nI d) j k).1), some (.int (nI k)), y] [] (va_up σ 1 r1) := by
            refine down ?_ ?_
            · intro y r1
              refine r_iload dX8_gift_89 rfl ?_
              refine r_aload_n dX8_gift_91 rfl ?_
              refine getX8_10 rfl dX8_gift_92 ?_
              refine getX8_189 (by omega) rfl dX8_gift_95 ?_
              rw [up_ne (by omega), hW.1]
              refine r_icmp_ge_N 181 dX8_gift_98 rfl (by omega) (by omega) (fun h98 => ?_) (fun h98 => ?_)
              · refine r_iload dX8_gift_181 rfl ?_
                refine r_ireturn rfl (by first | rfl | exact nar_bi _ | assumption) dX8_gift_183 ⟨_, rfl, ?_⟩
                exact K _
              · exfalso; omega
            · intro k hk ih y r1
              have e0 : (va_up σ 1 r1) 0 = σ 0 := up_ne (by omega)
              rw [gft_s] at ih
              refine r_iload dX8_gift_89 rfl ?_
              refine r_aload_n dX8_gift_91 rfl ?_
              refine getX8_10 rfl dX8_gift_92 ?_
              refine getX8_189 (by omega) rfl dX8_gift_95 ?_
              rw [up_ne (by omega), hW.1]
              refine r_icmp_ge_N 181 dX8_gift_98 rfl (by omega) (by omega) (fun h98 => ?_) (fun h98 => ?_)
              · exfalso; omega
              · refine r_iload dX8_gift_101 rfl ?_
                refine r_iload_n dX8_gift_103 rfl ?_
                refine r_icmp_eq 175 dX8_gift_104 rfl (fun h104 => ?_) (fun h104 => ?_)
                · have hka : k = a := (nI_eq (by omega) (by omega)).mp h104
                  rw [if_neg (fun q => by have := q.1; unfold gok at this; rw [hka] at this; simp at this)] at ih
                  refine r_inc1_7 dX8_gift_175 rfl ?_
                  refine r_goto 89 dX8_gift_178 rfl ?_
                  exact ih _ _
                · have hka : k ≠ a := fun e => h104 (by rw [e])
                  refine r_aload_n dX8_gift_107 rfl ?_
                  refine getX8_10 rfl dX8_gift_108 ?_
                  refine r_iload_n dX8_gift_111 rfl ?_
                  refine r_iload dX8_gift_112 rfl ?_
                  refine r_iload_n dX8_gift_114 rfl ?_
                  refine cVN_i3 fX1_canHand (rcv_1 (by omega)) lkX8_140 rfl dX8_gift_115 (sp_X1_canHand (by omega) (by omega) (by omega) ?_)
                  rw [e0]
                  refine r_if_eq 175 dX8_gift_118 rfl (fun h118 => ?_) (fun h118 => ?_)
                  · rw [if_neg (fun q => by have h := (bi_eq0 _).mp h118; have := q.1; unfold gok at this; rw [h] at this; cases this)] at ih
                    refine r_inc1_7 dX8_gift_175 rfl ?_
                    refine r_goto 89 dX8_gift_178 rfl ?_
                    exact ih _ _
                  · have hok : gok (σ 0) a (nI d) k = true := tb_of h118
                    have hc := hok
                    unfold gok at hc
                    simp only [Bool.and_eq_true, Bool.not_eq_true'] at hc
                    rw [tb_bt _ (by omega), tb_bt _ (by omega)] at hc
                    rw [hok] at ih
                    simp only [true_and] at ih
                    have hWm : WF (mvd (σ 0) a k (nI d)) n := mvd_WF hW (by omega) (by omega) hd
                    refine r_aload_n dX8_gift_121 rfl ?_
                    refine getX8_16 rfl dX8_gift_122 ?_
                    refine r_aload_n dX8_gift_125 rfl ?_
                    refine getX8_10 rfl dX8_gift_126 ?_
                    refine cVN_v1 fX1_become (rcv_1 (by omega)) lkX8_63 rfl dX8_gift_129 (sp_X1_become (by omega) (by omega) (by omega) ?_)
                    rw [e0, up_up]
                    refine r_aload_n dX8_gift_132 rfl ?_
                    refine getX8_16 rfl dX8_gift_133 ?_
                    refine r_iload_n dX8_gift_136 rfl ?_
                    refine r_iload dX8_gift_137 rfl ?_
                    refine r_iload_n dX8_gift_139 rfl ?_
                    refine cVN_v3 fX1_hand (rcv_1 (by omega)) lkX8_144 rfl dX8_gift_140 (sp_X1_hand (by omega) (by omega) (by omega) ?_)
                    rw [up_at, up_up, hnd_mvd (by omega) hka hc.1 hc.2]
                    refine r_aload_n dX8_gift_143 rfl ?_
                    refine r_iload_n dX8_gift_144 rfl ?_
                    refine cV_i1 fX8_allTiredBehind rcv_0 lkX8_201 rfl dX8_gift_145 (sp_X8_allTiredBehind (by rw [up_at]; exact hWm) (by omega) (fun r2 => ?_))
                    rw [up_at, up_up]
                    refine r_istore_8 dX8_gift_148 rfl ?_
                    refine r_iload dX8_gift_150 rfl ?_
                    refine r_iload dX8_gift_152 rfl ?_
                    refine r_icmp_ge 162 dX8_gift_154 rfl (fun h154 => ?_) (fun h154 => ?_)
                    · rw [if_neg (Int32.not_lt.mpr h154)] at ih
                      refine r_iload dX8_gift_162 rfl ?_
                      refine r_istore_6 dX8_gift_164 rfl ?_
                      refine r_iload dX8_gift_166 rfl ?_
                      refine r_iload dX8_gift_168 rfl ?_
                      refine r_mmin lkX8_198 wm_min1 wm_init wm_min2 rfl dX8_gift_170 ?_
                      rw [if_neg (Int32.not_lt.mpr h154)]
                      refine r_istore_5 dX8_gift_173 rfl ?_
                      refine r_inc1_7 dX8_gift_175 rfl ?_
                      refine r_goto 89 dX8_gift_178 rfl ?_
                      exact ih _ _
                    · rw [if_pos (Int32.not_le.mp h154)] at ih
                      refine r_iload dX8_gift_157 rfl ?_
                      refine r_goto 164 dX8_gift_159 rfl ?_
                      refine r_istore_6 dX8_gift_164 rfl ?_
                      refine r_iload dX8_gift_166 rfl ?_
                      refine r_iload dX8_gift_168 rfl ?_
                      refine r_mmin lkX8_198 wm_min1 wm_init wm_min2 rfl dX8_gift_170 ?_
                      rw [if_pos (Int32.not_le.mp h154)]
                      refine r_istore_5 dX8_gift_173 rfl ?_
                      refine r_inc1_7 dX8_gift_175 rfl ?_
                      refine r_goto 89 dX8_gift_178 rfl ?_
                      exact ih _ _
          exact LOOP 0 (by omega) _ _
        · refine r_aload_n dX8_gift_57 rfl ?_
          refine r_bipush (-3) dX8_gift_58 rfl ?_
          refine cV_i1 fX8_refuse rcv_0 lkX8_52 rfl dX8_gift_60 (sp_X8_refuse (Or.inr (Or.inr (Or.inl rfl))) ?_)
          refine r_ireturn rfl (by first | rfl | exact nar_bi _ | assumption) dX8_gift_63 ⟨_, rfl, ?_⟩
          exact Kr (-3) (by rw [hv, (bi_eq0 _).mp h54]; rfl) (by decide)
      · rw [if_neg h35] at hv
        refine r_aload_n dX8_gift_38 rfl ?_
        refine r_iload dX8_gift_39 rfl ?_
        refine cV_i1 fX8_refuse rcv_0 lkX8_52 rfl dX8_gift_41 (sp_X8_refuse (outs_ref h35) ?_)
        refine r_ireturn rfl (by first | rfl | exact nar_bi _ | assumption) dX8_gift_44 ⟨_, rfl, ?_⟩
        exact Kr _ hv h35
    · have hwd : isWd w = false := (bi_eq0 _).mp h15
      refine r_aload_n dX8_gift_18 rfl ?_
      refine r_iconst (-1) dX8_gift_19 rfl ?_
      refine cV_i1 fX8_refuse rcv_0 lkX8_52 rfl dX8_gift_20 (sp_X8_refuse (Or.inl rfl) ?_)
      refine r_ireturn rfl (by first | rfl | exact nar_bi _ | assumption) dX8_gift_23 ⟨_, rfl, ?_⟩
      exact Kr (-1) (by unfold vGift; rw [hwd, Bool.and_false]; rfl) (by decide)
theorem sp_X9_gift {n : Nat} {p w m : Int32} (hW : WF (σ 3) n) (Kr : ∀ c, vGift (σ 3) n p w m = c → ¬ c = 0 → Q c (rfs σ 13 c)) (K : ∀ a d j, a < n → p = nI a → d < 7 → w = nI d → j ≤ 30 → m = nI j → vGift (σ 3) n p w m = 0 → ∀ r1, Q (gft (σ 3) n a w j n).1 (va_up σ 4 r1)) : Mi E mX9_gift [.ref (ad E 18 0), .int p, .int w, .int m] σ Q := by
  have hn6 := hW.2.1
  have REF : ∀ c, isRef c → ∀ y5 y6 y7, Q c (rfs σ 13 c) → GW E (ZM E 9 fun v σ' => ∃ r, v = some (.int r) ∧ Q r σ') mX9_gift 54 [some (.ref (ad E 18 0)), some (.int p), some (.int w), some (.int m), some (.int c), y5, y6, y7] [] σ := by
    intro c hc y5 y6 y7 hq
    refine r_iload dX9_gift_54 rfl ?_
    refine r_if_eq 66 dX9_gift_56 rfl (fun h56 => ?_) (fun h56 => ?_)
    · rw [h56] at hc
      exact absurd hc (by unfold isRef; decide)
    · refine r_aload_n dX9_gift_59 rfl ?_
      refine r_iload dX9_gift_60 rfl ?_
      refine cV_i1 fX9_no rcv_18 lkX9_36 rfl dX9_gift_62 (sp_X9_no hc ?_)
      refine r_ireturn rfl (by first | rfl | exact nar_bi _ | assumption) dX9_gift_65 ⟨_, rfl, ?_⟩
      exact hq
  have NOB : (hasW p n && isWd w) = false → ∀ y4 y5 y6 y7, GW E (ZM E 9 fun v σ' => ∃ r, v = some (.int r) ∧ Q r σ') mX9_gift 15 [some (.ref (ad E 18 0)), some (.int p), some (.int w), some (.int m), y4, y5, y6, y7] [] σ := by
    intro hf y4 y5 y6 y7
    refine r_iconst (-1) dX9_gift_15 rfl ?_
    refine r_goto 26 dX9_gift_16 rfl ?_
    refine r_istore_4 dX9_gift_26 rfl ?_
    refine r_iload dX9_gift_28 rfl ?_
    refine r_if_ne 54 dX9_gift_30 rfl (fun h30 => ?_) (fun h30 => ?_)
    · exact REF (-1) (Or.inl rfl) _ _ _ (Kr (-1) (by unfold vGift; rw [hf]; rfl) (by decide))
    · exact absurd h30 (by decide)
  refine Mw_of (L0 := [some (.ref (ad E 18 0)), some (.int p), some (.int w), some (.int m), none, none, none, none]) pn_X9 rfl rfl (Nat.le_of_ble_eq_true rfl) ?_
  refine r_aload_n dX9_gift_0 rfl ?_
  refine r_iload_n dX9_gift_1 rfl ?_
  refine cV_i1 fX9_isWorker rcv_18 lkX9_113 rfl dX9_gift_2 (sp_X9_isWorker hW.1 hn6 ?_)
  refine r_if_eq 15 dX9_gift_5 rfl (fun h5 => ?_) (fun h5 => ?_)
  · exact NOB (by rw [(bi_eq0 _).mp h5]; rfl) _ _ _ _
  · refine r_iload_n dX9_gift_8 rfl ?_
    refine cS_i1 fX9_isWeekday lkX9_117 rfl dX9_gift_9 (sp_X9_isWeekday  ?_)
    rw [isWd_e]
    refine r_if_ne 19 dX9_gift_12 rfl (fun h12 => ?_) (fun h12 => ?_)
    · obtain ⟨a, ha, rfl⟩ := hasW_ex (tb_of h5) hn6
      have hwd := tb_of h12
      obtain ⟨d, hd, rfl⟩ := isWd_ex hwd
      have hv : vGift (σ 3) n (nI a) (nI d) m = if outs m 0 30 = 0 then (if tb (σ 3 (5 + 5 * a)) (nI d) then 0 else -3) else outs m 0 30 := by unfold vGift; rw [tb_of h5, hwd, nI_clamp (by omega)]; rfl
      refine r_iload_n dX9_gift_19 rfl ?_
      refine r_iconst (0) dX9_gift_20 rfl ?_
      refine r_bipush (30) dX9_gift_21 rfl ?_
      refine cS_i3 fX9_wrongBy lkX9_136 rfl dX9_gift_23 (sp_X9_wrongBy  ?_)
      refine r_istore_4 dX9_gift_26 rfl ?_
      refine r_iload dX9_gift_28 rfl ?_
      refine r_if_ne 54 dX9_gift_30 rfl (fun h30 => ?_) (fun h30 => ?_)
      · rw [if_neg h30] at hv
        exact REF _ (outs_ref h30) _ _ _ (Kr _ hv h30)
      · rw [if_pos h30] at hv
        obtain ⟨j, hj, rfl⟩ := outs_N (b := 30) (by omega) h30
        refine r_aload_n dX9_gift_33 rfl ?_
        refine getX9_9 rfl dX9_gift_34 ?_
        refine r_iload_n dX9_gift_37 rfl ?_
        refine r_iconst (2) dX9_gift_38 rfl ?_
        refine cS_i2 fX9_of lkX9_44 rfl dX9_gift_39 (sp_of2  ?_)
        refine ld_19  (by omega) (by omega) dX9_gift_42 ?_
        refine r_iload_n dX9_gift_43 rfl ?_
        refine cS_i2 fX9_has lkX9_65 rfl dX9_gift_44 (sp_X9_has  ?_)
        refine r_if_ne 54 dX9_gift_47 rfl (fun h47 => ?_) (fun h47 => ?_)
        · rw [tb_of h47] at hv
          have K := K a d j ha rfl hd rfl hj rfl hv
          refine r_iload dX9_gift_54 rfl ?_
          refine r_if_eq 66 dX9_gift_56 rfl (fun h56 => ?_) (fun h56 => ?_)
          · refine r_aload_n dX9_gift_66 rfl ?_
            refine r_iload_n dX9_gift_67 rfl ?_
            refine cV_i1 fX9_tiredNow rcv_18 lkX9_170 rfl dX9_gift_68 (sp_X9_tiredNow hW (by omega) (fun r1 => ?_))
            refine r_istore_5 dX9_gift_71 rfl ?_
            refine r_bipush (-9) dX9_gift_73 rfl ?_
            refine r_istore_6 dX9_gift_75 rfl ?_
            refine r_iconst (0) dX9_gift_77 rfl ?_
            refine r_istore_7 dX9_gift_78 rfl ?_
            have LOOP : ∀ k, k ≤ n → ∀ r1, GW E (ZM E 9 fun v σ' => ∃ r, v = some (.int r) ∧ Q r σ') mX9_gift 80 [some (.ref (ad E 18 0)), some (.int (nI a)), some (.int (nI d)), some (.int (nI j)), some (.int (outs (nI j) 0 30)), some (.int (gft (σ 3) n a (nI d) j k).2), some (.int (gft (σ 3) n a (nI d) j k).1), some (.int (nI k))] [] (va_up σ 4 r1) := by
              refine down ?_ ?_
              · intro r1
                refine r_iload dX9_gift_80 rfl ?_
                refine r_aload_n dX9_gift_82 rfl ?_
                refine getX9_9 rfl dX9_gift_83 ?_
                refine r_iconst (0) dX9_gift_86 rfl ?_
                refine ld_19 (t := 0)  (by omega) (by omega) dX9_gift_87 ?_
                rw [up_ne (by omega), hW.1]
                refine r_icmp_ge_N 169 dX9_gift_88 rfl (by omega) (by omega) (fun h88 => ?_) (fun h88 => ?_)
                · refine r_iload dX9_gift_169 rfl ?_
                  refine r_ireturn rfl (by first | rfl | exact nar_bi _ | assumption) dX9_gift_171 ⟨_, rfl, ?_⟩
                  exact K _
                · exfalso; omega
              · intro k hk ih r1
                have e3 : (va_up σ 4 r1) 3 = σ 3 := up_ne (by omega)
                rw [gft_s] at ih
                refine r_iload dX9_gift_80 rfl ?_
                refine r_aload_n dX9_gift_82 rfl ?_
                refine getX9_9 rfl dX9_gift_83 ?_
                refine r_iconst (0) dX9_gift_86 rfl ?_
                refine ld_19 (t := 0)  (by omega) (by omega) dX9_gift_87 ?_
                rw [up_ne (by omega), hW.1]
                refine r_icmp_ge_N 169 dX9_gift_88 rfl (by omega) (by omega) (fun h88 => ?_) (fun h88 => ?_)
                · exfalso; omega
                · refine r_aload_n dX9_gift_91 rfl ?_
                  refine r_iload_n dX9_gift_92 rfl ?_
                  refine r_iload dX9_gift_93 rfl ?_
                  refine r_iload_n dX9_gift_95 rfl ?_
                  refine cV_i3 fX9_canGive rcv_18 lkX9_120 rfl dX9_gift_96 (sp_X9_canGive (by omega) (by omega) ?_)
                  rw [e3]
                  refine r_if_ne 105 dX9_gift_99 rfl (fun h99 => ?_) (fun h99 => ?_)
                  · have hok : gok (σ 3) a (nI d) k = true := tb_of h99
                    rw [hok] at ih
                    simp only [true_and] at ih
                    have hWm : WF (mvd (σ 3) a k (nI d)) n := mvd_WF hW (by omega) (by omega) hd
                    refine r_aload_n dX9_gift_105 rfl ?_
                    refine getX9_9 rfl dX9_gift_106 ?_
                    refine r_aload_n dX9_gift_109 rfl ?_
                    refine getX9_13 rfl dX9_gift_110 ?_
                    refine cS_v2 fX9_copies lkX9_129 rfl dX9_gift_113 (sp_X9_copies (by omega) (by omega) (by omega) ?_)
                    rw [e3, up_up]
                    refine r_aload_n dX9_gift_116 rfl ?_
                    refine getX9_13 rfl dX9_gift_117 ?_
                    refine r_iload_n dX9_gift_120 rfl ?_
                    refine r_iload dX9_gift_121 rfl ?_
                    refine r_iload_n dX9_gift_123 rfl ?_
                    refine cS_v4 fX9_movesDay lkX9_75 rfl dX9_gift_124 (sp_X9_movesDay (by omega) (by omega) (by omega) ?_)
                    rw [up_at, up_up]
                    refine r_aload_n dX9_gift_127 rfl ?_
                    refine getX9_13 rfl dX9_gift_128 ?_
                    refine r_iload_n dX9_gift_131 rfl ?_
                    refine cS_v2 fX9_daysOn lkX9_123 rfl dX9_gift_132 (sp_X9_daysOn (by omega) (by rw [up_at]; exact hWm.1) hn6 (by omega) ?_)
                    rw [up_at, up_up]
                    refine r_aload_n dX9_gift_135 rfl ?_
                    refine getX9_13 rfl dX9_gift_136 ?_
                    refine cS_i1 fX9_allTired lkX9_167 rfl dX9_gift_139 (sp_X9_allTired (by omega) (by rw [up_at]; exact (dayN_WF hWm j).1) hn6 ?_)
                    rw [up_at]
                    refine r_iload dX9_gift_142 rfl ?_
                    refine r_icmp_lt 150 dX9_gift_144 rfl (fun h144 => ?_) (fun h144 => ?_)
                    · rw [if_pos h144] at ih
                      refine r_iload dX9_gift_150 rfl ?_
                      refine r_istore_6 dX9_gift_152 rfl ?_
                      refine r_aload_n dX9_gift_154 rfl ?_
                      refine getX9_13 rfl dX9_gift_155 ?_
                      refine cS_i1 fX9_allTired lkX9_167 rfl dX9_gift_158 (sp_X9_allTired (by omega) (by rw [up_at]; exact (dayN_WF hWm j).1) hn6 ?_)
                      rw [up_at]
                      refine r_istore_5 dX9_gift_161 rfl ?_
                      refine r_inc1_7 dX9_gift_163 rfl ?_
                      refine r_goto 80 dX9_gift_166 rfl ?_
                      exact ih _
                    · rw [if_neg h144] at ih
                      refine r_goto 163 dX9_gift_147 rfl ?_
                      refine r_inc1_7 dX9_gift_163 rfl ?_
                      refine r_goto 80 dX9_gift_166 rfl ?_
                      exact ih _
                  · rw [if_neg (fun q => by have h := (bi_eq0 _).mp h99; have := q.1; unfold gok at this; rw [h] at this; cases this)] at ih
                    refine r_goto 163 dX9_gift_102 rfl ?_
                    refine r_inc1_7 dX9_gift_163 rfl ?_
                    refine r_goto 80 dX9_gift_166 rfl ?_
                    exact ih _
            exact LOOP 0 (by omega) _
          · exact absurd h30 h56
        · rw [(bi_eq0 _).mp h47] at hv
          refine r_bipush (-3) dX9_gift_50 rfl ?_
          refine r_istore_4 dX9_gift_52 rfl ?_
          exact REF (-3) (Or.inr (Or.inr (Or.inl rfl))) _ _ _ (Kr (-3) hv (by decide))
    · exact NOB (by rw [(bi_eq0 _).mp h12, Bool.and_false]) _ _ _ _
end BEST
