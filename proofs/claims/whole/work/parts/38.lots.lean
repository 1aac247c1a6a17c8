/-! ===== lots ===== -/
section LOTS
variable {E : EnvT} {σ : Sg} {Q : Int32 → Sg → Prop} {Qv : Sg → Prop}
def nx (s : Int32) : Int32 := s * 1664525 + 1013904223
def dr (s : Int32) : Int32 := (s &&& 2147483647) / 256 - (s &&& 2147483647) / 256 / 128 * 128
theorem dr_R7 (s : Int32) : R7 (dr s) := by
  obtain ⟨j, hj, e⟩ := pk_andE s (m := 2147483647) 31 (by decide +kernel)
  unfold dr
  rw [e, show (256 : Int32) = nI 256 from rfl, show (128 : Int32) = nI 128 from rfl, pk_div hj (by omega) (by omega), pk_rem (by omega) (by omega) (by omega)]
  exact R7_of (Nat.mod_lt _ (by omega))
def lsd (s : Int32) : Nat → Int32
  | 0 => s
  | p + 1 => nx (lsd s p)
def lrw (r : Row) (s : Int32) : Nat → Row
  | 0 => r
  | p + 1 => upd (upd (lrw r s p) (5 + 5 * p) (dr (nx (lsd s p)))) (6 + 5 * p) 0
theorem lrw_WF {r : Row} {n : Nat} {s : Int32} (h : WF r n) : ∀ p, WF (lrw r s p) n
  | 0 => h
  | p + 1 => updt_WF (t := 0) (updo_WF (lrw_WF h p) (dr_R7 _)) (by omega)
def wsd (n : Nat) (z : Int32) : Nat → Int32
  | 0 => z
  | k + 1 => lsd (wsd n z k) n
def wdy (r : Row) (n : Nat) (z : Int32) (k : Nat) : Row := dayN 0 n (lrw r (wsd n z k) n) 14
theorem wdy_WF {r : Row} {n k : Nat} {z : Int32} (h : WF r n) : WF (wdy r n z k) n := dayN_WF (lrw_WF h n) 14
def wti (r : Row) (n : Nat) (z : Int32) : Nat → Int32
  | 0 => 0
  | k + 1 => wti r n z k + sumT (wdy r n z k) n
def wwa (r : Row) (n : Nat) (z : Int32) : Nat → Int32
  | 0 => 0
  | k + 1 => wwa r n z k + (wdy r n z k 2 - r 2)
def vLot (m w : Int32) : Int32 := if outs m 1 20 = 0 then (if eith w then 0 else -2) else outs m 1 20
def lotV (r : Row) (n : Nat) (z : Int32) (j : Nat) (w : Int32) : Int32 := if w = 0 then wti r n z j else wwa r n z j
theorem outs1_N {x : Int32} {b : Nat} (hb : b < 1000) (h : outs x 1 (nI b) = 0) : ∃ m, m ≤ b ∧ x = nI m := by
  obtain ⟨h1, h2⟩ := outs_0 h
  obtain ⟨j, hj, rfl⟩ := nI_of (Int32.not_lt.mpr (Int32.le_trans (by decide : (0 : Int32) ≤ 1) h1))
  exact ⟨j, (nI_leI hj (by omega)).mp h2, rfl⟩
theorem sp_X8_nextSeed {s : Int32} (K : Q (nx s) σ) : Mi E mX8_nextSeed [.int s] σ Q := by
  refine Mw_of (L0 := [some (.int s)]) pn_X8 rfl rfl (Nat.le_of_ble_eq_true rfl) ?_
  refine r_iload_n dX8_nextSeed_0 rfl ?_
  refine r_ldc_w kcX8_269 dX8_nextSeed_1 ?_
  refine r_imul dX8_nextSeed_4 ?_
  refine r_ldc_w kcX8_270 dX8_nextSeed_5 ?_
  refine r_iadd dX8_nextSeed_8 ?_
  refine r_ireturn rfl (by first | rfl | exact nar_bi _ | assumption) dX8_nextSeed_9 ⟨_, rfl, ?_⟩
  exact K
theorem sp_X8_drawn {s : Int32} (K : Q (dr s) σ) : Mi E mX8_drawn [.int s, .int 128] σ Q := by
  refine Mw_of (L0 := [some (.int s), some (.int 128)]) pn_X8 rfl rfl (Nat.le_of_ble_eq_true rfl) ?_
  refine r_iload_n dX8_drawn_0 rfl ?_
  refine r_if_gt 6 dX8_drawn_1 rfl (fun h1 => ?_) (fun h1 => ?_)
  · refine r_iload_n dX8_drawn_6 rfl ?_
    refine r_ldc kcX8_207 dX8_drawn_7 ?_
    refine r_iand dX8_drawn_9 ?_
    refine r_sipush (256) dX8_drawn_10 rfl ?_
    refine r_idiv dX8_drawn_13 (by decide) ?_
    refine r_iload_n dX8_drawn_14 rfl ?_
    refine r_irem dX8_drawn_15 (by decide) ?_
    refine r_ireturn rfl (by first | rfl | exact nar_bi _ | assumption) dX8_drawn_16 ⟨_, rfl, ?_⟩
    exact K
  · exact absurd (by decide) h1
theorem sp_X9_drawn (K : Q (dr (nx (σ 15 4))) (s2 σ 15 4 (nx (σ 15 4)))) : Mi E mX9_drawn [.ref (ad E 18 0), .int 128] σ Q := by
  have e : (s2 σ 15 4 (nx (σ 15 4))) 15 4 = nx (σ 15 4) := by unfold s2; rw [up_at, upd_eq]
  refine Mw_of (L0 := [some (.ref (ad E 18 0)), some (.int 128)]) pn_X9 rfl rfl (Nat.le_of_ble_eq_true rfl) ?_
  refine r_aload_n dX9_drawn_0 rfl ?_
  refine r_aload_n dX9_drawn_1 rfl ?_
  refine getX9_195 rfl dX9_drawn_2 ?_
  refine r_ldc kcX9_198 dX9_drawn_5 ?_
  refine r_imul dX9_drawn_7 ?_
  refine r_ldc kcX9_199 dX9_drawn_8 ?_
  refine r_iadd dX9_drawn_10 ?_
  refine putX9_195 rfl dX9_drawn_11 ?_
  change GW _ _ _ _ _ _ (s2 σ 15 4 (nx (σ 15 4)))
  refine r_aload_n dX9_drawn_14 rfl ?_
  refine getX9_195 rfl dX9_drawn_15 ?_
  rw [e]
  refine r_ldc kcX9_200 dX9_drawn_18 ?_
  refine r_iand dX9_drawn_20 ?_
  refine r_sipush (256) dX9_drawn_21 rfl ?_
  refine r_idiv dX9_drawn_24 (by decide) ?_
  refine r_iload_n dX9_drawn_25 rfl ?_
  refine r_irem dX9_drawn_26 (by decide) ?_
  refine r_ireturn rfl (by first | rfl | exact nar_bi _ | assumption) dX9_drawn_27 ⟨_, rfl, ?_⟩
  exact K
theorem sp_X8_lots {n : Nat} {m z w : Int32} (hW : WF (σ 0) n) (Kr : ∀ c, vLot m w = c → ¬ c = 0 → Q c (rfs σ 9 c)) (K : ∀ j, j ≤ 20 → m = nI j → vLot m w = 0 → ∀ r1, Q (lotV (σ 0) n z j w) (va_up σ 1 r1)) : Mi E mX8_lots [.ref (ad E 0 0), .int m, .int z, .int w] σ Q := by
  have hn6 := hW.2.1
  refine Mw_of (L0 := [some (.ref (ad E 0 0)), some (.int m), some (.int z), some (.int w), none, none, none, none, none, none]) pn_X8 rfl rfl (Nat.le_of_ble_eq_true rfl) ?_
  refine r_iload_n dX8_lots_0 rfl ?_
  refine r_iconst (1) dX8_lots_1 rfl ?_
  refine r_bipush (20) dX8_lots_2 rfl ?_
  refine cS_i3 fX8_outside lkX8_44 rfl dX8_lots_4 (sp_X8_outside  ?_)
  refine r_istore_4 dX8_lots_7 rfl ?_
  refine r_iload dX8_lots_9 rfl ?_
  refine r_if_eq 21 dX8_lots_11 rfl (fun h11 => ?_) (fun h11 => ?_)
  · obtain ⟨j, hj, rfl⟩ := outs1_N (b := 20) (by omega) h11
    refine r_iload_n dX8_lots_21 rfl ?_
    refine cS_i1 fX8_isEither lkX8_115 rfl dX8_lots_22 (sp_X8_isEither  ?_)
    refine r_if_ne 35 dX8_lots_25 rfl (fun h25 => ?_) (fun h25 => ?_)
    · have he : eith w = true := tb_of h25
      have K := K j hj rfl (by unfold vLot; rw [if_pos h11, he]; rfl)
      unfold lotV at K
      refine r_iload_n dX8_lots_35 rfl ?_
      refine r_istore_5 dX8_lots_36 rfl ?_
      refine r_iconst (0) dX8_lots_38 rfl ?_
      refine r_istore_6 dX8_lots_39 rfl ?_
      refine r_iconst (0) dX8_lots_41 rfl ?_
      refine r_istore_7 dX8_lots_42 rfl ?_
      refine r_iconst (0) dX8_lots_44 rfl ?_
      refine r_istore_8 dX8_lots_45 rfl ?_
      have LOOP : ∀ k, k ≤ j → ∀ y r1, GW E (ZM E 4 fun v σ' => ∃ r, v = some (.int r) ∧ Q r σ') mX8_lots 47 [some (.ref (ad E 0 0)), some (.int (nI j)), some (.int z), some (.int w), some (.int (outs (nI j) 1 20)), some (.int (wsd n z k)), some (.int (wti (σ 0) n z k)), some (.int (wwa (σ 0) n z k)), some (.int (nI k)), y] [] (va_up σ 1 r1) := by
        refine down ?_ ?_
        · intro y r1
          refine r_iload dX8_lots_47 rfl ?_
          refine r_iload_n dX8_lots_49 rfl ?_
          refine r_icmp_ge_N 170 dX8_lots_50 rfl (by omega) (by omega) (fun h50 => ?_) (fun h50 => ?_)
          · refine r_iload_n dX8_lots_170 rfl ?_
            refine r_if_ne 179 dX8_lots_171 rfl (fun h171 => ?_) (fun h171 => ?_)
            · rw [if_neg h171] at K
              refine r_iload dX8_lots_179 rfl ?_
              refine r_ireturn rfl (by first | rfl | exact nar_bi _ | assumption) dX8_lots_181 ⟨_, rfl, ?_⟩
              exact K _
            · rw [if_pos h171] at K
              refine r_iload dX8_lots_174 rfl ?_
              refine r_goto 181 dX8_lots_176 rfl ?_
              refine r_ireturn rfl (by first | rfl | exact nar_bi _ | assumption) dX8_lots_181 ⟨_, rfl, ?_⟩
              exact K _
          · exfalso; omega
        · intro k hk ih y r1
          have e0 : (va_up σ 1 r1) 0 = σ 0 := up_ne (by omega)
          refine r_iload dX8_lots_47 rfl ?_
          refine r_iload_n dX8_lots_49 rfl ?_
          refine r_icmp_ge_N 170 dX8_lots_50 rfl (by omega) (by omega) (fun h50 => ?_) (fun h50 => ?_)
          · exfalso; omega
          · refine r_aload_n dX8_lots_53 rfl ?_
            refine getX8_16 rfl dX8_lots_54 ?_
            refine r_aload_n dX8_lots_57 rfl ?_
            refine getX8_10 rfl dX8_lots_58 ?_
            refine cVN_v1 fX1_become (rcv_1 (by omega)) lkX8_63 rfl dX8_lots_61 (sp_X1_become (by omega) (by omega) (by omega) ?_)
            rw [e0, up_up]
            refine r_iconst (0) dX8_lots_64 rfl ?_
            refine r_istore_9 dX8_lots_65 rfl ?_
            have INNER : ∀ p, p ≤ n → GW E (ZM E 4 fun v σ' => ∃ r, v = some (.int r) ∧ Q r σ') mX8_lots 67 [some (.ref (ad E 0 0)), some (.int (nI j)), some (.int z), some (.int w), some (.int (outs (nI j) 1 20)), some (.int (lsd (wsd n z k) p)), some (.int (wti (σ 0) n z k)), some (.int (wwa (σ 0) n z k)), some (.int (nI k)), some (.int (nI p))] [] (va_up σ 1 (lrw (σ 0) (wsd n z k) p)) := by
              refine down ?_ ?_
              · refine r_iload dX8_lots_67 rfl ?_
                refine r_aload_n dX8_lots_69 rfl ?_
                refine getX8_16 rfl dX8_lots_70 ?_
                refine getX8_189 (by omega) rfl dX8_lots_73 ?_
                rw [up_at, (lrw_WF hW _).1]
                refine r_icmp_ge_N 121 dX8_lots_76 rfl (by omega) (by omega) (fun h76 => ?_) (fun h76 => ?_)
                · refine r_aload_n dX8_lots_121 rfl ?_
                  refine getX8_16 rfl dX8_lots_122 ?_
                  refine r_bipush (14) dX8_lots_125 rfl ?_
                  refine r_iconst (0) dX8_lots_127 rfl ?_
                  refine cVN_i2 fX1_passDays (rcv_1 (by omega)) lkX8_151 rfl dX8_lots_128 (sp_X1_passDays (m := 14) (by omega) (by rw [up_at]; exact lrw_WF hW n) (by omega) ?_)
                  rw [up_at, up_up]
                  refine r_pop dX8_lots_131 rfl ?_
                  refine r_iload dX8_lots_132 rfl ?_
                  refine r_aload_n dX8_lots_134 rfl ?_
                  refine getX8_16 rfl dX8_lots_135 ?_
                  refine cVN_i0 fX1_allTired (rcv_1 (by omega)) lkX8_242 rfl dX8_lots_138 (sp_X1_allTired (by omega) (by rw [up_at]; exact (wdy_WF hW).1) hn6 ?_)
                  rw [up_at]
                  refine r_iadd dX8_lots_141 ?_
                  refine r_istore_6 dX8_lots_142 rfl ?_
                  refine r_iload dX8_lots_144 rfl ?_
                  refine r_aload_n dX8_lots_146 rfl ?_
                  refine getX8_16 rfl dX8_lots_147 ?_
                  refine getX8_154 (by omega) rfl dX8_lots_150 ?_
                  rw [up_at]
                  refine r_aload_n dX8_lots_153 rfl ?_
                  refine getX8_10 rfl dX8_lots_154 ?_
                  refine getX8_154 (by omega) rfl dX8_lots_157 ?_
                  rw [up_ne (a := 1) (x := 0) (by omega)]
                  refine r_isub dX8_lots_160 ?_
                  refine r_iadd dX8_lots_161 ?_
                  refine r_istore_7 dX8_lots_162 rfl ?_
                  refine r_inc1_8 dX8_lots_164 rfl ?_
                  refine r_goto 47 dX8_lots_167 rfl ?_
                  exact ih _ _
                · exfalso; omega
              · intro p hp ih2
                rw [lrw, lsd] at ih2
                refine r_iload dX8_lots_67 rfl ?_
                refine r_aload_n dX8_lots_69 rfl ?_
                refine getX8_16 rfl dX8_lots_70 ?_
                refine getX8_189 (by omega) rfl dX8_lots_73 ?_
                rw [up_at, (lrw_WF hW _).1]
                refine r_icmp_ge_N 121 dX8_lots_76 rfl (by omega) (by omega) (fun h76 => ?_) (fun h76 => ?_)
                · exfalso; omega
                · refine r_iload dX8_lots_79 rfl ?_
                  refine cS_i1 fX8_nextSeed lkX8_248 rfl dX8_lots_81 (sp_X8_nextSeed  ?_)
                  refine r_istore_5 dX8_lots_84 rfl ?_
                  refine r_aload_n dX8_lots_86 rfl ?_
                  refine getX8_16 rfl dX8_lots_87 ?_
                  refine getX8_97 (by omega) rfl dX8_lots_90 ?_
                  refine r_iload dX8_lots_93 rfl ?_
                  refine r_iload dX8_lots_95 rfl ?_
                  refine r_sipush (128) dX8_lots_97 rfl ?_
                  refine cS_i2 fX8_drawn lkX8_251 rfl dX8_lots_100 (sp_X8_drawn  ?_)
                  refine st_11  (by omega) (by omega) dX8_lots_103 ?_
                  rw [s2_up]
                  refine r_aload_n dX8_lots_104 rfl ?_
                  refine getX8_16 rfl dX8_lots_105 ?_
                  refine getX8_100 (by omega) rfl dX8_lots_108 ?_
                  refine r_iload dX8_lots_111 rfl ?_
                  refine r_iconst (0) dX8_lots_113 rfl ?_
                  refine st_12  (by omega) (by omega) dX8_lots_114 ?_
                  rw [s2_up]
                  refine r_inc1_9 dX8_lots_115 rfl ?_
                  refine r_goto 67 dX8_lots_118 rfl ?_
                  exact ih2
            exact INNER 0 (by omega)
      refine r_sub up_same.symm (LOOP 0 (by omega) _ _)
    · have he : eith w = false := (bi_eq0 _).mp h25
      refine r_aload_n dX8_lots_28 rfl ?_
      refine r_bipush (-2) dX8_lots_29 rfl ?_
      refine cV_i1 fX8_refuse rcv_0 lkX8_52 rfl dX8_lots_31 (sp_X8_refuse (Or.inr (Or.inl rfl)) ?_)
      refine r_ireturn rfl (by first | rfl | exact nar_bi _ | assumption) dX8_lots_34 ⟨_, rfl, ?_⟩
      exact Kr (-2) (by unfold vLot; rw [if_pos h11, he]; rfl) (by decide)
  · refine r_aload_n dX8_lots_14 rfl ?_
    refine r_iload dX8_lots_15 rfl ?_
    refine cV_i1 fX8_refuse rcv_0 lkX8_52 rfl dX8_lots_17 (sp_X8_refuse (outs_ref h11) ?_)
    refine r_ireturn rfl (by first | rfl | exact nar_bi _ | assumption) dX8_lots_20 ⟨_, rfl, ?_⟩
    exact Kr _ (by unfold vLot; rw [if_neg h11]) h11
theorem sd_up {z z' : Int32} {r : Row} : s2 (va_up (s2 σ 15 4 z) 4 r) 15 4 z' = va_up (s2 σ 15 4 z') 4 r := by
  unfold s2
  rw [up_ne (a := 4) (x := 15) (by omega), up_at, up_comm (a := 4) (b := 15) (by omega), up_up]
  congr 2
  funext j
  unfold upd
  split <;> rfl
theorem sd_at {z : Int32} {r : Row} : (va_up (s2 σ 15 4 z) 4 r) 15 4 = z := by
  rw [up_ne (by omega)]; unfold s2; rw [up_at, upd_eq]
theorem sd_3 {z : Int32} {r : Row} : (va_up (s2 σ 15 4 z) 4 r) 3 = σ 3 := by
  rw [up_ne (by omega)]; unfold s2; rw [up_ne (by omega)]
theorem sp_X9_lots {n : Nat} {m z w : Int32} (hW : WF (σ 3) n) (Kr : ∀ c, vLot m w = c → ¬ c = 0 → Q c (rfs σ 13 c)) (K : ∀ j, j ≤ 20 → m = nI j → vLot m w = 0 → ∀ r1 z', Q (lotV (σ 3) n z j w) (va_up (s2 σ 15 4 z') 4 r1)) : Mi E mX9_lots [.ref (ad E 18 0), .int m, .int z, .int w] σ Q := by
  have hn6 := hW.2.1
  refine Mw_of (L0 := [some (.ref (ad E 18 0)), some (.int m), some (.int z), some (.int w), none, none, none]) pn_X9 rfl rfl (Nat.le_of_ble_eq_true rfl) ?_
  refine r_iload_n dX9_lots_0 rfl ?_
  refine r_iconst (1) dX9_lots_1 rfl ?_
  refine r_icmp_ge 12 dX9_lots_2 rfl (fun h2 => ?_) (fun h2 => ?_)
  · refine r_iload_n dX9_lots_12 rfl ?_
    refine r_bipush (20) dX9_lots_13 rfl ?_
    refine r_icmp_le 25 dX9_lots_15 rfl (fun h15 => ?_) (fun h15 => ?_)
    · have h0 : outs m 1 20 = 0 := by unfold outs; rw [if_neg (Int32.not_lt.mpr h2), if_neg (Int32.not_lt.mpr h15)]
      obtain ⟨j, hj, rfl⟩ := outs1_N (b := 20) (by omega) h0
      refine r_iload_n dX9_lots_25 rfl ?_
      refine r_iconst (0) dX9_lots_26 rfl ?_
      refine r_iconst (1) dX9_lots_27 rfl ?_
      refine cS_i3 fX9_isIn lkX9_40 rfl dX9_lots_28 (sp_X9_isIn  ?_)
      rw [eith_e]
      refine r_if_ne 41 dX9_lots_31 rfl (fun h31 => ?_) (fun h31 => ?_)
      · have he : eith w = true := tb_of h31
        have K := K j hj rfl (by unfold vLot; rw [if_pos h0, he]; rfl)
        refine r_aload_n dX9_lots_41 rfl ?_
        refine r_iload_n dX9_lots_42 rfl ?_
        refine putX9_195 rfl dX9_lots_43 ?_
        refine r_iconst (0) dX9_lots_46 rfl ?_
        refine r_istore_4 dX9_lots_47 rfl ?_
        refine r_iconst (0) dX9_lots_49 rfl ?_
        refine r_istore_5 dX9_lots_50 rfl ?_
        have LOOP : ∀ k, k ≤ j → ∀ y r1, GW E (ZM E 7 fun v σ' => ∃ r, v = some (.int r) ∧ Q r σ') mX9_lots 52 [some (.ref (ad E 18 0)), some (.int (nI j)), some (.int z), some (.int w), some (.int (lotV (σ 3) n z k w)), some (.int (nI k)), y] [] (va_up (s2 σ 15 4 (wsd n z k)) 4 r1) := by
          refine down ?_ ?_
          · intro y r1
            refine r_iload dX9_lots_52 rfl ?_
            refine r_iload_n dX9_lots_54 rfl ?_
            refine r_icmp_ge_N 166 dX9_lots_55 rfl (by omega) (by omega) (fun h55 => ?_) (fun h55 => ?_)
            · refine r_iload dX9_lots_166 rfl ?_
              refine r_ireturn rfl (by first | rfl | exact nar_bi _ | assumption) dX9_lots_168 ⟨_, rfl, ?_⟩
              exact K _ _
            · exfalso; omega
          · intro k hk ih y r1
            refine r_iload dX9_lots_52 rfl ?_
            refine r_iload_n dX9_lots_54 rfl ?_
            refine r_icmp_ge_N 166 dX9_lots_55 rfl (by omega) (by omega) (fun h55 => ?_) (fun h55 => ?_)
            · exfalso; omega
            · refine r_aload_n dX9_lots_58 rfl ?_
              refine getX9_9 rfl dX9_lots_59 ?_
              refine r_aload_n dX9_lots_62 rfl ?_
              refine getX9_13 rfl dX9_lots_63 ?_
              refine cS_v2 fX9_copies lkX9_129 rfl dX9_lots_66 (sp_X9_copies (by omega) (by omega) (by omega) ?_)
              rw [sd_3, up_up]
              refine r_iconst (0) dX9_lots_69 rfl ?_
              refine r_istore_6 dX9_lots_70 rfl ?_
              have INNER : ∀ p, p ≤ n → GW E (ZM E 7 fun v σ' => ∃ r, v = some (.int r) ∧ Q r σ') mX9_lots 72 [some (.ref (ad E 18 0)), some (.int (nI j)), some (.int z), some (.int w), some (.int (lotV (σ 3) n z k w)), some (.int (nI k)), some (.int (nI p))] [] (va_up (s2 σ 15 4 (lsd (wsd n z k) p)) 4 (lrw (σ 3) (wsd n z k) p)) := by
                refine down ?_ ?_
                · refine r_iload dX9_lots_72 rfl ?_
                  refine r_aload_n dX9_lots_74 rfl ?_
                  refine getX9_9 rfl dX9_lots_75 ?_
                  refine r_iconst (0) dX9_lots_78 rfl ?_
                  refine ld_19 (t := 0)  (by omega) (by omega) dX9_lots_79 ?_
                  rw [sd_3, hW.1]
                  refine r_icmp_ge_N 119 dX9_lots_80 rfl (by omega) (by omega) (fun h80 => ?_) (fun h80 => ?_)
                  · refine r_aload_n dX9_lots_119 rfl ?_
                    refine getX9_13 rfl dX9_lots_120 ?_
                    refine r_bipush (14) dX9_lots_123 rfl ?_
                    refine cS_v2 fX9_daysOn lkX9_123 rfl dX9_lots_125 (sp_X9_daysOn (m := 14) (by omega) (by rw [up_at]; exact (lrw_WF hW n).1) hn6 (by omega) ?_)
                    rw [up_at, up_up]
                    refine r_iload dX9_lots_128 rfl ?_
                    refine r_iload_n dX9_lots_130 rfl ?_
                    refine r_if_ne 144 dX9_lots_131 rfl (fun h131 => ?_) (fun h131 => ?_)
                    · refine r_aload_n dX9_lots_144 rfl ?_
                      refine getX9_13 rfl dX9_lots_145 ?_
                      refine r_iconst (2) dX9_lots_148 rfl ?_
                      refine ld_19 (t := 2)  (by omega) (by omega) dX9_lots_149 ?_
                      rw [up_at]
                      refine r_aload_n dX9_lots_150 rfl ?_
                      refine getX9_9 rfl dX9_lots_151 ?_
                      refine r_iconst (2) dX9_lots_154 rfl ?_
                      refine ld_19 (t := 2)  (by omega) (by omega) dX9_lots_155 ?_
                      rw [sd_3]
                      refine r_isub dX9_lots_156 ?_
                      refine r_iadd dX9_lots_157 ?_
                      refine r_istore_4 dX9_lots_158 rfl ?_
                      refine r_inc1_5 dX9_lots_160 rfl ?_
                      refine r_goto 52 dX9_lots_163 rfl ?_
                      unfold lotV at ih ⊢
                      rw [if_neg h131] at ih ⊢
                      exact ih _ _
                    · refine r_aload_n dX9_lots_134 rfl ?_
                      refine getX9_13 rfl dX9_lots_135 ?_
                      refine cS_i1 fX9_allTired lkX9_167 rfl dX9_lots_138 (sp_X9_allTired (by omega) (by rw [up_at]; exact (wdy_WF hW).1) hn6 ?_)
                      rw [up_at]
                      refine r_goto 157 dX9_lots_141 rfl ?_
                      refine r_iadd dX9_lots_157 ?_
                      refine r_istore_4 dX9_lots_158 rfl ?_
                      refine r_inc1_5 dX9_lots_160 rfl ?_
                      refine r_goto 52 dX9_lots_163 rfl ?_
                      unfold lotV at ih ⊢
                      rw [if_pos h131] at ih ⊢
                      exact ih _ _
                  · exfalso; omega
                · intro p hp ih2
                  rw [lrw, lsd] at ih2
                  refine r_iload dX9_lots_72 rfl ?_
                  refine r_aload_n dX9_lots_74 rfl ?_
                  refine getX9_9 rfl dX9_lots_75 ?_
                  refine r_iconst (0) dX9_lots_78 rfl ?_
                  refine ld_19 (t := 0)  (by omega) (by omega) dX9_lots_79 ?_
                  rw [sd_3, hW.1]
                  refine r_icmp_ge_N 119 dX9_lots_80 rfl (by omega) (by omega) (fun h80 => ?_) (fun h80 => ?_)
                  · exfalso; omega
                  · refine r_aload_n dX9_lots_83 rfl ?_
                    refine getX9_13 rfl dX9_lots_84 ?_
                    refine r_iload dX9_lots_87 rfl ?_
                    refine r_iconst (2) dX9_lots_89 rfl ?_
                    refine cS_i2 fX9_of lkX9_44 rfl dX9_lots_90 (sp_of2  ?_)
                    refine r_aload_n dX9_lots_93 rfl ?_
                    refine r_sipush (128) dX9_lots_94 rfl ?_
                    refine cV_i1 fX9_drawn rcv_18 lkX9_201 rfl dX9_lots_97 (sp_X9_drawn  ?_)
                    rw [sd_at, sd_up]
                    refine st_19  (by omega) (by omega) dX9_lots_100 ?_
                    rw [s2_up]
                    refine r_aload_n dX9_lots_101 rfl ?_
                    refine getX9_13 rfl dX9_lots_102 ?_
                    refine r_iload dX9_lots_105 rfl ?_
                    refine r_iconst (3) dX9_lots_107 rfl ?_
                    refine cS_i2 fX9_of lkX9_44 rfl dX9_lots_108 (sp_of3  ?_)
                    refine r_iconst (0) dX9_lots_111 rfl ?_
                    refine st_19  (by omega) (by omega) dX9_lots_112 ?_
                    rw [s2_up]
                    refine r_inc1_6 dX9_lots_113 rfl ?_
                    refine r_goto 72 dX9_lots_116 rfl ?_
                    exact ih2
              exact INNER 0 (by omega)
        have h00 : lotV (σ 3) n z 0 w = 0 := by unfold lotV; split <;> rfl
        have := LOOP 0 (by omega) none (s2 σ 15 4 z 4)
        rw [h00] at this
        refine r_sub up_same.symm this
      · have he : eith w = false := (bi_eq0 _).mp h31
        refine r_aload_n dX9_lots_34 rfl ?_
        refine r_bipush (-2) dX9_lots_35 rfl ?_
        refine cV_i1 fX9_no rcv_18 lkX9_36 rfl dX9_lots_37 (sp_X9_no (Or.inr (Or.inl rfl)) ?_)
        refine r_ireturn rfl (by first | rfl | exact nar_bi _ | assumption) dX9_lots_40 ⟨_, rfl, ?_⟩
        exact Kr (-2) (by unfold vLot; rw [if_pos h0, he]; rfl) (by decide)
    · have h0 : outs m 1 20 = -6 := by unfold outs; rw [if_neg (Int32.not_lt.mpr h2), if_pos (Int32.not_le.mp h15)]
      refine r_aload_n dX9_lots_18 rfl ?_
      refine r_bipush (-6) dX9_lots_19 rfl ?_
      refine cV_i1 fX9_no rcv_18 lkX9_36 rfl dX9_lots_21 (sp_X9_no (Or.inr (Or.inr (Or.inr (Or.inr rfl)))) ?_)
      refine r_ireturn rfl (by first | rfl | exact nar_bi _ | assumption) dX9_lots_24 ⟨_, rfl, ?_⟩
      exact Kr (-6) (by unfold vLot; rw [h0]; rfl) (by decide)
  · have h0 : outs m 1 20 = -4 := by unfold outs; rw [if_pos (Int32.not_le.mp h2)]
    refine r_aload_n dX9_lots_5 rfl ?_
    refine r_bipush (-4) dX9_lots_6 rfl ?_
    refine cV_i1 fX9_no rcv_18 lkX9_36 rfl dX9_lots_8 (sp_X9_no (Or.inr (Or.inr (Or.inr (Or.inl rfl)))) ?_)
    refine r_ireturn rfl (by first | rfl | exact nar_bi _ | assumption) dX9_lots_11 ⟨_, rfl, ?_⟩
    exact Kr (-4) (by unfold vLot; rw [h0]; rfl) (by decide)
end LOTS
