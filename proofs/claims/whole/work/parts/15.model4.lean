/-! ===== the twin's statics: a day, days on, who is in, all tired ===== -/
section MODEL4
variable {E : EnvT} {σ : Sg} {Q : Int32 → Sg → Prop} {Qv : Sg → Prop}
theorem r_sub {E : EnvT} {Z : ZT} {M : MI} {pc : Nat} {L : List (Option Value)} {S : List Value} {σ τ : Sg} (h : σ = τ) (K : GW E Z M pc L S τ) : GW E Z M pc L S σ := by subst h; exact K
theorem upW_lo {r : Row} {p j : Nat} (hj : j < 3) : upW r p j = r j := by
  unfold upW upd
  rw [if_neg (by omega), if_neg (by omega)]
theorem payR_lo {r : Row} {n p j : Nat} (hj : j < 2) : payR r n p j = r j := by
  unfold payR
  cases fromW r n p with
  | none => rfl
  | some o =>
    dsimp only [upd]
    rw [if_neg (by omega), if_neg (by omega), mvd_0 (by omega)]
theorem wday_lo {u : Int32} {n : Nat} {r : Row} {p j : Nat} (hj : j < 2) : wday u n r p j = r j := by
  unfold wday
  split
  · unfold upd
    rw [if_neg (by omega)]
  · split
    · rw [payR_lo hj, upW_lo (by omega)]
    · rw [upW_lo (by omega)]
theorem wdays_lo {u : Int32} {n : Nat} {r : Row} {j : Nat} (hj : j < 2) : ∀ p, wdays u n r p j = r j
  | 0 => rfl
  | p + 1 => by rw [wdays, wday_lo hj, wdays_lo hj p]
theorem dayR_0 {u : Int32} {n : Nat} {r : Row} : dayR u n r 0 = r 0 := by
  unfold dayR
  rw [wdays_lo (by omega)]
  rfl
theorem dayR_1 {u : Int32} {n : Nat} {r : Row} : dayR u n r 1 = r 1 + 1 := by
  unfold dayR
  rw [wdays_lo (by omega)]
  rfl
theorem dayN_0 {u : Int32} {n : Nat} {r : Row} : ∀ k, dayN u n r k 0 = r 0
  | 0 => rfl
  | k + 1 => by rw [dayN, dayR_0, dayN_0 k]
theorem tb_of {b : Bool} (h : ¬ bi b = 0) : b = true := by
  cases b with
  | true => rfl
  | false => exact absurd rfl h
theorem sp_X9_day {a n : Nat} {u : Int32} (ha : 2 < a ∧ a < 7) (hn : σ a 0 = nI n) (hn6 : n ≤ 6) (K : Qv (va_up σ a (dayR u n (σ a)))) : Mv E mX9_day [.ref (ad E 19 a), .int u] σ Qv := by
  refine Mw_of (L0 := [some (.ref (ad E 19 a)), some (.int u), none, none]) pn_X9 rfl rfl (Nat.le_of_ble_eq_true rfl) ?_
  refine r_aload_n dX9_day_0 rfl ?_
  refine r_iconst (1) dX9_day_1 rfl ?_
  refine r_dup2 dX9_day_2 rfl rfl ?_
  refine ld_19 (t := 1)  (by omega) (by omega) dX9_day_3 ?_
  refine r_iconst (1) dX9_day_4 rfl ?_
  refine r_iadd dX9_day_5 ?_
  refine st_19 (t := 1)  (by omega) (by omega) dX9_day_6 ?_
  refine r_iconst (0) dX9_day_7 rfl ?_
  refine r_istore_n_2 dX9_day_8 rfl ?_
  have LOOP : ∀ k, k ≤ n → ∀ y, GW E (ZM E 5 fun v σ' => v = none ∧ Qv σ') mX9_day 9 [some (.ref (ad E 19 a)), some (.int u), some (.int (nI k)), y] [] (va_up σ a (wdays u n (upd (σ a) 1 (σ a 1 + 1)) k)) := by
    refine down ?_ ?_
    · intro y
      refine r_iload_n dX9_day_9 rfl ?_
      refine r_aload_n dX9_day_10 rfl ?_
      refine r_iconst (0) dX9_day_11 rfl ?_
      refine ld_19 (t := 0)  (by omega) (by omega) dX9_day_12 ?_
      rw [up_at, wdays_lo (by omega), show upd (σ a) 1 (σ a 1 + 1) 0 = nI n from hn]
      refine r_icmp_ge_N 163 dX9_day_13 rfl (by omega) (by omega) (fun h13 => ?_) (fun h13 => ?_)
      · refine r_return rfl dX9_day_163 ⟨rfl, ?_⟩
        exact K
      · exfalso; omega
    · intro k hk ih y
      obtain ⟨τ, hτ⟩ : ∃ τ, τ = va_up σ a (wdays u n (upd (σ a) 1 (σ a 1 + 1)) k) := ⟨_, rfl⟩
      have hn' : τ a 0 = nI n := by rw [hτ, up_at, wdays_lo (by omega)]; exact hn
      have e : va_up σ a (wdays u n (upd (σ a) 1 (σ a 1 + 1)) (k + 1)) = va_up τ a (wday u n (τ a) k) := by rw [hτ, up_at, up_up]; rfl
      rw [e] at ih
      rw [← hτ]
      clear e hτ
      unfold wday irm at ih
      refine r_iload_n dX9_day_9 rfl ?_
      refine r_aload_n dX9_day_10 rfl ?_
      refine r_iconst (0) dX9_day_11 rfl ?_
      refine ld_19 (t := 0)  (by omega) (by omega) dX9_day_12 ?_
      rw [hn']
      refine r_icmp_ge_N 163 dX9_day_13 rfl (by omega) (by omega) (fun h13 => ?_) (fun h13 => ?_)
      · exfalso; omega
      · refine r_aload_n dX9_day_16 rfl ?_
        refine r_iload_n dX9_day_17 rfl ?_
        refine r_iconst (2) dX9_day_18 rfl ?_
        refine cS_i2 fX9_of lkX9_44 rfl dX9_day_19 (sp_of2  ?_)
        refine ld_19  (by omega) (by omega) dX9_day_22 ?_
        refine r_aload_n dX9_day_23 rfl ?_
        refine r_iconst (1) dX9_day_24 rfl ?_
        refine ld_19 (t := 1)  (by omega) (by omega) dX9_day_25 ?_
        refine r_bipush (7) dX9_day_26 rfl ?_
        refine r_irem dX9_day_28 (by decide) ?_
        refine cS_i2 fX9_has lkX9_65 rfl dX9_day_29 (sp_X9_has  ?_)
        refine r_if_eq 69 dX9_day_32 rfl (fun h32 => ?_) (fun h32 => ?_)
        · have hb := (bi_eq0 _).mp h32
          rw [hb] at ih
          simp only [Bool.false_eq_true, if_false] at ih
          refine r_aload_n dX9_day_69 rfl ?_
          refine r_iload_n dX9_day_70 rfl ?_
          refine r_iconst (3) dX9_day_71 rfl ?_
          refine cS_i2 fX9_of lkX9_44 rfl dX9_day_72 (sp_of3  ?_)
          refine r_bipush (30) dX9_day_75 rfl ?_
          refine r_aload_n dX9_day_77 rfl ?_
          refine r_iload_n dX9_day_78 rfl ?_
          refine r_iconst (3) dX9_day_79 rfl ?_
          refine cS_i2 fX9_of lkX9_44 rfl dX9_day_80 (sp_of3  ?_)
          refine ld_19  (by omega) (by omega) dX9_day_83 ?_
          refine r_iconst (1) dX9_day_84 rfl ?_
          refine r_iadd dX9_day_85 ?_
          refine cS_i2 fX9_least lkX9_79 rfl dX9_day_86 (sp_X9_least  ?_)
          refine st_19  (by omega) (by omega) dX9_day_89 ?_
          refine r_aload_n dX9_day_90 rfl ?_
          refine r_iload_n dX9_day_91 rfl ?_
          refine r_iconst (4) dX9_day_92 rfl ?_
          refine cS_i2 fX9_of lkX9_44 rfl dX9_day_93 (sp_of4  ?_)
          refine r_bipush (9) dX9_day_96 rfl ?_
          refine r_aload_n dX9_day_98 rfl ?_
          refine r_iload_n dX9_day_99 rfl ?_
          refine r_iconst (4) dX9_day_100 rfl ?_
          refine cS_i2 fX9_of lkX9_44 rfl dX9_day_101 (sp_of4  ?_)
          refine ld_19  (by omega) (by omega) dX9_day_104 ?_
          refine r_iconst (1) dX9_day_105 rfl ?_
          refine r_iadd dX9_day_106 ?_
          refine cS_i2 fX9_least lkX9_79 rfl dX9_day_107 (sp_X9_least  ?_)
          refine st_19  (by omega) (by omega) dX9_day_110 ?_
          refine r_sub (τ := va_up τ a (upW (τ a) k)) (by simp only [s2, up_at, up_up, upW]) ?_
          have h0 : upW (τ a) k 0 = nI n := by rw [upW_lo (by omega)]; exact hn'
          generalize hρ : upW (τ a) k = ρ at ih h0 ⊢
          have h0' : (va_up τ a ρ) a 0 = nI n := by rw [up_at]; exact h0
          refine r_aload_n dX9_day_111 rfl ?_
          refine r_iload_n dX9_day_112 rfl ?_
          refine r_iconst (0) dX9_day_113 rfl ?_
          refine cS_i2 fX9_of lkX9_44 rfl dX9_day_114 (sp_of0  ?_)
          refine ld_19  (by omega) (by omega) dX9_day_117 ?_
          rw [up_at]
          refine r_aload_n dX9_day_118 rfl ?_
          refine r_iload_n dX9_day_119 rfl ?_
          refine r_iconst (1) dX9_day_120 rfl ?_
          refine cS_i2 fX9_of lkX9_44 rfl dX9_day_121 (sp_of1  ?_)
          refine ld_19  (by omega) (by omega) dX9_day_124 ?_
          rw [up_at]
          refine cS_i2 fX9_paidBehind lkX9_82 rfl dX9_day_125 (sp_X9_paidBehind  ?_)
          refine r_istore_n_3 dX9_day_128 rfl ?_
          refine r_iload_n dX9_day_129 rfl ?_
          refine r_if_le 157 dX9_day_130 rfl (fun h130 => ?_) (fun h130 => ?_)
          · have hp : payC u ρ k = false := by unfold payC; rw [decide_eq_false (Int32.not_lt.mpr h130)]; rfl
            rw [hp] at ih
            simp only [Bool.false_eq_true, if_false] at ih
            refine r_inc1_2 dX9_day_157 rfl ?_
            refine r_goto 9 dX9_day_160 rfl ?_
            exact ih _
          · refine r_aload_n dX9_day_133 rfl ?_
            refine r_iload_n dX9_day_134 rfl ?_
            refine r_iconst (4) dX9_day_135 rfl ?_
            refine cS_i2 fX9_of lkX9_44 rfl dX9_day_136 (sp_of4  ?_)
            refine ld_19  (by omega) (by omega) dX9_day_139 ?_
            rw [up_at]
            refine r_iload_n dX9_day_140 rfl ?_
            refine r_icmp_lt 157 dX9_day_141 rfl (fun h141 => ?_) (fun h141 => ?_)
            · have hp : payC u ρ k = false := by unfold payC; rw [decide_eq_false (p := _ ≤ ρ (7 + 5 * k)) (Int32.not_le.mpr h141), Bool.and_false]; rfl
              rw [hp] at ih
              simp only [Bool.false_eq_true, if_false] at ih
              refine r_inc1_2 dX9_day_157 rfl ?_
              refine r_goto 9 dX9_day_160 rfl ?_
              exact ih _
            · refine r_iload_n dX9_day_144 rfl ?_
              refine r_iload_n dX9_day_145 rfl ?_
              refine cS_i2 fX9_has lkX9_65 rfl dX9_day_146 (sp_X9_has  ?_)
              refine r_if_ne 157 dX9_day_149 rfl (fun h149 => ?_) (fun h149 => ?_)
              · have hp : payC u ρ k = false := by unfold payC; rw [tb_of h149]; simp
                rw [hp] at ih
                simp only [Bool.false_eq_true, if_false] at ih
                refine r_inc1_2 dX9_day_157 rfl ?_
                refine r_goto 9 dX9_day_160 rfl ?_
                exact ih _
              · have hp : payC u ρ k = true := by unfold payC; rw [decide_eq_true (Int32.not_le.mp h130), decide_eq_true (Int32.not_lt.mp h141), (bi_eq0 _).mp h149]; rfl
                rw [hp] at ih
                simp only [if_true] at ih
                refine r_aload_n dX9_day_152 rfl ?_
                refine r_iload_n dX9_day_153 rfl ?_
                refine cS_v2 fX9_isPaid lkX9_85 rfl dX9_day_154 (sp_X9_isPaid ha h0' hn6 hk ?_)
                rw [up_at, up_up]
                refine r_inc1_2 dX9_day_157 rfl ?_
                refine r_goto 9 dX9_day_160 rfl ?_
                exact ih _
        · have hb := tb_of h32
          rw [hb] at ih
          simp only [if_true] at ih
          refine r_aload_n dX9_day_35 rfl ?_
          refine r_iload_n dX9_day_36 rfl ?_
          refine r_iconst (3) dX9_day_37 rfl ?_
          refine cS_i2 fX9_of lkX9_44 rfl dX9_day_38 (sp_of3  ?_)
          refine r_aload_n dX9_day_41 rfl ?_
          refine r_iload_n dX9_day_42 rfl ?_
          refine r_iconst (3) dX9_day_43 rfl ?_
          refine cS_i2 fX9_of lkX9_44 rfl dX9_day_44 (sp_of3  ?_)
          refine ld_19  (by omega) (by omega) dX9_day_47 ?_
          refine r_iconst (2) dX9_day_48 rfl ?_
          refine r_icmp_ge 56 dX9_day_49 rfl (fun h49 => ?_) (fun h49 => ?_)
          · rw [if_neg (Int32.not_lt.mpr h49)] at ih
            refine r_aload_n dX9_day_56 rfl ?_
            refine r_iload_n dX9_day_57 rfl ?_
            refine r_iconst (3) dX9_day_58 rfl ?_
            refine cS_i2 fX9_of lkX9_44 rfl dX9_day_59 (sp_of3  ?_)
            refine ld_19  (by omega) (by omega) dX9_day_62 ?_
            refine r_iconst (2) dX9_day_63 rfl ?_
            refine r_isub dX9_day_64 ?_
            refine st_19  (by omega) (by omega) dX9_day_65 ?_
            refine r_goto 157 dX9_day_66 rfl ?_
            refine r_inc1_2 dX9_day_157 rfl ?_
            refine r_goto 9 dX9_day_160 rfl ?_
            exact ih _
          · rw [if_pos (Int32.not_le.mp h49)] at ih
            refine r_iconst (0) dX9_day_52 rfl ?_
            refine r_goto 65 dX9_day_53 rfl ?_
            refine st_19  (by omega) (by omega) dX9_day_65 ?_
            refine r_goto 157 dX9_day_66 rfl ?_
            refine r_inc1_2 dX9_day_157 rfl ?_
            refine r_goto 9 dX9_day_160 rfl ?_
            exact ih _
  exact LOOP 0 (by omega) _
theorem sp_X9_daysOn {a n m : Nat} (ha : 2 < a ∧ a < 7) (hn : σ a 0 = nI n) (hn6 : n ≤ 6) (hm : m < 1000) (K : Qv (va_up σ a (dayN 0 n (σ a) m))) : Mv E mX9_daysOn [.ref (ad E 19 a), .int (nI m)] σ Qv := by
  refine Mw_of (L0 := [some (.ref (ad E 19 a)), some (.int (nI m)), none]) pn_X9 rfl rfl (Nat.le_of_ble_eq_true rfl) ?_
  refine r_iconst (0) dX9_daysOn_0 rfl ?_
  refine r_istore_n_2 dX9_daysOn_1 rfl ?_
  have LOOP : ∀ k, k ≤ m → GW E (ZM E 6 fun v σ' => v = none ∧ Qv σ') mX9_daysOn 2 [some (.ref (ad E 19 a)), some (.int (nI m)), some (.int (nI k))] [] (va_up σ a (dayN 0 n (σ a) k)) := by
    refine down ?_ ?_
    · refine r_iload_n dX9_daysOn_2 rfl ?_
      refine r_iload_n dX9_daysOn_3 rfl ?_
      refine r_icmp_ge_N 18 dX9_daysOn_4 rfl (by omega) (by omega) (fun h4 => ?_) (fun h4 => ?_)
      · refine r_return rfl dX9_daysOn_18 ⟨rfl, ?_⟩
        exact K
      · exfalso; omega
    · intro k hk ih
      refine r_iload_n dX9_daysOn_2 rfl ?_
      refine r_iload_n dX9_daysOn_3 rfl ?_
      refine r_icmp_ge_N 18 dX9_daysOn_4 rfl (by omega) (by omega) (fun h4 => ?_) (fun h4 => ?_)
      · exfalso; omega
      · refine r_aload_n dX9_daysOn_7 rfl ?_
        refine r_iconst (0) dX9_daysOn_8 rfl ?_
        refine cS_v2 fX9_day lkX9_89 rfl dX9_daysOn_9 (sp_X9_day ha (by rw [up_at, dayN_0]; exact hn) hn6 ?_)
        rw [up_at, up_up]
        refine r_inc1_2 dX9_daysOn_12 rfl ?_
        refine r_goto 2 dX9_daysOn_15 rfl ?_
        exact ih
  refine r_sub ?_ (LOOP 0 (by omega))
  exact up_same.symm
theorem sp_X9_inOn {a n : Nat} {d : Int32} (ha : 2 < a ∧ a < 7) (hn : σ a 0 = nI n) (hn6 : n ≤ 6) (K : Q (inO (σ a) d n) σ) : Mi E mX9_inOn [.ref (ad E 19 a), .int d] σ Q := by
  refine Mw_of (L0 := [some (.ref (ad E 19 a)), some (.int d), none, none]) pn_X9 rfl rfl (Nat.le_of_ble_eq_true rfl) ?_
  refine r_iconst (0) dX9_inOn_0 rfl ?_
  refine r_istore_n_2 dX9_inOn_1 rfl ?_
  refine r_iconst (0) dX9_inOn_2 rfl ?_
  refine r_istore_n_3 dX9_inOn_3 rfl ?_
  have LOOP : ∀ k, k ≤ n → GW E (ZM E 1 fun v σ' => ∃ r, v = some (.int r) ∧ Q r σ') mX9_inOn 4 [some (.ref (ad E 19 a)), some (.int d), some (.int (inO (σ a) d k)), some (.int (nI k))] [] σ := by
    refine down ?_ ?_
    · refine r_iload_n dX9_inOn_4 rfl ?_
      refine r_aload_n dX9_inOn_5 rfl ?_
      refine r_iconst (0) dX9_inOn_6 rfl ?_
      refine ld_19 (t := 0)  (by omega) (by omega) dX9_inOn_7 ?_
      rw [hn]
      refine r_icmp_ge_N 41 dX9_inOn_8 rfl (by omega) (by omega) (fun h8 => ?_) (fun h8 => ?_)
      · refine r_iload_n dX9_inOn_41 rfl ?_
        refine r_ireturn rfl (by first | rfl | exact nar_bi _ | assumption) dX9_inOn_42 ⟨_, rfl, ?_⟩
        exact K
      · exfalso; omega
    · intro k hk ih
      rw [inO] at ih
      refine r_iload_n dX9_inOn_4 rfl ?_
      refine r_aload_n dX9_inOn_5 rfl ?_
      refine r_iconst (0) dX9_inOn_6 rfl ?_
      refine ld_19 (t := 0)  (by omega) (by omega) dX9_inOn_7 ?_
      rw [hn]
      refine r_icmp_ge_N 41 dX9_inOn_8 rfl (by omega) (by omega) (fun h8 => ?_) (fun h8 => ?_)
      · exfalso; omega
      · refine r_iload_n dX9_inOn_11 rfl ?_
        refine r_aload_n dX9_inOn_12 rfl ?_
        refine r_iload_n dX9_inOn_13 rfl ?_
        refine r_iconst (2) dX9_inOn_14 rfl ?_
        refine cS_i2 fX9_of lkX9_44 rfl dX9_inOn_15 (sp_of2  ?_)
        refine ld_19  (by omega) (by omega) dX9_inOn_18 ?_
        refine r_iload_n dX9_inOn_19 rfl ?_
        refine cS_i2 fX9_has lkX9_65 rfl dX9_inOn_20 (sp_X9_has  ?_)
        refine r_if_eq 30 dX9_inOn_23 rfl (fun h23 => ?_) (fun h23 => ?_)
        · rw [(bi_eq0 _).mp h23] at ih
          simp only [Bool.false_eq_true, if_false] at ih
          refine r_iconst (1) dX9_inOn_30 rfl ?_
          refine r_iload_n dX9_inOn_31 rfl ?_
          refine r_ishl dX9_inOn_32 ?_
          refine r_ior dX9_inOn_33 ?_
          refine r_istore_n_2 dX9_inOn_34 rfl ?_
          refine r_inc1_3 dX9_inOn_35 rfl ?_
          refine r_goto 4 dX9_inOn_38 rfl ?_
          exact ih
        · rw [tb_of h23] at ih
          simp only [if_true] at ih
          refine r_iconst (0) dX9_inOn_26 rfl ?_
          refine r_goto 33 dX9_inOn_27 rfl ?_
          refine r_ior dX9_inOn_33 ?_
          refine r_istore_n_2 dX9_inOn_34 rfl ?_
          refine r_inc1_3 dX9_inOn_35 rfl ?_
          refine r_goto 4 dX9_inOn_38 rfl ?_
          exact ih
  exact LOOP 0 (by omega)
theorem sp_X9_allTired {a n : Nat} (ha : 2 < a ∧ a < 7) (hn : σ a 0 = nI n) (hn6 : n ≤ 6) (K : Q (sumT (σ a) n) σ) : Mi E mX9_allTired [.ref (ad E 19 a)] σ Q := by
  refine Mw_of (L0 := [some (.ref (ad E 19 a)), none, none]) pn_X9 rfl rfl (Nat.le_of_ble_eq_true rfl) ?_
  refine r_iconst (0) dX9_allTired_0 rfl ?_
  refine r_istore_n_1 dX9_allTired_1 rfl ?_
  refine r_iconst (0) dX9_allTired_2 rfl ?_
  refine r_istore_n_2 dX9_allTired_3 rfl ?_
  have LOOP : ∀ k, k ≤ n → GW E (ZM E 1 fun v σ' => ∃ r, v = some (.int r) ∧ Q r σ') mX9_allTired 4 [some (.ref (ad E 19 a)), some (.int (sumT (σ a) k)), some (.int (nI k))] [] σ := by
    refine down ?_ ?_
    · refine r_iload_n dX9_allTired_4 rfl ?_
      refine r_aload_n dX9_allTired_5 rfl ?_
      refine r_iconst (0) dX9_allTired_6 rfl ?_
      refine ld_19 (t := 0)  (by omega) (by omega) dX9_allTired_7 ?_
      rw [hn]
      refine r_icmp_ge_N 27 dX9_allTired_8 rfl (by omega) (by omega) (fun h8 => ?_) (fun h8 => ?_)
      · refine r_iload_n dX9_allTired_27 rfl ?_
        refine r_ireturn rfl (by first | rfl | exact nar_bi _ | assumption) dX9_allTired_28 ⟨_, rfl, ?_⟩
        exact K
      · exfalso; omega
    · intro k hk ih
      refine r_iload_n dX9_allTired_4 rfl ?_
      refine r_aload_n dX9_allTired_5 rfl ?_
      refine r_iconst (0) dX9_allTired_6 rfl ?_
      refine ld_19 (t := 0)  (by omega) (by omega) dX9_allTired_7 ?_
      rw [hn]
      refine r_icmp_ge_N 27 dX9_allTired_8 rfl (by omega) (by omega) (fun h8 => ?_) (fun h8 => ?_)
      · exfalso; omega
      · refine r_iload_n dX9_allTired_11 rfl ?_
        refine r_aload_n dX9_allTired_12 rfl ?_
        refine r_iload_n dX9_allTired_13 rfl ?_
        refine r_iconst (3) dX9_allTired_14 rfl ?_
        refine cS_i2 fX9_of lkX9_44 rfl dX9_allTired_15 (sp_of3  ?_)
        refine ld_19  (by omega) (by omega) dX9_allTired_18 ?_
        refine r_iadd dX9_allTired_19 ?_
        refine r_istore_n_1 dX9_allTired_20 rfl ?_
        refine r_inc1_2 dX9_allTired_21 rfl ?_
        refine r_goto 4 dX9_allTired_24 rfl ?_
        exact ih
  exact LOOP 0 (by omega)
end MODEL4
