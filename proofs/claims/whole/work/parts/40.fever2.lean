/-! ===== fever ===== -/
section FEVER2
variable {E : EnvT} {σ : Sg} {Q : Int32 → Sg → Prop} {Ql : Int64 → Sg → Prop} {Qv : Sg → Prop}
def vFev (n : Nat) (p m t v w : Int32) : Int32 := if hasW p n then (if m < 0 ∨ v < 0 ∨ t < 2 then -4 else if 7 < m ∨ 20 < t ∨ 30 < v then -6 else if eith w then 0 else -2) else -1
theorem vFev_ref {n : Nat} {p m t v w : Int32} (h : ¬ vFev n p m t v w = 0) : isRef (vFev n p m t v w) := by
  unfold vFev at h ⊢
  split
  · rename_i h1
    rw [if_pos h1] at h
    split
    · exact Or.inr (Or.inr (Or.inr (Or.inl rfl)))
    · rename_i h2
      rw [if_neg h2] at h
      split
      · exact Or.inr (Or.inr (Or.inr (Or.inr rfl)))
      · rename_i h3
        rw [if_neg h3] at h
        split
        · rename_i h4
          rw [if_pos h4] at h
          exact absurd rfl h
        · exact Or.inr (Or.inl rfl)
  · exact Or.inl rfl
theorem vFev_ok {n : Nat} {p m t v w : Int32} (hn : n ≤ 6) (h : vFev n p m t v w = 0) : ∃ a j T V, a < n ∧ p = nI a ∧ j ≤ 7 ∧ m = nI j ∧ 2 ≤ T ∧ T ≤ 20 ∧ t = nI T ∧ V ≤ 30 ∧ v = nI V ∧ eith w = true := by
  unfold vFev at h
  split at h
  · rename_i h1
    split at h
    · exact absurd h (by decide)
    · rename_i h2
      split at h
      · exact absurd h (by decide)
      · rename_i h3
        split at h
        · rename_i h4
          have h2 := not_or.mp h2
          have h3 := not_or.mp h3
          have h2b := not_or.mp h2.2
          have h3b := not_or.mp h3.2
          obtain ⟨a, ha, ea⟩ := hasW_ex h1 hn
          obtain ⟨j, hj, ej⟩ := nI_of h2.1
          obtain ⟨V, hV, eV⟩ := nI_of h2b.1
          obtain ⟨T, hT, eT⟩ := nI_of (x := t) (fun q => h2b.2 (Int32.lt_trans q (by decide)))
          refine ⟨a, j, T, V, ha, ea, ?_, ej, ?_, ?_, eT, ?_, eV, h4⟩
          · have := Int32.not_lt.mp h3.1
            rw [ej] at this
            exact (nI_leI hj (by omega)).mp this
          · have := Int32.not_lt.mp h2b.2
            rw [eT] at this
            exact (nI_leI (a := 2) (by omega) hT).mp this
          · have := Int32.not_lt.mp h3b.1
            rw [eT] at this
            exact (nI_leI (b := 20) hT (by omega)).mp this
          · have := Int32.not_lt.mp h3b.2
            rw [eV] at this
            exact (nI_leI (b := 30) hV (by omega)).mp this
        · exact absurd h (by decide)
  · exact absurd h (by decide)
def fvu (s d : Nat) : Int32 := if tb (nI s) (nI d) then 63 else 0
def fevR (r : Row) (n s : Nat) : Nat → Row
  | 0 => r
  | d + 1 => dayR (fvu s d) n (fevR r n s d)
theorem fevR_WF {r : Row} {n s : Nat} (h : WF r n) : ∀ d, WF (fevR r n s d) n
  | 0 => h
  | d + 1 => dayR_WF (fevR_WF h d)
def wy (t s : Nat) : Nat → Nat
  | 0 => 1
  | d + 1 => if tb (nI s) (nI d) then wy t s d else wy t s d * (t - 1)
theorem wy_le {t s : Nat} (ht : t ≤ 20) : ∀ d, wy t s d ≤ 20 ^ d
  | 0 => Nat.le_refl 1
  | d + 1 => by
    have ih := wy_le (s := s) ht d
    rw [wy, Nat.pow_succ]
    split
    · omega
    · exact Nat.mul_le_mul ih (by omega)
def fsm (r : Row) (n a j t v : Nat) : Nat → Nat
  | 0 => 0
  | s + 1 => if fevR r n s j (6 + 5 * a) < nI v then fsm r n a j t v s else fsm r n a j t v s + wy t s j
theorem p207 {j : Nat} (hj : j ≤ 7) : 20 ^ j ≤ 1280000000 := Nat.le_trans (Nat.pow_le_pow_right (by decide) hj) (by decide)
theorem fsm_C {r : Row} {n a j t v C : Nat} (hC : ∀ s, wy t s j ≤ C) : ∀ s, fsm r n a j t v s ≤ s * C
  | 0 => Nat.zero_le _
  | s + 1 => by
    have ih := fsm_C (r := r) (n := n) (a := a) (v := v) hC s
    have hw := hC s
    have e : (s + 1) * C = s * C + C := Nat.succ_mul s C
    rw [fsm, e]
    split
    · exact Nat.le_trans ih (Nat.le_add_right _ _)
    · exact Nat.add_le_add ih hw
theorem fsm_le {r : Row} {n a j t v : Nat} (ht : t ≤ 20) (hj : j ≤ 7) (s : Nat) : fsm r n a j t v s ≤ s * 1280000000 := fsm_C (fun s => Nat.le_trans (wy_le (s := s) ht j) (p207 hj)) s
theorem tpow {t j : Nat} (h2 : 2 ≤ t) (ht : t ≤ 20) (hj : j ≤ 7) : 0 < t ^ j ∧ t ^ j < 2 ^ 31 := ⟨Nat.pow_pos (by omega), Nat.lt_of_le_of_lt (Nat.le_trans (Nat.pow_le_pow_left ht j) (p207 hj)) (by decide)⟩
theorem sp_X8_feverRefusal {n : Nat} {p m t v w : Int32} (hW : WF (σ 0) n) (K : Q (vFev n p m t v w) σ) : Mi E mX8_feverRefusal [.ref (ad E 0 0), .int p, .int m, .int t, .int v, .int w] σ Q := by
  unfold vFev at K
  have L4 : hasW p n = true → (m < 0 ∨ v < 0 ∨ t < 2) → GW E (ZM E 1 fun v σ' => ∃ r, v = some (.int r) ∧ Q r σ') mX8_feverRefusal 27 [some (.ref (ad E 0 0)), some (.int p), some (.int m), some (.int t), some (.int v), some (.int w)] [] σ := by
    intro h1 h2
    rw [if_pos h1, if_pos h2] at K
    refine r_bipush (-4) dX8_feverRefusal_27 rfl ?_
    refine r_ireturn rfl (by first | rfl | exact nar_bi _ | assumption) dX8_feverRefusal_29 ⟨_, rfl, ?_⟩
    exact K
  have L6 : hasW p n = true → ¬ (m < 0 ∨ v < 0 ∨ t < 2) → (7 < m ∨ 20 < t ∨ 30 < v) → GW E (ZM E 1 fun v σ' => ∃ r, v = some (.int r) ∧ Q r σ') mX8_feverRefusal 49 [some (.ref (ad E 0 0)), some (.int p), some (.int m), some (.int t), some (.int v), some (.int w)] [] σ := by
    intro h1 h2 h3
    rw [if_pos h1, if_neg h2, if_pos h3] at K
    refine r_bipush (-6) dX8_feverRefusal_49 rfl ?_
    refine r_ireturn rfl (by first | rfl | exact nar_bi _ | assumption) dX8_feverRefusal_51 ⟨_, rfl, ?_⟩
    exact K
  refine Mw_of (L0 := [some (.ref (ad E 0 0)), some (.int p), some (.int m), some (.int t), some (.int v), some (.int w)]) pn_X8 rfl rfl (Nat.le_of_ble_eq_true rfl) ?_
  refine r_aload_n dX8_feverRefusal_0 rfl ?_
  refine getX8_10 rfl dX8_feverRefusal_1 ?_
  refine r_iload_n dX8_feverRefusal_4 rfl ?_
  refine cVN_i1 fX1_has (rcv_1 (by omega)) lkX8_87 rfl dX8_feverRefusal_5 (sp_X1_has (by omega) hW.1 ?_)
  refine r_if_ne 13 dX8_feverRefusal_8 rfl (fun h8 => ?_) (fun h8 => ?_)
  · have hp := tb_of h8
    refine r_iload_n dX8_feverRefusal_13 rfl ?_
    refine r_if_lt 27 dX8_feverRefusal_14 rfl (fun h14 => ?_) (fun h14 => ?_)
    · exact L4 hp (Or.inl h14)
    · refine r_iload dX8_feverRefusal_17 rfl ?_
      refine r_if_lt 27 dX8_feverRefusal_19 rfl (fun h19 => ?_) (fun h19 => ?_)
      · exact L4 hp (Or.inr (Or.inl h19))
      · refine r_iload_n dX8_feverRefusal_22 rfl ?_
        refine r_iconst (2) dX8_feverRefusal_23 rfl ?_
        refine r_icmp_ge 30 dX8_feverRefusal_24 rfl (fun h24 => ?_) (fun h24 => ?_)
        · have hn4 : ¬ (m < 0 ∨ v < 0 ∨ t < 2) := fun q => by
            rcases q with q | q | q
            · exact h14 q
            · exact h19 q
            · exact absurd q (Int32.not_lt.mpr h24)
          refine r_iload_n dX8_feverRefusal_30 rfl ?_
          refine r_bipush (7) dX8_feverRefusal_31 rfl ?_
          refine r_icmp_gt 49 dX8_feverRefusal_33 rfl (fun h33 => ?_) (fun h33 => ?_)
          · exact L6 hp hn4 (Or.inl h33)
          · refine r_iload_n dX8_feverRefusal_36 rfl ?_
            refine r_bipush (20) dX8_feverRefusal_37 rfl ?_
            refine r_icmp_gt 49 dX8_feverRefusal_39 rfl (fun h39 => ?_) (fun h39 => ?_)
            · exact L6 hp hn4 (Or.inr (Or.inl h39))
            · refine r_iload dX8_feverRefusal_42 rfl ?_
              refine r_bipush (30) dX8_feverRefusal_44 rfl ?_
              refine r_icmp_le 52 dX8_feverRefusal_46 rfl (fun h46 => ?_) (fun h46 => ?_)
              · have hn6 : ¬ (7 < m ∨ 20 < t ∨ 30 < v) := fun q => by
                  rcases q with q | q | q
                  · exact h33 q
                  · exact h39 q
                  · exact absurd q (Int32.not_lt.mpr h46)
                rw [if_pos hp, if_neg hn4, if_neg hn6] at K
                refine r_iload dX8_feverRefusal_52 rfl ?_
                refine cS_i1 fX8_isEither lkX8_115 rfl dX8_feverRefusal_54 (sp_X8_isEither  ?_)
                refine r_if_eq 64 dX8_feverRefusal_57 rfl (fun h57 => ?_) (fun h57 => ?_)
                · have he : eith w = false := (bi_eq0 _).mp h57
                  rw [he] at K
                  refine r_bipush (-2) dX8_feverRefusal_64 rfl ?_
                  refine r_ireturn rfl (by first | rfl | exact nar_bi _ | assumption) dX8_feverRefusal_66 ⟨_, rfl, ?_⟩
                  exact K
                · have he : eith w = true := tb_of h57
                  rw [he] at K
                  refine r_iconst (0) dX8_feverRefusal_60 rfl ?_
                  refine r_goto 66 dX8_feverRefusal_61 rfl ?_
                  refine r_ireturn rfl (by first | rfl | exact nar_bi _ | assumption) dX8_feverRefusal_66 ⟨_, rfl, ?_⟩
                  exact K
              · exact L6 hp hn4 (Or.inr (Or.inr (Int32.not_le.mp h46)))
        · exact L4 hp (Or.inr (Or.inr (Int32.not_le.mp h24)))
  · refine r_iconst (-1) dX8_feverRefusal_11 rfl ?_
    refine r_ireturn rfl (by first | rfl | exact nar_bi _ | assumption) dX8_feverRefusal_12 ⟨_, rfl, ?_⟩
    rw [(bi_eq0 _).mp h8] at K
    exact K
theorem sp_X8_tiredByFevers {n a j s : Nat} (hW : WF (σ 0) n) (ha : a < 6) (hj : j ≤ 7) (K : ∀ r1, Q (fevR (σ 0) n s j (6 + 5 * a)) (va_up σ 1 r1)) : Mi E mX8_tiredByFevers [.ref (ad E 0 0), .int (nI a), .int (nI j), .int (nI s)] σ Q := by
  refine Mw_of (L0 := [some (.ref (ad E 0 0)), some (.int (nI a)), some (.int (nI j)), some (.int (nI s)), none]) pn_X8 rfl rfl (Nat.le_of_ble_eq_true rfl) ?_
  refine r_aload_n dX8_tiredByFevers_0 rfl ?_
  refine getX8_16 rfl dX8_tiredByFevers_1 ?_
  refine r_aload_n dX8_tiredByFevers_4 rfl ?_
  refine getX8_10 rfl dX8_tiredByFevers_5 ?_
  refine cVN_v1 fX1_become (rcv_1 (by omega)) lkX8_63 rfl dX8_tiredByFevers_8 (sp_X1_become (by omega) (by omega) (by omega) ?_)
  refine r_iconst (0) dX8_tiredByFevers_11 rfl ?_
  refine r_istore_4 dX8_tiredByFevers_12 rfl ?_
  have LOOP : ∀ k, k ≤ j → GW E (ZM E 4 fun v σ' => ∃ r, v = some (.int r) ∧ Q r σ') mX8_tiredByFevers 14 [some (.ref (ad E 0 0)), some (.int (nI a)), some (.int (nI j)), some (.int (nI s)), some (.int (nI k))] [] (va_up σ 1 (fevR (σ 0) n s k)) := by
    refine down ?_ ?_
    · refine r_iload dX8_tiredByFevers_14 rfl ?_
      refine r_iload_n dX8_tiredByFevers_16 rfl ?_
      refine r_icmp_ge_N 50 dX8_tiredByFevers_17 rfl (by omega) (by omega) (fun h17 => ?_) (fun h17 => ?_)
      · refine r_aload_n dX8_tiredByFevers_50 rfl ?_
        refine getX8_16 rfl dX8_tiredByFevers_51 ?_
        refine getX8_100 (by omega) rfl dX8_tiredByFevers_54 ?_
        refine r_iload_n dX8_tiredByFevers_57 rfl ?_
        refine ld_12  (by omega) (by omega) dX8_tiredByFevers_58 ?_
        rw [up_at]
        refine r_ireturn rfl (by first | rfl | exact nar_bi _ | assumption) dX8_tiredByFevers_59 ⟨_, rfl, ?_⟩
        exact K _
      · exfalso; omega
    · intro k hk ih
      rw [fevR, fvu] at ih
      refine r_iload dX8_tiredByFevers_14 rfl ?_
      refine r_iload_n dX8_tiredByFevers_16 rfl ?_
      refine r_icmp_ge_N 50 dX8_tiredByFevers_17 rfl (by omega) (by omega) (fun h17 => ?_) (fun h17 => ?_)
      · exfalso; omega
      · refine r_aload_n dX8_tiredByFevers_20 rfl ?_
        refine getX8_16 rfl dX8_tiredByFevers_21 ?_
        refine r_iconst (1) dX8_tiredByFevers_24 rfl ?_
        refine r_iload_n dX8_tiredByFevers_25 rfl ?_
        refine r_iload dX8_tiredByFevers_26 rfl ?_
        refine cS_i2 fX8_hasBit lkX8_262 rfl dX8_tiredByFevers_28 (sp_X8_hasBit  ?_)
        refine r_if_eq 39 dX8_tiredByFevers_31 rfl (fun h31 => ?_) (fun h31 => ?_)
        · rw [(bi_eq0 _).mp h31] at ih
          simp only [Bool.false_eq_true, if_false] at ih
          refine r_iconst (0) dX8_tiredByFevers_39 rfl ?_
          refine cVN_i2 fX1_passDays (rcv_1 (by omega)) lkX8_151 rfl dX8_tiredByFevers_40 (sp_X1_passDays (m := 1) (by omega) (by rw [up_at]; exact fevR_WF hW k) (by omega) ?_)
          rw [up_at, up_up]
          refine r_pop dX8_tiredByFevers_43 rfl ?_
          refine r_inc1_4 dX8_tiredByFevers_44 rfl ?_
          refine r_goto 14 dX8_tiredByFevers_47 rfl ?_
          exact ih
        · rw [tb_of h31] at ih
          simp only [if_true] at ih
          refine r_bipush (63) dX8_tiredByFevers_34 rfl ?_
          refine r_goto 40 dX8_tiredByFevers_36 rfl ?_
          refine cVN_i2 fX1_passDays (rcv_1 (by omega)) lkX8_151 rfl dX8_tiredByFevers_40 (sp_X1_passDays (m := 1) (by omega) (by rw [up_at]; exact fevR_WF hW k) (by omega) ?_)
          rw [up_at, up_up]
          refine r_pop dX8_tiredByFevers_43 rfl ?_
          refine r_inc1_4 dX8_tiredByFevers_44 rfl ?_
          refine r_goto 14 dX8_tiredByFevers_47 rfl ?_
          exact ih
  exact LOOP 0 (by omega)
theorem t1 {t : Nat} (h2 : 2 ≤ t) (ht : t ≤ 20) : (nI t - 1).toInt64 = lN (t - 1) := by
  rw [show nI t - 1 = nI (t - 1) from pk_sub (b := 1) (by omega), nI_l (by omega)]
theorem sp_X8_waysOfFevers {j s t : Nat} (hj : j ≤ 7) (h2 : 2 ≤ t) (ht : t ≤ 20) (K : Ql (lN (wy t s j)) σ) : Ml E mX8_waysOfFevers [.int (nI j), .int (nI s), .int (nI t)] σ Ql := by
  refine Mw_of (L0 := [some (.int (nI j)), some (.int (nI s)), some (.int (nI t)), none, none, none]) pn_X8 rfl rfl (Nat.le_of_ble_eq_true rfl) ?_
  refine r_lconst (1) dX8_waysOfFevers_0 rfl ?_
  refine r_lstore_n_3 dX8_waysOfFevers_1 rfl ?_
  refine r_iconst (0) dX8_waysOfFevers_2 rfl ?_
  refine r_istore_5 dX8_waysOfFevers_3 rfl ?_
  have LOOP : ∀ k, k ≤ j → GW E (ZM E 1 fun v σ' => ∃ r, v = some (.long r) ∧ Ql r σ') mX8_waysOfFevers 5 [some (.int (nI j)), some (.int (nI s)), some (.int (nI t)), some (.long (lN (wy t s k))), none, some (.int (nI k))] [] σ := by
    refine down ?_ ?_
    · refine r_iload dX8_waysOfFevers_5 rfl ?_
      refine r_iload_n dX8_waysOfFevers_7 rfl ?_
      refine r_icmp_ge_N 33 dX8_waysOfFevers_8 rfl (by omega) (by omega) (fun h8 => ?_) (fun h8 => ?_)
      · refine r_lload_n dX8_waysOfFevers_33 rfl ?_
        refine r_lreturn rfl dX8_waysOfFevers_34 ⟨_, rfl, ?_⟩
        exact K
      · exfalso; omega
    · intro k hk ih
      rw [wy] at ih
      refine r_iload dX8_waysOfFevers_5 rfl ?_
      refine r_iload_n dX8_waysOfFevers_7 rfl ?_
      refine r_icmp_ge_N 33 dX8_waysOfFevers_8 rfl (by omega) (by omega) (fun h8 => ?_) (fun h8 => ?_)
      · exfalso; omega
      · refine r_iload_n dX8_waysOfFevers_11 rfl ?_
        refine r_iload dX8_waysOfFevers_12 rfl ?_
        refine cS_i2 fX8_hasBit lkX8_262 rfl dX8_waysOfFevers_14 (sp_X8_hasBit  ?_)
        refine r_if_ne 27 dX8_waysOfFevers_17 rfl (fun h17 => ?_) (fun h17 => ?_)
        · rw [tb_of h17] at ih
          simp only [if_true] at ih
          refine r_inc1_5 dX8_waysOfFevers_27 rfl ?_
          refine r_goto 5 dX8_waysOfFevers_30 rfl ?_
          exact ih
        · rw [(bi_eq0 _).mp h17] at ih
          simp only [Bool.false_eq_true, if_false] at ih
          refine r_lload_n dX8_waysOfFevers_20 rfl ?_
          refine r_iload_n dX8_waysOfFevers_21 rfl ?_
          refine r_iconst (1) dX8_waysOfFevers_22 rfl ?_
          refine r_isub dX8_waysOfFevers_23 ?_
          refine r_i2l dX8_waysOfFevers_24 ?_
          rw [t1 h2 ht]
          refine r_lmul dX8_waysOfFevers_25 ?_
          rw [lN_mul]
          refine r_lstore_n_3 dX8_waysOfFevers_26 rfl ?_
          refine r_inc1_5 dX8_waysOfFevers_27 rfl ?_
          refine r_goto 5 dX8_waysOfFevers_30 rfl ?_
          exact ih
  exact LOOP 0 (by omega)
def fevV (r : Row) (n a j t v : Nat) (w : Int32) : Int64 := prt (fsm r n a j t v (2 ^ j)) (t ^ j) w
theorem sh7 {n : Nat} (hn : n ≤ 7) : (1 : Int32) <<< (nI n &&& 31) = nI (2 ^ n) := by
  have := pk_shlN (n := 1) (nI n &&& 31) n (s_l n (by omega)) (by
    have : 2 ^ n ≤ 2 ^ 7 := Nat.pow_le_pow_right (by decide) hn
    omega)
  rw [Nat.one_mul] at this
  exact this
theorem sp_X8_fever {n : Nat} {p m t v w : Int32} (hW : WF (σ 0) n) (Kr : ∀ c, vFev n p m t v w = c → ¬ c = 0 → Ql (WIDE - c.toInt64) (rfs σ 9 c)) (K : ∀ a j T V, a < n → p = nI a → j ≤ 7 → m = nI j → 2 ≤ T → T ≤ 20 → t = nI T → V ≤ 30 → v = nI V → eith w = true → vFev n p m t v w = 0 → ∀ r1, Ql (fevV (σ 0) n a j T V w) (va_up σ 1 r1)) : Ml E mX8_fever [.ref (ad E 0 0), .int p, .int m, .int t, .int v, .int w] σ Ql := by
  have hn6 := hW.2.1
  refine Mw_of (L0 := [some (.ref (ad E 0 0)), some (.int p), some (.int m), some (.int t), some (.int v), some (.int w), none, none, none, none, none, none]) pn_X8 rfl rfl (Nat.le_of_ble_eq_true rfl) ?_
  refine r_aload_n dX8_fever_0 rfl ?_
  refine r_iload_n dX8_fever_1 rfl ?_
  refine r_iload_n dX8_fever_2 rfl ?_
  refine r_iload_n dX8_fever_3 rfl ?_
  refine r_iload dX8_fever_4 rfl ?_
  refine r_iload dX8_fever_6 rfl ?_
  refine cV_i5 fX8_feverRefusal rcv_0 lkX8_223 rfl dX8_fever_8 (sp_X8_feverRefusal hW ?_)
  refine r_istore_6 dX8_fever_11 rfl ?_
  refine r_iload dX8_fever_13 rfl ?_
  refine r_if_eq 25 dX8_fever_15 rfl (fun h15 => ?_) (fun h15 => ?_)
  · obtain ⟨a, j, T, V, ha, ea, hj, ej, hT2, hT, eT, hV, eV, hw⟩ := vFev_ok hn6 h15
    have K := K a j T V ha ea hj ej hT2 hT eT hV eV hw h15
    rw [ea, ej, eT, eV] at h15 ⊢
    unfold fevV at K
    have h128 : 2 ^ j ≤ 2 ^ 7 := Nat.pow_le_pow_right (by decide) hj
    have hsh := sh7 hj
    generalize hN : 2 ^ j = N at K h128 hsh
    obtain ⟨tp0, tp1⟩ := tpow hT2 hT hj
    refine r_lconst (1) dX8_fever_25 rfl ?_
    refine r_lstore_7 dX8_fever_26 rfl ?_
    refine r_iconst (0) dX8_fever_28 rfl ?_
    refine r_istore_9 dX8_fever_29 rfl ?_
    have LOOP : ∀ k, k ≤ j → GW E (ZM E 5 fun v σ' => ∃ r, v = some (.long r) ∧ Ql r σ') mX8_fever 31 [some (.ref (ad E 0 0)), some (.int (nI a)), some (.int (nI j)), some (.int (nI T)), some (.int (nI V)), some (.int w), some (.int (vFev n (nI a) (nI j) (nI T) (nI V) w)), some (.long (lN (T ^ k))), none, some (.int (nI k)), none, none] [] σ := by
      refine down ?_ ?_
      · refine r_iload dX8_fever_31 rfl ?_
        refine r_iload_n dX8_fever_33 rfl ?_
        refine r_icmp_ge_N 50 dX8_fever_34 rfl (by omega) (by omega) (fun h34 => ?_) (fun h34 => ?_)
        · refine r_lconst (0) dX8_fever_50 rfl ?_
          refine r_lstore_9 dX8_fever_51 rfl ?_
          refine r_iconst (0) dX8_fever_53 rfl ?_
          refine r_istore_11 dX8_fever_54 rfl ?_
          have LOOP2 : ∀ s, s ≤ N → ∀ r1, GW E (ZM E 5 fun v σ' => ∃ r, v = some (.long r) ∧ Ql r σ') mX8_fever 56 [some (.ref (ad E 0 0)), some (.int (nI a)), some (.int (nI j)), some (.int (nI T)), some (.int (nI V)), some (.int w), some (.int (vFev n (nI a) (nI j) (nI T) (nI V) w)), some (.long (lN (T ^ j))), none, some (.long (lN (fsm (σ 0) n a j T V s))), none, some (.int (nI s))] [] (va_up σ 1 r1) := by
            refine down ?_ ?_
            · intro r1
              have hfs := fsm_le (r := σ 0) (n := n) (a := a) (v := V) hT hj N
              refine r_iload dX8_fever_56 rfl ?_
              refine r_iconst (1) dX8_fever_58 rfl ?_
              refine r_iload_n dX8_fever_59 rfl ?_
              refine r_ishl dX8_fever_60 ?_
              rw [hsh]
              refine r_icmp_ge_N 95 dX8_fever_61 rfl (by omega) (by omega) (fun h61 => ?_) (fun h61 => ?_)
              · refine r_lload dX8_fever_95 rfl ?_
                refine r_lload dX8_fever_97 rfl ?_
                refine r_iload dX8_fever_99 rfl ?_
                refine cS_l3 fX8_partOf lkX8_238 rfl dX8_fever_101 (sp_X8_partOf (by omega) tp0 tp1 ?_)
                refine r_lreturn rfl dX8_fever_104 ⟨_, rfl, ?_⟩
                exact K _
              · exfalso; omega
            · intro s hs ih r1
              have e0 : (va_up σ 1 r1) 0 = σ 0 := up_ne (by omega)
              rw [fsm] at ih
              refine r_iload dX8_fever_56 rfl ?_
              refine r_iconst (1) dX8_fever_58 rfl ?_
              refine r_iload_n dX8_fever_59 rfl ?_
              refine r_ishl dX8_fever_60 ?_
              rw [hsh]
              refine r_icmp_ge_N 95 dX8_fever_61 rfl (by omega) (by omega) (fun h61 => ?_) (fun h61 => ?_)
              · exfalso; omega
              · refine r_aload_n dX8_fever_64 rfl ?_
                refine r_iload_n dX8_fever_65 rfl ?_
                refine r_iload_n dX8_fever_66 rfl ?_
                refine r_iload dX8_fever_67 rfl ?_
                refine cV_i3 fX8_tiredByFevers rcv_0 lkX8_231 rfl dX8_fever_69 (sp_X8_tiredByFevers (by rw [e0]; exact hW) (by omega) hj (fun r2 => ?_))
                rw [e0, up_up]
                refine r_iload dX8_fever_72 rfl ?_
                refine r_icmp_lt 89 dX8_fever_74 rfl (fun h74 => ?_) (fun h74 => ?_)
                · rw [if_pos h74] at ih
                  refine r_inc1_11 dX8_fever_89 rfl ?_
                  refine r_goto 56 dX8_fever_92 rfl ?_
                  exact ih _
                · rw [if_neg h74] at ih
                  refine r_lload dX8_fever_77 rfl ?_
                  refine r_iload_n dX8_fever_79 rfl ?_
                  refine r_iload dX8_fever_80 rfl ?_
                  refine r_iload_n dX8_fever_82 rfl ?_
                  refine cS_l3 fX8_waysOfFevers lkX8_234 rfl dX8_fever_83 (sp_X8_waysOfFevers hj hT2 hT ?_)
                  refine r_ladd dX8_fever_86 ?_
                  rw [lN_add]
                  refine r_lstore_9 dX8_fever_87 rfl ?_
                  refine r_inc1_11 dX8_fever_89 rfl ?_
                  refine r_goto 56 dX8_fever_92 rfl ?_
                  exact ih _
          refine r_sub up_same.symm (LOOP2 0 (by omega) _)
        · exfalso; omega
      · intro k hk ih
        refine r_iload dX8_fever_31 rfl ?_
        refine r_iload_n dX8_fever_33 rfl ?_
        refine r_icmp_ge_N 50 dX8_fever_34 rfl (by omega) (by omega) (fun h34 => ?_) (fun h34 => ?_)
        · exfalso; omega
        · refine r_lload dX8_fever_37 rfl ?_
          refine r_iload_n dX8_fever_39 rfl ?_
          refine r_i2l dX8_fever_40 ?_
          rw [nI_l (by omega)]
          refine r_lmul dX8_fever_41 ?_
          rw [lN_mul, ← Nat.pow_succ]
          refine r_lstore_7 dX8_fever_42 rfl ?_
          refine r_inc1_9 dX8_fever_44 rfl ?_
          refine r_goto 31 dX8_fever_47 rfl ?_
          exact ih
    exact LOOP 0 (by omega)
  · refine r_aload_n dX8_fever_18 rfl ?_
    refine r_iload dX8_fever_19 rfl ?_
    refine cV_l1 fX8_refuseLong rcv_0 lkX8_227 rfl dX8_fever_21 (sp_X8_refuseLong (vFev_ref h15) ?_)
    refine r_lreturn rfl dX8_fever_24 ⟨_, rfl, ?_⟩
    exact Kr _ rfl h15
theorem wday_cu {u u' : Int32} {n : Nat} {r : Row} {p : Nat} (h : tb u (nI p) = tb u' (nI p)) : wday u n r p = wday u' n r p := by
  unfold wday payC
  rw [h]
theorem wdays_cu {u u' : Int32} {n : Nat} {r : Row} (h : ∀ p, p < 6 → tb u (nI p) = tb u' (nI p)) : ∀ p, p ≤ 6 → wdays u n r p = wdays u' n r p
  | 0, _ => rfl
  | p + 1, hp => by
    rw [wdays, wdays, wdays_cu h p (by omega), wday_cu (h p (by omega))]
theorem tb_m1 {p : Nat} (hp : p < 6) : tb (-1) (nI p) = true := by rw [tb_bt _ (by omega)]; exact b_m1 p (by omega)
theorem dayR_m1 {n : Nat} {r : Row} (hn : n ≤ 6) : dayR (-1) n r = dayR 63 n r := wdays_cu (fun p hp => by rw [tb_m1 hp, tb_63 hp]) n hn
theorem sp_X9_fever {n : Nat} {p m t v w : Int32} (hW : WF (σ 3) n) (Kr : ∀ c, vFev n p m t v w = c → ¬ c = 0 → Ql (WIDE - c.toInt64) (rfs σ 13 c)) (K : ∀ a j T V, a < n → p = nI a → j ≤ 7 → m = nI j → 2 ≤ T → T ≤ 20 → t = nI T → V ≤ 30 → v = nI V → eith w = true → vFev n p m t v w = 0 → ∀ r1, Ql (fevV (σ 3) n a j T V w) (va_up σ 4 r1)) : Ml E mX9_fever [.ref (ad E 18 0), .int p, .int m, .int t, .int v, .int w] σ Ql := by
  have hn6 := hW.2.1
  have L4 : hasW p n = true → (m < 0 ∨ v < 0 ∨ t < 2) → ∀ y6 y7 y8 y9 y10 y11 y12 y13, GW E (ZM E 6 fun v σ' => ∃ r, v = some (.long r) ∧ Ql r σ') mX9_fever 28 [some (.ref (ad E 18 0)), some (.int p), some (.int m), some (.int t), some (.int v), some (.int w), y6, y7, y8, y9, y10, y11, y12, y13] [] σ := by
    intro h1 h2 y6 y7 y8 y9 y10 y11 y12 y13
    refine r_aload_n dX9_fever_28 rfl ?_
    refine r_bipush (-4) dX9_fever_29 rfl ?_
    refine cV_l1 fX9_noWide rcv_18 lkX9_184 rfl dX9_fever_31 (sp_X9_noWide (Or.inr (Or.inr (Or.inr (Or.inl rfl)))) ?_)
    refine r_lreturn rfl dX9_fever_34 ⟨_, rfl, ?_⟩
    exact Kr (-4) (by unfold vFev; rw [if_pos h1, if_pos h2]) (by decide)
  have L6 : hasW p n = true → ¬ (m < 0 ∨ v < 0 ∨ t < 2) → (7 < m ∨ 20 < t ∨ 30 < v) → ∀ y6 y7 y8 y9 y10 y11 y12 y13, GW E (ZM E 6 fun v σ' => ∃ r, v = some (.long r) ∧ Ql r σ') mX9_fever 54 [some (.ref (ad E 18 0)), some (.int p), some (.int m), some (.int t), some (.int v), some (.int w), y6, y7, y8, y9, y10, y11, y12, y13] [] σ := by
    intro h1 h2 h3 y6 y7 y8 y9 y10 y11 y12 y13
    refine r_aload_n dX9_fever_54 rfl ?_
    refine r_bipush (-6) dX9_fever_55 rfl ?_
    refine cV_l1 fX9_noWide rcv_18 lkX9_184 rfl dX9_fever_57 (sp_X9_noWide (Or.inr (Or.inr (Or.inr (Or.inr rfl)))) ?_)
    refine r_lreturn rfl dX9_fever_60 ⟨_, rfl, ?_⟩
    exact Kr (-6) (by unfold vFev; rw [if_pos h1, if_neg h2, if_pos h3]) (by decide)
  refine Mw_of (L0 := [some (.ref (ad E 18 0)), some (.int p), some (.int m), some (.int t), some (.int v), some (.int w), none, none, none, none, none, none, none, none]) pn_X9 rfl rfl (Nat.le_of_ble_eq_true rfl) ?_
  refine r_aload_n dX9_fever_0 rfl ?_
  refine r_iload_n dX9_fever_1 rfl ?_
  refine cV_i1 fX9_isWorker rcv_18 lkX9_113 rfl dX9_fever_2 (sp_X9_isWorker hW.1 hn6 ?_)
  refine r_if_ne 14 dX9_fever_5 rfl (fun h5 => ?_) (fun h5 => ?_)
  · have hp := tb_of h5
    refine r_iload_n dX9_fever_14 rfl ?_
    refine r_if_lt 28 dX9_fever_15 rfl (fun h15 => ?_) (fun h15 => ?_)
    · exact L4 hp (Or.inl h15) _ _ _ _ _ _ _ _
    · refine r_iload dX9_fever_18 rfl ?_
      refine r_if_lt 28 dX9_fever_20 rfl (fun h20 => ?_) (fun h20 => ?_)
      · exact L4 hp (Or.inr (Or.inl h20)) _ _ _ _ _ _ _ _
      · refine r_iload_n dX9_fever_23 rfl ?_
        refine r_iconst (2) dX9_fever_24 rfl ?_
        refine r_icmp_ge 35 dX9_fever_25 rfl (fun h25 => ?_) (fun h25 => ?_)
        · have hn4 : ¬ (m < 0 ∨ v < 0 ∨ t < 2) := fun q => by
            rcases q with q | q | q
            · exact h15 q
            · exact h20 q
            · exact absurd q (Int32.not_lt.mpr h25)
          refine r_iload_n dX9_fever_35 rfl ?_
          refine r_bipush (7) dX9_fever_36 rfl ?_
          refine r_icmp_gt 54 dX9_fever_38 rfl (fun h38 => ?_) (fun h38 => ?_)
          · exact L6 hp hn4 (Or.inl h38) _ _ _ _ _ _ _ _
          · refine r_iload_n dX9_fever_41 rfl ?_
            refine r_bipush (20) dX9_fever_42 rfl ?_
            refine r_icmp_gt 54 dX9_fever_44 rfl (fun h44 => ?_) (fun h44 => ?_)
            · exact L6 hp hn4 (Or.inr (Or.inl h44)) _ _ _ _ _ _ _ _
            · refine r_iload dX9_fever_47 rfl ?_
              refine r_bipush (30) dX9_fever_49 rfl ?_
              refine r_icmp_le 61 dX9_fever_51 rfl (fun h51 => ?_) (fun h51 => ?_)
              · have hn60 : ¬ (7 < m ∨ 20 < t ∨ 30 < v) := fun q => by
                  rcases q with q | q | q
                  · exact h38 q
                  · exact h44 q
                  · exact absurd q (Int32.not_lt.mpr h51)
                refine r_iload dX9_fever_61 rfl ?_
                refine r_iconst (0) dX9_fever_63 rfl ?_
                refine r_iconst (1) dX9_fever_64 rfl ?_
                refine cS_i3 fX9_isIn lkX9_40 rfl dX9_fever_65 (sp_X9_isIn  ?_)
                rw [eith_e]
                refine r_if_ne 78 dX9_fever_68 rfl (fun h68 => ?_) (fun h68 => ?_)
                · have hw : eith w = true := tb_of h68
                  have hv : vFev n p m t v w = 0 := by unfold vFev; rw [if_pos hp, if_neg hn4, if_neg hn60, hw]; rfl
                  obtain ⟨a, j, T, V, ha, ea, hj, ej, hT2, hT, eT, hV, eV, -⟩ := vFev_ok hn6 hv
                  have K := K a j T V ha ea hj ej hT2 hT eT hV eV hw hv
                  rw [ea, ej, eT, eV]
                  unfold fevV at K
                  have h128 : 2 ^ j ≤ 2 ^ 7 := Nat.pow_le_pow_right (by decide) hj
                  have hsh := sh7 hj
                  generalize hN : 2 ^ j = N at K h128 hsh
                  obtain ⟨tp0, tp1⟩ := tpow hT2 hT hj
                  refine r_lconst (0) dX9_fever_78 rfl ?_
                  refine r_lstore_6 dX9_fever_79 rfl ?_
                  refine r_lconst (1) dX9_fever_81 rfl ?_
                  refine r_lstore_8 dX9_fever_82 rfl ?_
                  refine r_iconst (0) dX9_fever_84 rfl ?_
                  refine r_istore_10 dX9_fever_85 rfl ?_
                  have LOOP : ∀ k, k ≤ j → GW E (ZM E 6 fun v σ' => ∃ r, v = some (.long r) ∧ Ql r σ') mX9_fever 87 [some (.ref (ad E 18 0)), some (.int (nI a)), some (.int (nI j)), some (.int (nI T)), some (.int (nI V)), some (.int w), some (.long 0), none, some (.long (lN (T ^ k))), none, some (.int (nI k)), none, none, none] [] σ := by
                    refine down ?_ ?_
                    · refine r_iload dX9_fever_87 rfl ?_
                      refine r_iload_n dX9_fever_89 rfl ?_
                      refine r_icmp_ge_N 106 dX9_fever_90 rfl (by omega) (by omega) (fun h90 => ?_) (fun h90 => ?_)
                      · refine r_iconst (0) dX9_fever_106 rfl ?_
                        refine r_istore_10 dX9_fever_107 rfl ?_
                        have LOOP2 : ∀ s, s ≤ N → ∀ y11 y12 y13 r1, GW E (ZM E 6 fun v σ' => ∃ r, v = some (.long r) ∧ Ql r σ') mX9_fever 109 [some (.ref (ad E 18 0)), some (.int (nI a)), some (.int (nI j)), some (.int (nI T)), some (.int (nI V)), some (.int w), some (.long (lN (fsm (σ 3) n a j T V s))), none, some (.long (lN (T ^ j))), none, some (.int (nI s)), y11, y12, y13] [] (va_up σ 4 r1) := by
                          refine down ?_ ?_
                          · intro y11 y12 y13 r1
                            have hfs := fsm_le (r := σ 3) (n := n) (a := a) (v := V) hT hj N
                            generalize fsm (σ 3) n a j T V N = F at hfs K ⊢
                            refine r_iload dX9_fever_109 rfl ?_
                            refine r_iconst (1) dX9_fever_111 rfl ?_
                            refine r_iload_n dX9_fever_112 rfl ?_
                            refine r_ishl dX9_fever_113 ?_
                            rw [hsh]
                            refine r_icmp_ge_N 223 dX9_fever_114 rfl (by omega) (by omega) (fun h114 => ?_) (fun h114 => ?_)
                            · by_cases hF : F = 0
                              · rw [hF] at K ⊢
                                rw [prt_0 tp0 hw] at K
                                refine r_lload dX9_fever_223 rfl ?_
                                refine r_lload dX9_fever_225 rfl ?_
                                refine r_iload dX9_fever_227 rfl ?_
                                refine cS_l3 fX9_partOf lkX9_188 rfl dX9_fever_229 (sp_X9_partOf0  ?_)
                                refine r_lreturn rfl dX9_fever_232 ⟨_, rfl, ?_⟩
                                exact K _
                              · refine r_lload dX9_fever_223 rfl ?_
                                refine r_lload dX9_fever_225 rfl ?_
                                refine r_iload dX9_fever_227 rfl ?_
                                refine cS_l3 fX9_partOf lkX9_188 rfl dX9_fever_229 (sp_X9_partOf (by omega) (by omega) tp0 tp1 ?_)
                                refine r_lreturn rfl dX9_fever_232 ⟨_, rfl, ?_⟩
                                exact K _
                            · exfalso; omega
                          · intro s hs ih y11 y12 y13 r1
                            have e3 : (va_up σ 4 r1) 3 = σ 3 := up_ne (by omega)
                            rw [fsm] at ih
                            refine r_iload dX9_fever_109 rfl ?_
                            refine r_iconst (1) dX9_fever_111 rfl ?_
                            refine r_iload_n dX9_fever_112 rfl ?_
                            refine r_ishl dX9_fever_113 ?_
                            rw [hsh]
                            refine r_icmp_ge_N 223 dX9_fever_114 rfl (by omega) (by omega) (fun h114 => ?_) (fun h114 => ?_)
                            · exfalso; omega
                            · refine r_lconst (1) dX9_fever_117 rfl ?_
                              refine r_lstore_11 dX9_fever_118 rfl ?_
                              refine r_aload_n dX9_fever_120 rfl ?_
                              refine getX9_9 rfl dX9_fever_121 ?_
                              refine r_aload_n dX9_fever_124 rfl ?_
                              refine getX9_13 rfl dX9_fever_125 ?_
                              refine cS_v2 fX9_copies lkX9_129 rfl dX9_fever_128 (sp_X9_copies (by omega) (by omega) (by omega) ?_)
                              rw [e3, up_up]
                              refine r_iconst (0) dX9_fever_131 rfl ?_
                              refine r_istore_13 dX9_fever_132 rfl ?_
                              have INNER : ∀ k, k ≤ j → GW E (ZM E 6 fun v σ' => ∃ r, v = some (.long r) ∧ Ql r σ') mX9_fever 134 [some (.ref (ad E 18 0)), some (.int (nI a)), some (.int (nI j)), some (.int (nI T)), some (.int (nI V)), some (.int w), some (.long (lN (fsm (σ 3) n a j T V s))), none, some (.long (lN (T ^ j))), none, some (.int (nI s)), some (.long (lN (wy T s k))), none, some (.int (nI k))] [] (va_up σ 4 (fevR (σ 3) n s k)) := by
                                refine down ?_ ?_
                                · refine r_iload dX9_fever_134 rfl ?_
                                  refine r_iload_n dX9_fever_136 rfl ?_
                                  refine r_icmp_ge_N 191 dX9_fever_137 rfl (by omega) (by omega) (fun h137 => ?_) (fun h137 => ?_)
                                  · refine r_lload dX9_fever_191 rfl ?_
                                    refine r_aload_n dX9_fever_193 rfl ?_
                                    refine getX9_13 rfl dX9_fever_194 ?_
                                    refine r_iload_n dX9_fever_197 rfl ?_
                                    refine r_iconst (3) dX9_fever_198 rfl ?_
                                    refine cS_i2 fX9_of lkX9_44 rfl dX9_fever_199 (sp_of3  ?_)
                                    refine ld_19  (by omega) (by omega) dX9_fever_202 ?_
                                    rw [up_at]
                                    refine r_iload dX9_fever_203 rfl ?_
                                    refine r_icmp_lt 213 dX9_fever_205 rfl (fun h205 => ?_) (fun h205 => ?_)
                                    · rw [if_pos h205] at ih
                                      refine r_lconst (0) dX9_fever_213 rfl ?_
                                      refine r_ladd dX9_fever_214 ?_
                                      rw [Int64.add_zero]
                                      refine r_lstore_6 dX9_fever_215 rfl ?_
                                      refine r_inc1_10 dX9_fever_217 rfl ?_
                                      refine r_goto 109 dX9_fever_220 rfl ?_
                                      exact ih _ _ _ _
                                    · rw [if_neg h205] at ih
                                      refine r_lload dX9_fever_208 rfl ?_
                                      refine r_goto 214 dX9_fever_210 rfl ?_
                                      refine r_ladd dX9_fever_214 ?_
                                      rw [lN_add]
                                      refine r_lstore_6 dX9_fever_215 rfl ?_
                                      refine r_inc1_10 dX9_fever_217 rfl ?_
                                      refine r_goto 109 dX9_fever_220 rfl ?_
                                      exact ih _ _ _ _
                                  · exfalso; omega
                                · intro k hk ih2
                                  have hWk := fevR_WF (s := s) hW k
                                  rw [wy, fevR, fvu] at ih2
                                  refine r_iload dX9_fever_134 rfl ?_
                                  refine r_iload_n dX9_fever_136 rfl ?_
                                  refine r_icmp_ge_N 191 dX9_fever_137 rfl (by omega) (by omega) (fun h137 => ?_) (fun h137 => ?_)
                                  · exfalso; omega
                                  · refine r_lload dX9_fever_140 rfl ?_
                                    refine r_iload dX9_fever_142 rfl ?_
                                    refine r_iload dX9_fever_144 rfl ?_
                                    refine cS_i2 fX9_has lkX9_65 rfl dX9_fever_146 (sp_X9_has  ?_)
                                    refine r_if_eq 156 dX9_fever_149 rfl (fun h149 => ?_) (fun h149 => ?_)
                                    · have hb := (bi_eq0 _).mp h149
                                      rw [hb] at ih2
                                      simp only [Bool.false_eq_true, if_false] at ih2
                                      refine r_iload_n dX9_fever_156 rfl ?_
                                      refine r_iconst (1) dX9_fever_157 rfl ?_
                                      refine r_isub dX9_fever_158 ?_
                                      refine r_i2l dX9_fever_159 ?_
                                      rw [t1 hT2 hT]
                                      refine r_lmul dX9_fever_160 ?_
                                      rw [lN_mul]
                                      refine r_lstore_11 dX9_fever_161 rfl ?_
                                      refine r_aload_n dX9_fever_163 rfl ?_
                                      refine getX9_13 rfl dX9_fever_164 ?_
                                      refine r_iload dX9_fever_167 rfl ?_
                                      refine r_iload dX9_fever_169 rfl ?_
                                      refine cS_i2 fX9_has lkX9_65 rfl dX9_fever_171 (sp_X9_has  ?_)
                                      refine r_if_eq 181 dX9_fever_174 rfl (fun h174 => ?_) (fun h174 => ?_)
                                      · refine r_iconst (0) dX9_fever_181 rfl ?_
                                        refine cS_v2 fX9_day lkX9_89 rfl dX9_fever_182 (sp_X9_day (by omega) (by rw [up_at]; exact hWk.1) hn6 ?_)
                                        rw [up_at, up_up]
                                        refine r_inc1_13 dX9_fever_185 rfl ?_
                                        refine r_goto 134 dX9_fever_188 rfl ?_
                                        exact ih2
                                      · exact absurd h149 h174
                                    · have hb := tb_of h149
                                      rw [hb] at ih2
                                      simp only [if_true] at ih2
                                      refine r_lconst (1) dX9_fever_152 rfl ?_
                                      refine r_goto 160 dX9_fever_153 rfl ?_
                                      refine r_lmul dX9_fever_160 ?_
                                      rw [Int64.mul_one]
                                      refine r_lstore_11 dX9_fever_161 rfl ?_
                                      refine r_aload_n dX9_fever_163 rfl ?_
                                      refine getX9_13 rfl dX9_fever_164 ?_
                                      refine r_iload dX9_fever_167 rfl ?_
                                      refine r_iload dX9_fever_169 rfl ?_
                                      refine cS_i2 fX9_has lkX9_65 rfl dX9_fever_171 (sp_X9_has  ?_)
                                      refine r_if_eq 181 dX9_fever_174 rfl (fun h174 => ?_) (fun h174 => ?_)
                                      · exact absurd h174 h149
                                      · refine r_iconst (-1) dX9_fever_177 rfl ?_
                                        refine r_goto 182 dX9_fever_178 rfl ?_
                                        refine cS_v2 fX9_day lkX9_89 rfl dX9_fever_182 (sp_X9_day (by omega) (by rw [up_at]; exact hWk.1) hn6 ?_)
                                        rw [up_at, up_up, dayR_m1 hn6]
                                        refine r_inc1_13 dX9_fever_185 rfl ?_
                                        refine r_goto 134 dX9_fever_188 rfl ?_
                                        exact ih2
                              exact INNER 0 (by omega)
                        refine r_sub up_same.symm (LOOP2 0 (by omega) _ _ _ _)
                      · exfalso; omega
                    · intro k hk ih
                      refine r_iload dX9_fever_87 rfl ?_
                      refine r_iload_n dX9_fever_89 rfl ?_
                      refine r_icmp_ge_N 106 dX9_fever_90 rfl (by omega) (by omega) (fun h90 => ?_) (fun h90 => ?_)
                      · exfalso; omega
                      · refine r_lload dX9_fever_93 rfl ?_
                        refine r_iload_n dX9_fever_95 rfl ?_
                        refine r_i2l dX9_fever_96 ?_
                        rw [nI_l (by omega)]
                        refine r_lmul dX9_fever_97 ?_
                        rw [lN_mul, ← Nat.pow_succ]
                        refine r_lstore_8 dX9_fever_98 rfl ?_
                        refine r_inc1_10 dX9_fever_100 rfl ?_
                        refine r_goto 87 dX9_fever_103 rfl ?_
                        exact ih
                  exact LOOP 0 (by omega)
                · have hw : eith w = false := (bi_eq0 _).mp h68
                  refine r_aload_n dX9_fever_71 rfl ?_
                  refine r_bipush (-2) dX9_fever_72 rfl ?_
                  refine cV_l1 fX9_noWide rcv_18 lkX9_184 rfl dX9_fever_74 (sp_X9_noWide (Or.inr (Or.inl rfl)) ?_)
                  refine r_lreturn rfl dX9_fever_77 ⟨_, rfl, ?_⟩
                  exact Kr (-2) (by unfold vFev; rw [if_pos hp, if_neg hn4, if_neg hn60, hw]; rfl) (by decide)
              · exact L6 hp hn4 (Or.inr (Or.inr (Int32.not_le.mp h51))) _ _ _ _ _ _ _ _
        · exact L4 hp (Or.inr (Or.inr (Int32.not_le.mp h25))) _ _ _ _ _ _ _ _
  · refine r_aload_n dX9_fever_8 rfl ?_
    refine r_iconst (-1) dX9_fever_9 rfl ?_
    refine cV_l1 fX9_noWide rcv_18 lkX9_184 rfl dX9_fever_10 (sp_X9_noWide (Or.inl rfl) ?_)
    refine r_lreturn rfl dX9_fever_13 ⟨_, rfl, ?_⟩
    exact Kr (-1) (by unfold vFev; rw [(bi_eq0 _).mp h5]; rfl) (by decide)
end FEVER2
