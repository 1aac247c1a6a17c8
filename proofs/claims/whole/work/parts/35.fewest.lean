/-! ===== fewest ===== -/
section FEWEST
variable {E : EnvT} {σ : Sg} {Q : Int32 → Sg → Prop} {Qv : Sg → Prop}
def nbf (r : Row) (n m : Nat) : Bool := (dtf r n 63 m).isNone
def few (r : Row) (n m : Nat) : Nat → Option Nat
  | 0 => none
  | s + 1 => if (∀ f, few r n m s = some f → bsum (nI s) 7 < bsum (nI f) 7) ∧ nbf (addO r (nI s) 127 n) n m = true then some s else few r n m s
theorem few_lt {r : Row} {n m : Nat} : ∀ s f, few r n m s = some f → f < s
  | 0, f, h => by cases h
  | s + 1, f, h => by
    rw [few] at h
    split at h
    · cases h; omega
    · have := few_lt s f h; omega
def fewL (o : Option Nat) : Int32 := match o with
  | none => 7
  | some f => bsum (nI f) 7
theorem bsum_7 : ∀ s, s < 64 → bsum (nI s) 7 < 7 := by decide +kernel
theorem few_c {r : Row} {n m s : Nat} (hs : s < 64) : (∀ f, few r n m s = some f → bsum (nI s) 7 < bsum (nI f) 7) ↔ bsum (nI s) 7 < fewL (few r n m s) := by
  cases h : few r n m s with
  | none => exact ⟨fun _ => bsum_7 s hs, fun _ f e => by cases e⟩
  | some f => exact ⟨fun q => q f rfl, fun q g e => by cases e; exact q⟩
theorem fel_all {r : Row} : ∀ n, (∀ p, p < n → r (6 + 5 * p) < 20) → fel r n = 0
  | 0, _ => rfl
  | n + 1, h => by rw [fel, if_pos (h n (by omega))]; exact fel_all n (fun p hp => h p (by omega))
theorem fel_one {r : Row} {n p : Nat} (hn : n ≤ 6) (hp : p < n) (h : ¬ r (6 + 5 * p) < 20) : ¬ fel r n &&& 63 = 0 := by
  rw [fel_63 hn]
  intro e
  have h1 := fel_bt (r := r) (i := p) (by omega) n hn
  rw [e, b_0, decide_eq_true hp, decide_eq_true (Int32.not_lt.mp h)] at h1
  cases h1
theorem sp_X8_nobodyFalls {n m : Nat} {ws : Int32} (hW : WF (σ 0) n) (hm : m ≤ 60) (K : ∀ r1, Q (bi (nbf (addO (σ 0) ws 127 n) n m)) (va_up σ 1 r1)) : Mi E mX8_nobodyFalls [.ref (ad E 0 0), .int ws, .int (nI m)] σ Q := by
  have hWa := addO_WF (ws := ws) hW R7_127 n hW.2.1
  unfold nbf at K
  refine Mw_of (L0 := [some (.ref (ad E 0 0)), some (.int ws), some (.int (nI m))]) pn_X8 rfl rfl (Nat.le_of_ble_eq_true rfl) ?_
  refine r_aload_n dX8_nobodyFalls_0 rfl ?_
  refine getX8_16 rfl dX8_nobodyFalls_1 ?_
  refine r_aload_n dX8_nobodyFalls_4 rfl ?_
  refine getX8_10 rfl dX8_nobodyFalls_5 ?_
  refine cVN_v1 fX1_become (rcv_1 (by omega)) lkX8_63 rfl dX8_nobodyFalls_8 (sp_X1_become (by omega) (by omega) (by omega) ?_)
  refine r_aload_n dX8_nobodyFalls_11 rfl ?_
  refine getX8_16 rfl dX8_nobodyFalls_12 ?_
  refine r_iload_n dX8_nobodyFalls_15 rfl ?_
  refine r_bipush (127) dX8_nobodyFalls_16 rfl ?_
  refine cVN_v2 fX1_addOff (rcv_1 (by omega)) lkX8_217 rfl dX8_nobodyFalls_18 (sp_X1_addOff (by omega) (by rw [up_at]; exact hW.1) hW.2.1 ?_)
  rw [up_at, up_up]
  refine r_aload_n dX8_nobodyFalls_21 rfl ?_
  refine r_bipush (63) dX8_nobodyFalls_22 rfl ?_
  refine r_iload_n dX8_nobodyFalls_24 rfl ?_
  refine cV_i2 fX8_daysTillFall rcv_0 lkX8_163 rfl dX8_nobodyFalls_25 (sp_X8_daysTillFall (n := n) (by rw [up_at]; exact hWa) hm (fun k hk => ?_) (fun hk r1 => ?_))
  · rw [up_at] at hk
    rw [hk] at K
    rw [up_up]
    have hlt := fnd_lt _ _ _ hk
    refine r_bipush (-9) dX8_nobodyFalls_28 rfl ?_
    refine r_icmp_ne 37 dX8_nobodyFalls_30 rfl (fun h30 => ?_) (fun h30 => ?_)
    · refine r_iconst (0) dX8_nobodyFalls_37 rfl ?_
      refine r_ireturn rfl (by first | rfl | exact nar_bi _ | assumption) dX8_nobodyFalls_38 ⟨_, rfl, ?_⟩
      exact K _
    · exact absurd (nI_pos (n := k) (by omega)) (by rw [h30]; decide)
  · rw [up_at] at hk
    rw [hk] at K
    rw [up_up]
    refine r_bipush (-9) dX8_nobodyFalls_28 rfl ?_
    refine r_icmp_ne 37 dX8_nobodyFalls_30 rfl (fun h30 => ?_) (fun h30 => ?_)
    · exact absurd rfl h30
    · refine r_iconst (1) dX8_nobodyFalls_33 rfl ?_
      refine r_goto 38 dX8_nobodyFalls_34 rfl ?_
      refine r_ireturn rfl (by first | rfl | exact nar_bi _ | assumption) dX8_nobodyFalls_38 ⟨_, rfl, ?_⟩
      exact K _
theorem sp_X9_doesNobodyFall {n m : Nat} (hW : WF (σ 4) n) (hm : m ≤ 60) (K : ∀ r4, Q (bi (nbf (σ 4) n m)) (va_up σ 4 r4)) : Mi E mX9_doesNobodyFall [.ref (ad E 18 0), .int (nI m)] σ Q := by
  have hn6 := hW.2.1
  unfold nbf at K
  refine Mw_of (L0 := [some (.ref (ad E 18 0)), some (.int (nI m)), none, none]) pn_X9 rfl rfl (Nat.le_of_ble_eq_true rfl) ?_
  refine r_iconst (0) dX9_doesNobodyFall_0 rfl ?_
  refine r_istore_n_2 dX9_doesNobodyFall_1 rfl ?_
  have LOOP : ∀ k, k ≤ m + 1 → ∀ y, dtf (σ 4) n 63 m = fnd (fun k => !(fel (dayN 0 n (σ 4) k) n &&& 63 == 0)) k (m + 1 - k) → GW E (ZM E 6 fun v σ' => ∃ r, v = some (.int r) ∧ Q r σ') mX9_doesNobodyFall 2 [some (.ref (ad E 18 0)), some (.int (nI m)), some (.int (nI k)), y] [] (va_up σ 4 (dayN 0 n (σ 4) k)) := by
    refine down ?_ ?_
    · intro y hf
      rw [Nat.sub_self] at hf
      rw [hf] at K
      refine r_iload_n dX9_doesNobodyFall_2 rfl ?_
      refine r_iload_n dX9_doesNobodyFall_3 rfl ?_
      refine r_icmp_gt_N 56 dX9_doesNobodyFall_4 rfl (by omega) (by omega) (fun h4 => ?_) (fun h4 => ?_)
      · refine r_iconst (1) dX9_doesNobodyFall_56 rfl ?_
        refine r_ireturn rfl (by first | rfl | exact nar_bi _ | assumption) dX9_doesNobodyFall_57 ⟨_, rfl, ?_⟩
        exact K _
      · exfalso; omega
    · intro k hk ih y hf
      have hWk := dayN_WF (u := 0) hW k
      rw [show m + 1 - k = (m + 1 - (k + 1)) + 1 by omega, fnd] at hf
      refine r_iload_n dX9_doesNobodyFall_2 rfl ?_
      refine r_iload_n dX9_doesNobodyFall_3 rfl ?_
      refine r_icmp_gt_N 56 dX9_doesNobodyFall_4 rfl (by omega) (by omega) (fun h4 => ?_) (fun h4 => ?_)
      · exfalso; omega
      · refine r_iconst (0) dX9_doesNobodyFall_7 rfl ?_
        refine r_istore_n_3 dX9_doesNobodyFall_8 rfl ?_
        have INNER : ∀ p, p ≤ n → (∀ q, q < p → dayN 0 n (σ 4) k (6 + 5 * q) < 20) → GW E (ZM E 6 fun v σ' => ∃ r, v = some (.int r) ∧ Q r σ') mX9_doesNobodyFall 9 [some (.ref (ad E 18 0)), some (.int (nI m)), some (.int (nI k)), some (.int (nI p))] [] (va_up σ 4 (dayN 0 n (σ 4) k)) := by
          refine down ?_ ?_
          · intro hq
            refine r_iload_n dX9_doesNobodyFall_9 rfl ?_
            refine r_aload_n dX9_doesNobodyFall_10 rfl ?_
            refine getX9_13 rfl dX9_doesNobodyFall_11 ?_
            refine r_iconst (0) dX9_doesNobodyFall_14 rfl ?_
            refine ld_19 (t := 0)  (by omega) (by omega) dX9_doesNobodyFall_15 ?_
            rw [up_at, hWk.1]
            refine r_icmp_ge_N 42 dX9_doesNobodyFall_16 rfl (by omega) (by omega) (fun h16 => ?_) (fun h16 => ?_)
            · refine r_aload_n dX9_doesNobodyFall_42 rfl ?_
              refine getX9_13 rfl dX9_doesNobodyFall_43 ?_
              refine r_iconst (0) dX9_doesNobodyFall_46 rfl ?_
              refine cS_v2 fX9_day lkX9_89 rfl dX9_doesNobodyFall_47 (sp_X9_day (by omega) (by rw [up_at]; exact hWk.1) hn6 ?_)
              rw [up_at, up_up]
              refine r_inc1_2 dX9_doesNobodyFall_50 rfl ?_
              refine r_goto 2 dX9_doesNobodyFall_53 rfl ?_
              refine ih _ ?_
              rw [hf, if_neg (by rw [fel_all n hq]; decide)]
            · exfalso; omega
          · intro p hp ih2 hq
            refine r_iload_n dX9_doesNobodyFall_9 rfl ?_
            refine r_aload_n dX9_doesNobodyFall_10 rfl ?_
            refine getX9_13 rfl dX9_doesNobodyFall_11 ?_
            refine r_iconst (0) dX9_doesNobodyFall_14 rfl ?_
            refine ld_19 (t := 0)  (by omega) (by omega) dX9_doesNobodyFall_15 ?_
            rw [up_at, hWk.1]
            refine r_icmp_ge_N 42 dX9_doesNobodyFall_16 rfl (by omega) (by omega) (fun h16 => ?_) (fun h16 => ?_)
            · exfalso; omega
            · refine r_aload_n dX9_doesNobodyFall_19 rfl ?_
              refine getX9_13 rfl dX9_doesNobodyFall_20 ?_
              refine r_iload_n dX9_doesNobodyFall_23 rfl ?_
              refine r_iconst (3) dX9_doesNobodyFall_24 rfl ?_
              refine cS_i2 fX9_of lkX9_44 rfl dX9_doesNobodyFall_25 (sp_of3  ?_)
              refine ld_19  (by omega) (by omega) dX9_doesNobodyFall_28 ?_
              rw [up_at]
              refine r_bipush (20) dX9_doesNobodyFall_29 rfl ?_
              refine r_icmp_lt 36 dX9_doesNobodyFall_31 rfl (fun h31 => ?_) (fun h31 => ?_)
              · refine r_inc1_3 dX9_doesNobodyFall_36 rfl ?_
                refine r_goto 9 dX9_doesNobodyFall_39 rfl ?_
                exact ih2 (fun q hq2 => by
                  by_cases e : q = p
                  · rw [e]; exact h31
                  · exact hq q (by omega))
              · refine r_iconst (0) dX9_doesNobodyFall_34 rfl ?_
                refine r_ireturn rfl (by first | rfl | exact nar_bi _ | assumption) dX9_doesNobodyFall_35 ⟨_, rfl, ?_⟩
                rw [if_pos (by simp only [beq_eq_false_iff_ne.mpr (fel_one hn6 hp h31)]; rfl)] at hf
                rw [hf] at K
                exact K _
        exact INNER 0 (by omega) (fun q hq => by omega)
  refine r_sub ?_ (LOOP 0 (by omega) _ rfl)
  exact up_same.symm
theorem sh1 {n : Nat} (hn : n ≤ 6) : (1 : Int32) <<< (nI n &&& 31) = nI (2 ^ n) := by
  have := pk_shlN (n := 1) (nI n &&& 31) n (s_l n (by omega)) (by
    have : 2 ^ n ≤ 2 ^ 6 := Nat.pow_le_pow_right (by decide) hn
    omega)
  rw [Nat.one_mul] at this
  exact this
theorem sp_X8_fewest {n : Nat} {m : Int32} (hW : WF (σ 0) n) (Kr : ¬ outs m 0 20 = 0 → Q (outs m 0 20) (rfs σ 9 (outs m 0 20))) (K : ∀ j, j ≤ 20 → m = nI j → outs m 0 20 = 0 → ∀ r1, Q (oI (few (σ 0) n j (2 ^ n))) (va_up σ 1 r1)) : Mi E mX8_fewest [.ref (ad E 0 0), .int m] σ Q := by
  have hn6 := hW.2.1
  have h64 : 2 ^ n ≤ 2 ^ 6 := Nat.pow_le_pow_right (by decide) hn6
  have hsh := sh1 hn6
  generalize 2 ^ n = N at K h64 hsh
  refine Mw_of (L0 := [some (.ref (ad E 0 0)), some (.int m), none, none, none, none]) pn_X8 rfl rfl (Nat.le_of_ble_eq_true rfl) ?_
  refine r_iload_n dX8_fewest_0 rfl ?_
  refine r_iconst (0) dX8_fewest_1 rfl ?_
  refine r_bipush (20) dX8_fewest_2 rfl ?_
  refine cS_i3 fX8_outside lkX8_44 rfl dX8_fewest_4 (sp_X8_outside  ?_)
  refine r_istore_n_2 dX8_fewest_7 rfl ?_
  refine r_iload_n dX8_fewest_8 rfl ?_
  refine r_if_eq 18 dX8_fewest_9 rfl (fun h9 => ?_) (fun h9 => ?_)
  · obtain ⟨j, hj, rfl⟩ := outs_N (b := 20) (by omega) h9
    have K := K j hj rfl h9
    refine r_bipush (-9) dX8_fewest_18 rfl ?_
    refine r_istore_n_3 dX8_fewest_20 rfl ?_
    refine r_bipush (7) dX8_fewest_21 rfl ?_
    refine r_istore_4 dX8_fewest_23 rfl ?_
    refine r_iconst (0) dX8_fewest_25 rfl ?_
    refine r_istore_5 dX8_fewest_26 rfl ?_
    have LOOP : ∀ k, k ≤ N → ∀ r1, GW E (ZM E 6 fun v σ' => ∃ r, v = some (.int r) ∧ Q r σ') mX8_fewest 28 [some (.ref (ad E 0 0)), some (.int (nI j)), some (.int (outs (nI j) 0 20)), some (.int (oI (few (σ 0) n j k))), some (.int (fewL (few (σ 0) n j k))), some (.int (nI k))] [] (va_up σ 1 r1) := by
      refine down ?_ ?_
      · intro r1
        refine r_iload dX8_fewest_28 rfl ?_
        refine r_iconst (1) dX8_fewest_30 rfl ?_
        refine r_aload_n dX8_fewest_31 rfl ?_
        refine getX8_10 rfl dX8_fewest_32 ?_
        refine getX8_189 (by omega) rfl dX8_fewest_35 ?_
        refine r_ishl dX8_fewest_38 ?_
        rw [up_ne (by omega), hW.1, hsh]
        refine r_icmp_ge_N 78 dX8_fewest_39 rfl (by omega) (by omega) (fun h39 => ?_) (fun h39 => ?_)
        · refine r_iload_n dX8_fewest_78 rfl ?_
          refine r_ireturn rfl (by first | rfl | exact nar_bi _ | assumption) dX8_fewest_79 ⟨_, rfl, ?_⟩
          exact K _
        · exfalso; omega
      · intro k hk ih r1
        have e0 : (va_up σ 1 r1) 0 = σ 0 := up_ne (by omega)
        rw [few] at ih
        refine r_iload dX8_fewest_28 rfl ?_
        refine r_iconst (1) dX8_fewest_30 rfl ?_
        refine r_aload_n dX8_fewest_31 rfl ?_
        refine getX8_10 rfl dX8_fewest_32 ?_
        refine getX8_189 (by omega) rfl dX8_fewest_35 ?_
        refine r_ishl dX8_fewest_38 ?_
        rw [up_ne (by omega), hW.1, hsh]
        refine r_icmp_ge_N 78 dX8_fewest_39 rfl (by omega) (by omega) (fun h39 => ?_) (fun h39 => ?_)
        · exfalso; omega
        · refine r_iload dX8_fewest_42 rfl ?_
          refine cS_i1 fJ6_bitCount_0f7a4 lkX8_208 rfl dX8_fewest_44 (sp_J6_bitCount_0f7a4 (by omega) ?_)
          refine r_iload dX8_fewest_47 rfl ?_
          refine r_icmp_ge 72 dX8_fewest_49 rfl (fun h49 => ?_) (fun h49 => ?_)
          · rw [if_neg (fun q => absurd ((few_c (by omega)).mp q.1) (Int32.not_lt.mpr h49))] at ih
            refine r_inc1_5 dX8_fewest_72 rfl ?_
            refine r_goto 28 dX8_fewest_75 rfl ?_
            exact ih _
          · have hc := (few_c (r := σ 0) (n := n) (m := j) (s := k) (by omega)).mpr (Int32.not_le.mp h49)
            refine r_aload_n dX8_fewest_52 rfl ?_
            refine r_iload dX8_fewest_53 rfl ?_
            refine r_iload_n dX8_fewest_55 rfl ?_
            refine cV_i2 fX8_nobodyFalls rcv_0 lkX8_211 rfl dX8_fewest_56 (sp_X8_nobodyFalls (by rw [e0]; exact hW) (by omega) (fun r2 => ?_))
            rw [e0, up_up]
            refine r_if_eq 72 dX8_fewest_59 rfl (fun h59 => ?_) (fun h59 => ?_)
            · have hb := (bi_eq0 _).mp h59
              rw [if_neg (fun q => by rw [hb] at q; cases q.2)] at ih
              refine r_inc1_5 dX8_fewest_72 rfl ?_
              refine r_goto 28 dX8_fewest_75 rfl ?_
              exact ih _
            · rw [if_pos ⟨hc, tb_of h59⟩] at ih
              refine r_iload dX8_fewest_62 rfl ?_
              refine r_istore_n_3 dX8_fewest_64 rfl ?_
              refine r_iload dX8_fewest_65 rfl ?_
              refine cS_i1 fJ6_bitCount_0f7a4 lkX8_208 rfl dX8_fewest_67 (sp_J6_bitCount_0f7a4 (by omega) ?_)
              refine r_istore_4 dX8_fewest_70 rfl ?_
              refine r_inc1_5 dX8_fewest_72 rfl ?_
              refine r_goto 28 dX8_fewest_75 rfl ?_
              exact ih _
    refine r_sub up_same.symm (LOOP 0 (by omega) _)
  · refine r_aload_n dX8_fewest_12 rfl ?_
    refine r_iload_n dX8_fewest_13 rfl ?_
    refine cV_i1 fX8_refuse rcv_0 lkX8_52 rfl dX8_fewest_14 (sp_X8_refuse (outs_ref h9) ?_)
    refine r_ireturn rfl (by first | rfl | exact nar_bi _ | assumption) dX8_fewest_17 ⟨_, rfl, ?_⟩
    exact Kr h9
theorem sp_X9_fewest {n : Nat} {m : Int32} (hW : WF (σ 3) n) (Kr : ¬ outs m 0 20 = 0 → Q (outs m 0 20) (rfs σ 13 (outs m 0 20))) (K : ∀ j, j ≤ 20 → m = nI j → outs m 0 20 = 0 → ∀ r1, Q (oI (few (σ 3) n j (2 ^ n))) (va_up σ 4 r1)) : Mi E mX9_fewest [.ref (ad E 18 0), .int m] σ Q := by
  have hn6 := hW.2.1
  have h64 : 2 ^ n ≤ 2 ^ 6 := Nat.pow_le_pow_right (by decide) hn6
  have hsh := sh1 hn6
  generalize 2 ^ n = N at K h64 hsh
  refine Mw_of (L0 := [some (.ref (ad E 18 0)), some (.int m), none, none, none, none]) pn_X9 rfl rfl (Nat.le_of_ble_eq_true rfl) ?_
  refine r_iload_n dX9_fewest_0 rfl ?_
  refine r_iconst (0) dX9_fewest_1 rfl ?_
  refine r_bipush (20) dX9_fewest_2 rfl ?_
  refine cS_i3 fX9_wrongBy lkX9_136 rfl dX9_fewest_4 (sp_X9_wrongBy  ?_)
  refine r_istore_n_2 dX9_fewest_7 rfl ?_
  refine r_iload_n dX9_fewest_8 rfl ?_
  refine r_if_eq 18 dX9_fewest_9 rfl (fun h9 => ?_) (fun h9 => ?_)
  · obtain ⟨j, hj, rfl⟩ := outs_N (b := 20) (by omega) h9
    have K := K j hj rfl h9
    refine r_bipush (-9) dX9_fewest_18 rfl ?_
    refine r_istore_n_3 dX9_fewest_20 rfl ?_
    refine r_iconst (0) dX9_fewest_21 rfl ?_
    refine r_istore_4 dX9_fewest_22 rfl ?_
    have LOOP : ∀ k, k ≤ N → ∀ y r1, GW E (ZM E 7 fun v σ' => ∃ r, v = some (.int r) ∧ Q r σ') mX9_fewest 24 [some (.ref (ad E 18 0)), some (.int (nI j)), some (.int (outs (nI j) 0 20)), some (.int (oI (few (σ 3) n j k))), some (.int (nI k)), y] [] (va_up σ 4 r1) := by
      refine down ?_ ?_
      · intro y r1
        refine r_iload dX9_fewest_24 rfl ?_
        refine r_iconst (1) dX9_fewest_26 rfl ?_
        refine r_aload_n dX9_fewest_27 rfl ?_
        refine getX9_9 rfl dX9_fewest_28 ?_
        refine r_iconst (0) dX9_fewest_31 rfl ?_
        refine ld_19 (t := 0)  (by omega) (by omega) dX9_fewest_32 ?_
        refine r_ishl dX9_fewest_33 ?_
        rw [up_ne (by omega), hW.1, hsh]
        refine r_icmp_ge_N 127 dX9_fewest_34 rfl (by omega) (by omega) (fun h34 => ?_) (fun h34 => ?_)
        · refine r_iload_n dX9_fewest_127 rfl ?_
          refine r_ireturn rfl (by first | rfl | exact nar_bi _ | assumption) dX9_fewest_128 ⟨_, rfl, ?_⟩
          exact K _
        · exfalso; omega
      · intro k hk ih y r1
        have e3 : (va_up σ 4 r1) 3 = σ 3 := up_ne (by omega)
        rw [few] at ih
        have TRYIT : (∀ f, few (σ 3) n j k = some f → bsum (nI k) 7 < bsum (nI f) 7) → ∀ y, GW E (ZM E 7 fun v σ' => ∃ r, v = some (.int r) ∧ Q r σ') mX9_fewest 56 [some (.ref (ad E 18 0)), some (.int (nI j)), some (.int (outs (nI j) 0 20)), some (.int (oI (few (σ 3) n j k))), some (.int (nI k)), y] [] (va_up σ 4 r1) := by
          intro hc y
          have hWa := addO_WF (ws := nI k) hW R7_127 n hn6
          refine r_aload_n dX9_fewest_56 rfl ?_
          refine getX9_9 rfl dX9_fewest_57 ?_
          refine r_aload_n dX9_fewest_60 rfl ?_
          refine getX9_13 rfl dX9_fewest_61 ?_
          refine cS_v2 fX9_copies lkX9_129 rfl dX9_fewest_64 (sp_X9_copies (by omega) (by omega) (by omega) ?_)
          rw [e3, up_up]
          refine r_iconst (0) dX9_fewest_67 rfl ?_
          refine r_istore_5 dX9_fewest_68 rfl ?_
          have INNER : ∀ p, p ≤ n → GW E (ZM E 7 fun v σ' => ∃ r, v = some (.int r) ∧ Q r σ') mX9_fewest 70 [some (.ref (ad E 18 0)), some (.int (nI j)), some (.int (outs (nI j) 0 20)), some (.int (oI (few (σ 3) n j k))), some (.int (nI k)), some (.int (nI p))] [] (va_up σ 4 (addO (σ 3) (nI k) 127 p)) := by
            refine down ?_ ?_
            · refine r_iload dX9_fewest_70 rfl ?_
              refine r_aload_n dX9_fewest_72 rfl ?_
              refine getX9_9 rfl dX9_fewest_73 ?_
              refine r_iconst (0) dX9_fewest_76 rfl ?_
              refine ld_19 (t := 0)  (by omega) (by omega) dX9_fewest_77 ?_
              rw [up_ne (by omega), hW.1]
              refine r_icmp_ge_N 110 dX9_fewest_78 rfl (by omega) (by omega) (fun h78 => ?_) (fun h78 => ?_)
              · refine r_aload_n dX9_fewest_110 rfl ?_
                refine r_iload_n dX9_fewest_111 rfl ?_
                refine cV_i1 fX9_doesNobodyFall rcv_18 lkX9_173 rfl dX9_fewest_112 (sp_X9_doesNobodyFall (by rw [up_at]; exact hWa) (by omega) (fun r2 => ?_))
                rw [up_at, up_up]
                refine r_if_eq 121 dX9_fewest_115 rfl (fun h115 => ?_) (fun h115 => ?_)
                · have hb := (bi_eq0 _).mp h115
                  rw [if_neg (fun q => by rw [hb] at q; cases q.2)] at ih
                  refine r_inc1_4 dX9_fewest_121 rfl ?_
                  refine r_goto 24 dX9_fewest_124 rfl ?_
                  exact ih _ _
                · rw [if_pos ⟨hc, tb_of h115⟩] at ih
                  refine r_iload dX9_fewest_118 rfl ?_
                  refine r_istore_n_3 dX9_fewest_120 rfl ?_
                  refine r_inc1_4 dX9_fewest_121 rfl ?_
                  refine r_goto 24 dX9_fewest_124 rfl ?_
                  exact ih _ _
              · exfalso; omega
            · intro p hp ih2
              have hWp := addO_WF (ws := nI k) hW R7_127 p (by omega)
              rw [addO] at ih2
              refine r_iload dX9_fewest_70 rfl ?_
              refine r_aload_n dX9_fewest_72 rfl ?_
              refine getX9_9 rfl dX9_fewest_73 ?_
              refine r_iconst (0) dX9_fewest_76 rfl ?_
              refine ld_19 (t := 0)  (by omega) (by omega) dX9_fewest_77 ?_
              rw [up_ne (by omega), hW.1]
              refine r_icmp_ge_N 110 dX9_fewest_78 rfl (by omega) (by omega) (fun h78 => ?_) (fun h78 => ?_)
              · exfalso; omega
              · refine r_iload dX9_fewest_81 rfl ?_
                refine r_iload dX9_fewest_83 rfl ?_
                refine cS_i2 fX9_has lkX9_65 rfl dX9_fewest_85 (sp_X9_has  ?_)
                refine r_if_eq 104 dX9_fewest_88 rfl (fun h88 => ?_) (fun h88 => ?_)
                · rw [(bi_eq0 _).mp h88] at ih2
                  simp only [Bool.false_eq_true, if_false] at ih2
                  refine r_inc1_5 dX9_fewest_104 rfl ?_
                  refine r_goto 70 dX9_fewest_107 rfl ?_
                  exact ih2
                · rw [tb_of h88] at ih2
                  simp only [if_true] at ih2
                  rw [or127 (hWp.2.2 p (by omega)).2.2.1] at ih2
                  refine r_aload_n dX9_fewest_91 rfl ?_
                  refine getX9_13 rfl dX9_fewest_92 ?_
                  refine r_iload dX9_fewest_95 rfl ?_
                  refine r_iconst (2) dX9_fewest_97 rfl ?_
                  refine cS_i2 fX9_of lkX9_44 rfl dX9_fewest_98 (sp_of2  ?_)
                  refine r_bipush (127) dX9_fewest_101 rfl ?_
                  refine st_19  (by omega) (by omega) dX9_fewest_103 ?_
                  rw [s2_up]
                  refine r_inc1_5 dX9_fewest_104 rfl ?_
                  refine r_goto 70 dX9_fewest_107 rfl ?_
                  exact ih2
          exact INNER 0 (by omega)
        refine r_iload dX9_fewest_24 rfl ?_
        refine r_iconst (1) dX9_fewest_26 rfl ?_
        refine r_aload_n dX9_fewest_27 rfl ?_
        refine getX9_9 rfl dX9_fewest_28 ?_
        refine r_iconst (0) dX9_fewest_31 rfl ?_
        refine ld_19 (t := 0)  (by omega) (by omega) dX9_fewest_32 ?_
        refine r_ishl dX9_fewest_33 ?_
        rw [up_ne (by omega), hW.1, hsh]
        refine r_icmp_ge_N 127 dX9_fewest_34 rfl (by omega) (by omega) (fun h34 => ?_) (fun h34 => ?_)
        · exfalso; omega
        · cases hf : few (σ 3) n j k with
          | none =>
            rw [hf] at TRYIT
            have T := TRYIT (fun f e => by cases e)
            refine r_iload_n dX9_fewest_37 rfl ?_
            refine r_if_lt 56 dX9_fewest_38 rfl (fun h38 => ?_) (fun h38 => ?_)
            · exact T _
            · exact absurd (show (-9 : Int32) < 0 by decide) h38
          | some f =>
            have hlt := few_lt _ _ hf
            rw [hf] at TRYIT ih
            refine r_iload_n dX9_fewest_37 rfl ?_
            refine r_if_lt 56 dX9_fewest_38 rfl (fun h38 => ?_) (fun h38 => ?_)
            · exact absurd h38 (nI_pos (n := f) (by omega))
            · refine r_iload dX9_fewest_41 rfl ?_
              refine cS_i1 fX9_bits lkX9_52 rfl dX9_fewest_43 (sp_X9_bits  ?_)
              refine r_iload_n dX9_fewest_46 rfl ?_
              refine cS_i1 fX9_bits lkX9_52 rfl dX9_fewest_47 (sp_X9_bits  ?_)
              refine r_icmp_lt 56 dX9_fewest_50 rfl (fun h50 => ?_) (fun h50 => ?_)
              · exact TRYIT (fun g e => by cases e; exact h50) _
              · rw [if_neg (fun q => h50 (q.1 f rfl))] at ih
                refine r_goto 121 dX9_fewest_53 rfl ?_
                refine r_inc1_4 dX9_fewest_121 rfl ?_
                refine r_goto 24 dX9_fewest_124 rfl ?_
                exact ih _ _
    refine r_sub up_same.symm (LOOP 0 (by omega) _ _)
  · refine r_aload_n dX9_fewest_12 rfl ?_
    refine r_iload_n dX9_fewest_13 rfl ?_
    refine cV_i1 fX9_no rcv_18 lkX9_36 rfl dX9_fewest_14 (sp_X9_no (outs_ref h9) ?_)
    refine r_ireturn rfl (by first | rfl | exact nar_bi _ | assumption) dX9_fewest_17 ⟨_, rfl, ?_⟩
    exact Kr h9
end FEWEST
