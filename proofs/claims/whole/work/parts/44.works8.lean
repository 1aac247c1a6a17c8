/-! ===== letter, works: the class's ===== -/
section WORKS8
variable {E : EnvT} {σ : Sg} {Q : Int32 → Sg → Prop} {Qv : Sg → Prop} {Qr : Nat → Sg → Prop}
theorem R7_xs {x : Int32} {j : Nat} (h : R7 x) (hj : j < 7) : R7 (x ^^^ ((1 : Int32) <<< (nI j &&& 31))) := fun i h7 hi => by
  rw [b_xor, h i h7 hi, b_sl1 (by omega) hi, decide_eq_false (by omega)]
  rfl
theorem frR_WF {r : Row} {n q j : Nat} (h : WF r n) (hq : q < 6) (hj : j < 7) : WF (frR r q (nI j)) n := updo_WF h (R7_xs (h.2.2 q hq).2.2.1 hj)
theorem upd0_WF {r : Row} {n m : Nat} (h : WF r n) (hm : m ≤ 6) : WF (upd r 0 (nI m)) m := by
  obtain ⟨h0, h6, hw⟩ := h
  refine ⟨upd_eq, hm, fun q hq => ?_⟩
  have := hw q hq
  unfold WFp at this ⊢
  rw [upd_ne (j := 3 + 5 * q) (by omega), upd_ne (j := 4 + 5 * q) (by omega), upd_ne (j := 5 + 5 * q) (by omega), upd_ne (j := 6 + 5 * q) (by omega), upd_ne (j := 7 + 5 * q) (by omega)]
  exact this
theorem updu_WF {r : Row} {n a u : Nat} (h : WF r n) (hu : u < 10) : WF (upd r (7 + 5 * a) (nI u)) n := by
  obtain ⟨h0, h6, hw⟩ := h
  refine ⟨by rw [upd_ne (by omega)]; exact h0, h6, fun q hq => ?_⟩
  obtain ⟨a1, a2, a3, a4, a5⟩ := hw q hq
  unfold WFp
  rw [upd_ne (j := 3 + 5 * q) (by omega), upd_ne (j := 4 + 5 * q) (by omega), upd_ne (j := 5 + 5 * q) (by omega), upd_ne (j := 6 + 5 * q) (by omega)]
  refine ⟨a1, a2, a3, a4, ?_⟩
  by_cases hqa : q = a
  · rw [hqa, upd_eq]; exact ⟨u, hu, rfl⟩
  · rw [upd_ne (by omega)]; exact a5
theorem hire_WF {r : Row} {n k f : Nat} {o : Int32} (h : WF r n) (hn : n < 6) (hk : k < 6) (hf : f < 10) (ho : R7 o) : WF (hireR r n (nI k) (nI f) o) (n + 1) := upd0_WF (updu_WF (u := 0) (updt_WF (t := 0) (updo_WF (updf_WF (updk_WF h hk) hf) ho) (by omega)) (by omega)) (by omega)
theorem stm_WF {c : Nat → Nat} {N p n : Nat} {r : Row} {x : Row × Nat} (hT : TX c N p) (hW : WF r n) (h : stm c p r n = some x) : WF x.1 x.2 := by
  have hn6 := hW.2.1
  unfold stm at h
  split at h
  · rename_i hc
    have hs : shp (c p) = 0 := by rw [hc]; rfl
    obtain ⟨k1, k2⟩ := TX_k hT hs
    have d2 : dgt c N (p + 2) := TX_d (k := 1) hT hs (by decide) rfl rfl
    unfold stW at h
    split at h
    · rename_i hq
      cases h
      cases hk : kd (c (p + 1)) with
      | none => rw [hk] at k2; cases k2
      | some k =>
        have hk6 := fnd_lt _ _ _ hk
        exact hire_WF hW hq.2 (by omega) (num1 d2) (R7_of (by omega))
    · cases h
  · split at h
    · rename_i hc
      unfold stO at h
      split at h
      · rename_i hq
        cases h
        exact frR_WF hW (by omega) hq.2
      · cases h
    · split at h
      · rename_i hc
        unfold stT at h
        split at h
        · rename_i hq
          cases h
          exact updt_WF hW (by omega)
        · cases h
      · split at h
        · unfold stX at h
          split at h
          · rename_i hq
            cases h
            exact mvd_WF hW (by omega) (by omega) hq.1.2.2.2
          · cases h
        · split at h
          · unfold stD at h
            split at h
            · cases h
              exact dayN_WF hW _
            · cases h
          · cases h
/-- doing what stands there -/
def rnn (c : Nat → Nat) (N : Nat) : Nat → Nat → Row → Nat → Nat → Option Nat × (Row × Nat) × Nat
  | 0, _, r, n, k => (none, (r, n), k)
  | f + 1, p, r, n, k => if p < N then (match stm c p r n with
    | none => (some p, (r, n), k)
    | some x => rnn c N f (p + 1 + sln (shp (c p))) x.1 x.2 (k + 1)) else (none, (r, n), k)
def wrk2 (x : Option Nat × (Row × Nat) × Nat) (r : Row) : Int32 × Row := match x.1 with
  | some p => (-2000 - nI p, r)
  | none => (nI x.2.2, x.2.1.1)
def wrk (c : Nat → Nat) (N : Nat) (r : Row) (n : Nat) : Int32 × Row := match (scn c N (N + 1) 0).1 with
  | some w => (-1000 - nI w, r)
  | none => wrk2 (rnn c N (N + 1) 0 r n 0) r
/-- what reading well says of the next statement -/
theorem scn_st {c : Nat → Nat} {N f p : Nat} (hp : p < N) (h : (scn c N (f + 1) p).1 = none) : TX c N p ∧ p + 1 + sln (shp (c p)) ≤ N ∧ (p + 1 + sln (shp (c p)) < N → (scn c N f (p + 1 + sln (shp (c p)))).1 = none) := by
  have el : ltr c N p = c p := if_pos hp
  rw [scn] at h
  unfold bad at h
  rw [el] at h
  split at h
  · cases h
  · rename_i hz
    split at h
    · cases h
    · rename_i hb
      have hb' := fnd_none _ _ hb
      have ht : TX c N p := ⟨hp, fun k hk => by
        have := hb' k (by omega) (by omega)
        simpa using this⟩
      refine ⟨ht, ?_, ?_⟩
      · have := (ht.2 (sln (shp (c p)) - 1) (by omega)).1
        omega
      · intro hq
        rw [if_pos hq] at h
        exact h
theorem scn_0 {c : Nat → Nat} {N : Nat} (h : (scn c N (N + 1) 0).1 = none) : 0 < N := by
  refine Nat.pos_of_ne_zero (fun e => ?_)
  rw [e] at h
  exact absurd h (by rw [scn, if_pos (by rfl)]; intro q; cases q)
theorem i2c_e {j : Nat} (h : j < 256) : ((nI j).toUInt32 % 65536).toInt32 = nI j := by
  rw [pk_char, pk_tn (by omega), Nat.mod_eq_of_lt (by omega)]
def vLet (N : Nat) (x : Int32) : Int32 := if outs x 0 255 = 0 then (if N < 96 then 0 else -6) else outs x 0 255
theorem sp_X8_letter {N : Nat} {x : Int32} (hN : σ 10 2 = nI N) (h96 : N ≤ 96) (Kr : ∀ y, vLet N x = y → ¬ y = 0 → Q y (rfs σ 9 y)) (K : ∀ j, j < 256 → x = nI j → N < 96 → vLet N x = 0 → Q (nI (N + 1)) (s2 (s2 σ 7 N x) 10 2 (nI (N + 1)))) : Mi E mX8_letter [.ref (ad E 0 0), .int x] σ Q := by
  refine Mw_of (L0 := [some (.ref (ad E 0 0)), some (.int x), none]) pn_X8 rfl rfl (Nat.le_of_ble_eq_true rfl) ?_
  refine r_iload_n dX8_letter_0 rfl ?_
  refine r_iconst (0) dX8_letter_1 rfl ?_
  refine r_sipush (255) dX8_letter_2 rfl ?_
  refine cS_i3 fX8_outside lkX8_44 rfl dX8_letter_5 (sp_X8_outside  ?_)
  refine r_istore_n_2 dX8_letter_8 rfl ?_
  refine r_iload_n dX8_letter_9 rfl ?_
  refine r_if_ne 26 dX8_letter_10 rfl (fun h10 => ?_) (fun h10 => ?_)
  · refine r_iload_n dX8_letter_26 rfl ?_
    refine r_if_eq 36 dX8_letter_27 rfl (fun h27 => ?_) (fun h27 => ?_)
    · exact absurd h27 h10
    · refine r_aload_n dX8_letter_30 rfl ?_
      refine r_iload_n dX8_letter_31 rfl ?_
      refine cV_i1 fX8_refuse rcv_0 lkX8_52 rfl dX8_letter_32 (sp_X8_refuse (outs_ref h10) ?_)
      refine r_ireturn rfl (by first | rfl | exact nar_bi _ | assumption) dX8_letter_35 ⟨_, rfl, ?_⟩
      exact Kr _ (by unfold vLet; rw [if_neg h10]) h10
  · refine r_aload_n dX8_letter_13 rfl ?_
    refine getX8_29 rfl dX8_letter_14 ?_
    refine cVN_i0 fX5_isFull rcv_14 lkX8_48 rfl dX8_letter_17 (sp_X5_isFull hN h96 ?_)
    refine r_if_eq 26 dX8_letter_20 rfl (fun h20 => ?_) (fun h20 => ?_)
    · have hf := of_decide_eq_false ((bi_eq0 _).mp h20)
      refine r_iload_n dX8_letter_26 rfl ?_
      refine r_if_eq 36 dX8_letter_27 rfl (fun h27 => ?_) (fun h27 => ?_)
      · obtain ⟨j, hj, rfl⟩ := outs_N (b := 255) (by omega) h10
        have e : (s2 (s2 σ 7 N (nI j)) 10 2 (nI (N + 1))) 10 2 = nI (N + 1) := by unfold s2; rw [up_at, upd_eq]
        refine r_aload_n dX8_letter_36 rfl ?_
        refine getX8_29 rfl dX8_letter_37 ?_
        refine r_iload_n dX8_letter_40 rfl ?_
        refine r_i2c dX8_letter_41 ?_
        rw [i2c_e (by omega)]
        refine cVN_v1 fX5_add rcv_14 lkX8_56 rfl dX8_letter_42 (sp_X5_add hN (by omega) (by omega) ?_)
        refine r_aload_n dX8_letter_45 rfl ?_
        refine getX8_29 rfl dX8_letter_46 ?_
        refine getX8_60 rfl dX8_letter_49 ?_
        rw [e]
        refine r_ireturn rfl (by first | rfl | exact nar_bi _ | assumption) dX8_letter_52 ⟨_, rfl, ?_⟩
        exact K j (by omega) rfl (by omega) (by unfold vLet; rw [if_pos h10, if_pos (by omega)])
      · exact absurd h10 h27
    · have hf := of_decide_eq_true (tb_of h20)
      refine r_bipush (-6) dX8_letter_23 rfl ?_
      refine r_istore_n_2 dX8_letter_25 rfl ?_
      refine r_iload_n dX8_letter_26 rfl ?_
      refine r_if_eq 36 dX8_letter_27 rfl (fun h27 => ?_) (fun h27 => ?_)
      · exact absurd h27 (by decide)
      · refine r_aload_n dX8_letter_30 rfl ?_
        refine r_iload_n dX8_letter_31 rfl ?_
        refine cV_i1 fX8_refuse rcv_0 lkX8_52 rfl dX8_letter_32 (sp_X8_refuse (Or.inr (Or.inr (Or.inr (Or.inr rfl)))) ?_)
        refine r_ireturn rfl (by first | rfl | exact nar_bi _ | assumption) dX8_letter_35 ⟨_, rfl, ?_⟩
        exact Kr (-6) (by unfold vLet; rw [if_pos h10, if_neg (by omega)]) (by decide)
theorem neg_lt : ∀ m, m ∈ [1000, 2000] → ∀ p, p < 200 → (-(nI m) - nI p : Int32) < 0 := by decide +kernel
theorem scn_lt {c : Nat → Nat} {N : Nat} : ∀ f p w, (scn c N f p).1 = some w → p ≤ N → w ≤ N + 7
  | 0, _, _, h, _ => by cases h
  | f + 1, p, w, h, hp => by
    have h6 := sln_lt (shp (ltr c N p))
    rw [scn] at h
    split at h
    · cases h; omega
    · split at h
      · rename_i k hb
        have := fnd_lt _ _ _ hb
        cases h
        omega
      · split at h
        · rename_i hlt
          exact scn_lt f _ w h (by omega)
        · cases h
theorem sp_X8_works {c : Nat → Nat} {N n : Nat} (hL : LT σ c N) (hW : WF (σ 0) n) (K : ∀ r1, Q (wrk c N (σ 0) n).1 (s2 (va_up (va_up σ 1 r1) 0 (wrk c N (σ 0) n).2) 10 2 0)) : Mi E mX8_works [.ref (ad E 0 0)] σ Q := by
  obtain ⟨l1, l2, l3, l4⟩ := id hL
  have hn6 := hW.2.1
  have BAD : ∀ (a : Int32) r1, a < 0 → (wrk c N (σ 0) n) = (a, σ 0) → ∀ y1 y3, GW E (ZM E 9 fun v σ' => ∃ r, v = some (.int r) ∧ Q r σ') mX8_works 37 [some (.ref (ad E 0 0)), some (.int y1), some (.int a), some (.int y3)] [] (va_up σ 1 r1) := by
    intro a r1 ha hw y1 y3
    rw [hw] at K
    have e : va_up (va_up σ 1 r1) 0 (σ 0) = va_up σ 1 r1 := by
      have : (va_up σ 1 r1) 0 = σ 0 := up_ne (by omega)
      rw [← this]; exact up_same
    dsimp only at K
    refine r_iload_n dX8_works_37 rfl ?_
    refine r_if_lt 98 dX8_works_38 rfl (fun h38 => ?_) (fun h38 => ?_)
    · refine r_iload_n dX8_works_98 rfl ?_
      refine r_if_le 113 dX8_works_99 rfl (fun h99 => ?_) (fun h99 => ?_)
      · refine r_aload_n dX8_works_113 rfl ?_
        refine getX8_29 rfl dX8_works_114 ?_
        refine cVN_v0 fX5_forget rcv_14 lkX8_84 rfl dX8_works_117 (sp_X5_forget  ?_)
        refine r_iload_n dX8_works_120 rfl ?_
        refine r_ireturn rfl (by first | rfl | exact nar_bi _ | assumption) dX8_works_121 ⟨_, rfl, ?_⟩
        have := K r1
        rw [e] at this
        exact this
      · exact absurd (Int32.le_of_lt ha) h99
    · exact absurd ha h38
  have LOOP : (scn c N (N + 1) 0).1 = none → ∀ f p r m k, N < f + p → p ≤ N → (p < N → (scn c N f p).1 = none) → WF r m → wrk c N (σ 0) n = wrk2 (rnn c N f p r m k) (σ 0) → k ≤ p → (p = 0 ∨ 1 ≤ k) → ∀ y1, GW E (ZM E 9 fun v σ' => ∃ r, v = some (.int r) ∧ Q r σ') mX8_works 37 [some (.ref (ad E 0 0)), some (.int y1), some (.int (nI k)), some (.int (nI p))] [] (va_up σ 1 r) := by
    intro h0 f
    have hN0 := scn_0 h0
    induction f with
    | zero => intro p r m k h1 h2; exfalso; omega
    | succ f ih =>
      intro p r m k h1 h2 hsc hWr hw hkp hk1 y1
      have hLt : LT (va_up σ 1 r) c N := LT_up hL (by omega)
      rw [rnn] at hw
      refine r_iload_n dX8_works_37 rfl ?_
      refine r_if_lt 98 dX8_works_38 rfl (fun h38 => ?_) (fun h38 => ?_)
      · exact absurd h38 (nI_pos (by omega))
      · refine r_iload_n dX8_works_41 rfl ?_
        refine r_aload_n dX8_works_42 rfl ?_
        refine getX8_29 rfl dX8_works_43 ?_
        refine getX8_60 rfl dX8_works_46 ?_
        rw [up_ne (by omega), l3]
        refine r_icmp_ge_N 98 dX8_works_49 rfl (by omega) (by omega) (fun h49 => ?_) (fun h49 => ?_)
        · rw [if_neg (by omega)] at hw
          have hw : wrk c N (σ 0) n = (nI k, r) := hw
          rw [hw] at K
          dsimp only at K
          refine r_iload_n dX8_works_98 rfl ?_
          refine r_if_le 113 dX8_works_99 rfl (fun h99 => ?_) (fun h99 => ?_)
          · have : ¬ (1 ≤ k) := fun q => nI_nle (n := k) (by omega) (by omega) h99
            omega
          · refine r_aload_n dX8_works_102 rfl ?_
            refine getX8_10 rfl dX8_works_103 ?_
            refine r_aload_n dX8_works_106 rfl ?_
            refine getX8_16 rfl dX8_works_107 ?_
            refine cVN_v1 fX1_become (rcv_1 (by omega)) lkX8_63 rfl dX8_works_110 (sp_X1_become (by omega) (by omega) (by omega) ?_)
            rw [up_at]
            refine r_aload_n dX8_works_113 rfl ?_
            refine getX8_29 rfl dX8_works_114 ?_
            refine cVN_v0 fX5_forget rcv_14 lkX8_84 rfl dX8_works_117 (sp_X5_forget  ?_)
            refine r_iload_n dX8_works_120 rfl ?_
            refine r_ireturn rfl (by first | rfl | exact nar_bi _ | assumption) dX8_works_121 ⟨_, rfl, ?_⟩
            exact K _
        · rw [if_pos h49] at hw
          obtain ⟨ht, hq, hnx⟩ := scn_st h49 (hsc h49)
          have el : ltr c N p = c p := if_pos h49
          have hs4 := shp_lt (c p)
          have h6 := sln_lt (shp (c p))
          cases hst : stm c p r m with
          | none =>
            rw [hst] at hw
            have hw : wrk c N (σ 0) n = (-2000 - nI p, σ 0) := hw
            refine r_aload_n dX8_works_52 rfl ?_
            refine getX8_29 rfl dX8_works_53 ?_
            refine r_iload_n dX8_works_56 rfl ?_
            refine r_aload_n dX8_works_57 rfl ?_
            refine getX8_16 rfl dX8_works_58 ?_
            refine cVN_i2 fX5_isObeyed rcv_14 lkX8_71 rfl dX8_works_61 (sp_X5_isObeyed (c := c) (N := N) (n := m) hLt (by rw [up_at]; exact hWr) ht ?_)
            rw [up_at, hst, up_up]
            refine r_if_eq 73 dX8_works_64 rfl (fun h64 => ?_) (fun h64 => ?_)
            · refine r_sipush (-2000) dX8_works_73 rfl ?_
              refine r_iload_n dX8_works_76 rfl ?_
              refine r_isub dX8_works_77 ?_
              refine r_istore_n_2 dX8_works_78 rfl ?_
              refine r_iload_n dX8_works_79 rfl ?_
              refine r_iconst (1) dX8_works_80 rfl ?_
              refine r_aload_n dX8_works_81 rfl ?_
              refine getX8_29 rfl dX8_works_82 ?_
              refine r_iload_n dX8_works_85 rfl ?_
              refine cVN_r1 fX5_shapeAt rcv_14 lkX8_75 rfl dX8_works_86 (sp_X5_shapeAt (c := c) (N := N) (LT_up hL (by omega)) (by omega) ?_)
              rw [el]
              refine cV_i0 fJ0_length_8abf5 (rcv_str (by omega)) lkX8_79 rfl dX8_works_89 (sp_J0_length_8abf5 (by omega) ?_)
              refine r_iadd dX8_works_92 ?_
              refine r_iadd dX8_works_93 ?_
              refine r_istore_n_3 dX8_works_94 rfl ?_
              refine r_goto 37 dX8_works_95 rfl ?_
              exact BAD _ _ (neg_lt 2000 (by decide) p (by omega)) hw _ _
            · exact absurd rfl h64
          | some x =>
            rw [hst] at hw
            dsimp only at hw
            refine r_aload_n dX8_works_52 rfl ?_
            refine getX8_29 rfl dX8_works_53 ?_
            refine r_iload_n dX8_works_56 rfl ?_
            refine r_aload_n dX8_works_57 rfl ?_
            refine getX8_16 rfl dX8_works_58 ?_
            refine cVN_i2 fX5_isObeyed rcv_14 lkX8_71 rfl dX8_works_61 (sp_X5_isObeyed (c := c) (N := N) (n := m) hLt (by rw [up_at]; exact hWr) ht ?_)
            rw [up_at, hst, up_up]
            refine r_if_eq 73 dX8_works_64 rfl (fun h64 => ?_) (fun h64 => ?_)
            · exact absurd h64 (by show ¬ bi true = 0; decide)
            · refine r_iload_n dX8_works_67 rfl ?_
              refine r_iconst (1) dX8_works_68 rfl ?_
              refine r_iadd dX8_works_69 ?_
              rw [nI_1]
              refine r_goto 78 dX8_works_70 rfl ?_
              refine r_istore_n_2 dX8_works_78 rfl ?_
              refine r_iload_n dX8_works_79 rfl ?_
              refine r_iconst (1) dX8_works_80 rfl ?_
              refine r_aload_n dX8_works_81 rfl ?_
              refine getX8_29 rfl dX8_works_82 ?_
              refine r_iload_n dX8_works_85 rfl ?_
              refine cVN_r1 fX5_shapeAt rcv_14 lkX8_75 rfl dX8_works_86 (sp_X5_shapeAt (c := c) (N := N) (LT_up hL (by omega)) (by omega) ?_)
              rw [el]
              refine cV_i0 fJ0_length_8abf5 (rcv_str (by omega)) lkX8_79 rfl dX8_works_89 (sp_J0_length_8abf5 (by omega) ?_)
              refine r_iadd dX8_works_92 ?_
              rw [show (1 : Int32) = nI 1 from rfl, nI_add]
              refine r_iadd dX8_works_93 ?_
              rw [nI_add, ← Nat.add_assoc]
              refine r_istore_n_3 dX8_works_94 rfl ?_
              refine r_goto 37 dX8_works_95 rfl ?_
              exact ih _ _ _ _ (by omega) hq hnx (stm_WF ht hWr hst) hw (by omega) (Or.inr (by omega)) _
  refine Mw_of (L0 := [some (.ref (ad E 0 0)), none, none, none]) pn_X8 rfl rfl (Nat.le_of_ble_eq_true rfl) ?_
  refine r_aload_n dX8_works_0 rfl ?_
  refine getX8_16 rfl dX8_works_1 ?_
  refine r_aload_n dX8_works_4 rfl ?_
  refine getX8_10 rfl dX8_works_5 ?_
  refine cVN_v1 fX1_become (rcv_1 (by omega)) lkX8_63 rfl dX8_works_8 (sp_X1_become (by omega) (by omega) (by omega) ?_)
  refine r_aload_n dX8_works_11 rfl ?_
  refine getX8_29 rfl dX8_works_12 ?_
  refine cVN_i0 fX5_firstWrongLetter rcv_14 lkX8_67 rfl dX8_works_15 (sp_X5_firstWrongLetter (c := c) (N := N) (LT_up hL (by omega)) ?_)
  refine r_istore_n_1 dX8_works_18 rfl ?_
  refine r_iload_n dX8_works_19 rfl ?_
  refine r_bipush (-9) dX8_works_20 rfl ?_
  refine r_icmp_ne 29 dX8_works_22 rfl (fun h22 => ?_) (fun h22 => ?_)
  · cases hsc : (scn c N (N + 1) 0).1 with
    | none => rw [hsc] at h22; exact absurd rfl h22
    | some w =>
      have hlt := scn_lt _ _ _ hsc (by omega)
      have hw : wrk c N (σ 0) n = (-1000 - nI w, σ 0) := by unfold wrk; rw [hsc]
      refine r_sipush (-1000) dX8_works_29 rfl ?_
      refine r_iload_n dX8_works_32 rfl ?_
      refine r_isub dX8_works_33 ?_
      refine r_istore_n_2 dX8_works_34 rfl ?_
      refine r_iconst (0) dX8_works_35 rfl ?_
      refine r_istore_n_3 dX8_works_36 rfl ?_
      exact BAD _ _ (neg_lt 1000 (by decide) w (by omega)) hw _ _
  · have hsc : (scn c N (N + 1) 0).1 = none := (oI_ne9 (fun x hx => by have := scn_lt _ _ _ hx (by omega); omega)).mp h22
    have hw : wrk c N (σ 0) n = wrk2 (rnn c N (N + 1) 0 (σ 0) n 0) (σ 0) := by unfold wrk; rw [hsc]
    refine r_iconst (0) dX8_works_25 rfl ?_
    refine r_goto 34 dX8_works_26 rfl ?_
    refine r_istore_n_2 dX8_works_34 rfl ?_
    refine r_iconst (0) dX8_works_35 rfl ?_
    refine r_istore_n_3 dX8_works_36 rfl ?_
    exact LOOP hsc (N + 1) 0 _ _ 0 (by omega) (by omega) (fun _ => hsc) hW hw (by omega) (Or.inl rfl) _
end WORKS8
