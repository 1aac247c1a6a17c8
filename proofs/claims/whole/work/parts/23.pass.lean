/-! ===== paid at work; days pass ===== -/
section PASS
variable {E : EnvT} {Z : ZT} {M : MI} {pc index i q : Nat} {L : List (Option Value)} {S : List Value} {σ : Sg}
theorem d_due {f : Int32} (hq : q < 6) (hi : i < 3) (hw : Cond.methodLink M.1.cls index yX7_dueAfter ∈ TB) (k0 : cOK mX7_dueAfter Z S = true) (k1 : cOK mX0_dueAfter Z S = true) (k2 : cOK mX4_dueAfter Z S = true) (k3 : cOK mX2_dueAfter Z S = true) (d : decode M.2.1 pc = .ok (.invokevirtual index, 3)) (K : GW E Z M (pc + 3) L (.int (pbh (nI q) f) :: S) σ) : GW E Z M pc L (.int f :: .ref (ad E (3 + q) i) :: S) σ := by
  match q, hq, K with
  | 0, _, K => exact u0_dueAfter hi hw k0 d (sp_X7_dueAfter K)
  | 1, _, K => exact u1_dueAfter hi hw k0 d (sp_X7_dueAfter K)
  | 2, _, K => exact u2_dueAfter hi hw k1 d (sp_X0_dueAfter hi K)
  | 3, _, K => exact u3_dueAfter hi hw k0 d (sp_X7_dueAfter K)
  | 4, _, K => exact u4_dueAfter hi hw k2 d (sp_X4_dueAfter K)
  | 5, _, K => exact u5_dueAfter hi hw k3 d (sp_X2_dueAfter K)
  | q + 6, h, _ => omega
theorem d_pay {p n : Nat} (hq : q < 6) (hi : i < 3) (hW : WF (σ i) n) (hp : p < n) (hk : σ i (3 + 5 * p) = nI q) (hw : Cond.methodLink M.1.cls index yX7_choosePayer ∈ TB) (k0 : cOK mX7_choosePayer Z S = true) (k1 : cOK mX0_choosePayer Z S = true) (k2 : cOK mX3_choosePayer Z S = true) (k3 : cOK mX2_choosePayer Z S = true) (d : decode M.2.1 pc = .ok (.invokevirtual index, 3)) (K : GW E Z M (pc + 3) L (.int (oI (fromW (σ i) n p)) :: S) σ) : GW E Z M pc L (.int (nI p) :: .ref (ad E 1 i) :: .ref (ad E (3 + q) i) :: S) σ := by
  obtain ⟨hn, hn6, hw7⟩ := hW
  have h7 : ∀ o, o < 6 → R7 (σ i (5 + 5 * o)) := fun o ho => (hw7 o ho).2.2.1
  unfold fromW at K
  rw [hk] at K
  match q, hq, K with
  | 0, _, K => exact u0_choosePayer hi hw k0 d (sp_X7_choosePayer hi hn hn6 hp K)
  | 1, _, K => exact u1_choosePayer hi hw k2 d (sp_X3_choosePayer hi hn hn6 hp h7 K)
  | 2, _, K => exact u2_choosePayer hi hw k1 d (sp_X0_choosePayer hi hn hn6 hp K)
  | 3, _, K => exact u3_choosePayer hi hw k2 d (sp_X3_choosePayer hi hn hn6 hp h7 K)
  | 4, _, K => exact u4_choosePayer hi hw k1 d (sp_X0_choosePayer hi hn hn6 hp K)
  | 5, _, K => exact u5_choosePayer hi hw k3 d (sp_X2_choosePayer hi hn hn6 hp K)
  | q + 6, h, _ => omega
theorem d_wkd {m : Nat} (hq : q < 6) (hi : i < 3) (hm : m < 128) (h0 : m ≠ 0) (hw : Cond.methodLink M.1.cls index yX7_chooseWeekday ∈ TB) (k0 : cOK mX7_chooseWeekday Z S = true) (k1 : cOK mX6_chooseWeekday Z S = true) (d : decode M.2.1 pc = .ok (.invokevirtual index, 3)) (K : GW E Z M (pc + 3) L (.int (oI (whc (isLst (nI q)) (nI m) 7)) :: S) σ) : GW E Z M pc L (.int (nI m) :: .ref (ad E (3 + q) i) :: S) σ := by
  match q, hq, K with
  | 0, _, K => exact u0_chooseWeekday hi hw k0 d (sp_X7_chooseWeekday hm h0 K)
  | 1, _, K => exact u1_chooseWeekday hi hw k0 d (sp_X7_chooseWeekday hm h0 K)
  | 2, _, K => exact u2_chooseWeekday hi hw k0 d (sp_X7_chooseWeekday hm h0 K)
  | 3, _, K => exact u3_chooseWeekday hi hw k1 d (sp_X6_chooseWeekday hm h0 K)
  | 4, _, K => exact u4_chooseWeekday hi hw k0 d (sp_X7_chooseWeekday hm h0 K)
  | 5, _, K => exact u5_chooseWeekday hi hw k1 d (sp_X6_chooseWeekday hm h0 K)
  | q + 6, h, _ => omega
end PASS
section PASS2
variable {E : EnvT} {σ : Sg} {Q : Int32 → Sg → Prop}
def pdC (b : Bool) (r : Row) (p : Nat) : Bool := decide (0 < pbh (r (3 + 5 * p)) (r (4 + 5 * p))) && decide (pbh (r (3 + 5 * p)) (r (4 + 5 * p)) ≤ r (7 + 5 * p)) && b
def pdR (b : Bool) (r : Row) (n p : Nat) : Row := if pdC b r p then payR r n p else r
def pdB (b : Bool) (r : Row) (n p : Nat) : Bool := pdC b r p && (fromW r n p).isSome
theorem pbh_nn : ∀ q, q ∈ List.range 6 → ∀ f, f ∈ List.range 10 → ¬ pbh (nI q) (nI f) = 0 → 0 < pbh (nI q) (nI f) := by decide +kernel
theorem ipw_tail {i n p : Nat} {b : Bool} {τ : Sg} (hi : i < 3) (hW : WF (τ i) n) (hp : p < n) (K : Q (bi (pdB b (τ i) n p)) (va_up τ i (pdR b (τ i) n p))) (y3 y4 y5 : Option Value) : GW E (ZM E 2 fun v σ' => ∃ r, v = some (.int r) ∧ Q r σ') mX1_isPaidAtWork 38 [some (.ref (ad E 1 i)), some (.int (nI p)), some (.int (bi b)), y3, y4, y5] [] τ := by
  have hn6 := hW.2.1
  obtain ⟨⟨q, hq, ek⟩, ⟨f, hf, ef⟩, -, -, -⟩ := hW.2.2 p (by omega)
  have KF : pdC b (τ i) p = false → Q 0 τ := fun h => by
    unfold pdB pdR at K
    rw [h] at K
    simp only [Bool.false_and, Bool.false_eq_true, if_false, up_same] at K
    exact K
  refine r_aload_n dX1_isPaidAtWork_38 rfl ?_
  refine r_iload_n dX1_isPaidAtWork_39 rfl ?_
  refine cV_r1 fX1_ruleOf (rcv_1 (by omega)) lkX1_93 rfl dX1_isPaidAtWork_40 (sp_X1_ruleOf hi (by omega) hq ek ?_)
  refine r_astore_n_3 dX1_isPaidAtWork_43 rfl ?_
  refine r_aload_n dX1_isPaidAtWork_44 rfl ?_
  refine r_aload_n dX1_isPaidAtWork_45 rfl ?_
  refine getX1_37 (by omega) rfl dX1_isPaidAtWork_46 ?_
  refine r_iload_n dX1_isPaidAtWork_49 rfl ?_
  refine ld_10  (by omega) (by omega) dX1_isPaidAtWork_50 ?_
  refine d_due hq hi lkX1_97 rfl rfl rfl rfl dX1_isPaidAtWork_51 ?_
  rw [← ek]
  refine r_istore_4 dX1_isPaidAtWork_54 rfl ?_
  refine r_iload_n dX1_isPaidAtWork_56 rfl ?_
  refine r_if_eq 76 dX1_isPaidAtWork_57 rfl (fun h57 => ?_) (fun h57 => ?_)
  · refine r_iconst (0) dX1_isPaidAtWork_76 rfl ?_
    refine r_ireturn rfl (by first | rfl | exact nar_bi _ | assumption) dX1_isPaidAtWork_77 ⟨_, rfl, ?_⟩
    exact KF (by unfold pdC; rw [(bi_eq0 _).mp h57, Bool.and_false])
  · refine r_iload dX1_isPaidAtWork_60 rfl ?_
    refine r_if_eq 76 dX1_isPaidAtWork_62 rfl (fun h62 => ?_) (fun h62 => ?_)
    · refine r_iconst (0) dX1_isPaidAtWork_76 rfl ?_
      refine r_ireturn rfl (by first | rfl | exact nar_bi _ | assumption) dX1_isPaidAtWork_77 ⟨_, rfl, ?_⟩
      exact KF (by unfold pdC; rw [h62]; rfl)
    · have hpos : 0 < pbh (τ i (3 + 5 * p)) (τ i (4 + 5 * p)) := by
        rw [ek, ef] at h62 ⊢
        exact pbh_nn q (List.mem_range.mpr hq) f (List.mem_range.mpr hf) h62
      refine r_aload_n dX1_isPaidAtWork_65 rfl ?_
      refine getX1_46 (by omega) rfl dX1_isPaidAtWork_66 ?_
      refine r_iload_n dX1_isPaidAtWork_69 rfl ?_
      refine ld_13  (by omega) (by omega) dX1_isPaidAtWork_70 ?_
      refine r_iload dX1_isPaidAtWork_71 rfl ?_
      refine r_icmp_ge 78 dX1_isPaidAtWork_73 rfl (fun h73 => ?_) (fun h73 => ?_)
      · have hC : pdC b (τ i) p = true := by unfold pdC; rw [decide_eq_true hpos, decide_eq_true h73, tb_of h57]; rfl
        unfold pdB pdR payR at K
        rw [hC] at K
        simp only [Bool.true_and, if_true] at K
        refine r_aload_n dX1_isPaidAtWork_78 rfl ?_
        refine r_aload_n dX1_isPaidAtWork_79 rfl ?_
        refine r_iload_n dX1_isPaidAtWork_80 rfl ?_
        refine d_pay hq hi hW hp ek lkX1_101 rfl rfl rfl rfl dX1_isPaidAtWork_81 ?_
        refine r_istore_5 dX1_isPaidAtWork_84 rfl ?_
        cases hfw : fromW (τ i) n p with
        | none =>
          rw [hfw] at K
          rw [oI_none]
          refine r_iload dX1_isPaidAtWork_86 rfl ?_
          refine r_bipush (-9) dX1_isPaidAtWork_88 rfl ?_
          refine r_icmp_ne 95 dX1_isPaidAtWork_90 rfl (fun h90 => ?_) (fun h90 => ?_)
          · exact absurd rfl h90
          · refine r_iconst (0) dX1_isPaidAtWork_93 rfl ?_
            refine r_ireturn rfl (by first | rfl | exact nar_bi _ | assumption) dX1_isPaidAtWork_94 ⟨_, rfl, ?_⟩
            dsimp only at K
            rw [up_same] at K
            exact K
        | some o =>
          have ho := fromW_lt (by omega) hfw
          have hw0 := fromW_wnt hfw
          have hw7 : R7 (wnt (τ i) p o) := wnt_R7 (hW.2.2 o (by omega)).2.2.1
          obtain ⟨m, hm, em⟩ := R7_ex hw7
          have hm0 : m ≠ 0 := fun h => hw0 (by rw [em, h]; rfl)
          obtain ⟨d, hd, ed, hbt⟩ := whc_some (last := isLst (τ i (3 + 5 * p))) hw7 hw0
          obtain ⟨hb1, hb2, hpo⟩ := wnt_bt (by omega) hbt
          rw [hfw] at K
          dsimp only [Option.isSome] at K
          rw [ed, oI_some] at K
          rw [oI_some]
          refine r_iload dX1_isPaidAtWork_86 rfl ?_
          refine r_bipush (-9) dX1_isPaidAtWork_88 rfl ?_
          refine r_icmp_ne 95 dX1_isPaidAtWork_90 rfl (fun h90 => ?_) (fun h90 => ?_)
          · refine r_aload_n dX1_isPaidAtWork_95 rfl ?_
            refine r_iload dX1_isPaidAtWork_96 rfl ?_
            refine r_iload_n dX1_isPaidAtWork_98 rfl ?_
            refine r_aload_n dX1_isPaidAtWork_99 rfl ?_
            refine r_aload_n dX1_isPaidAtWork_100 rfl ?_
            refine r_iload dX1_isPaidAtWork_101 rfl ?_
            refine r_iload_n dX1_isPaidAtWork_103 rfl ?_
            refine cV_i2 fX1_offered (rcv_1 (by omega)) lkX1_105 rfl dX1_isPaidAtWork_104 (sp_X1_offered hi (by omega) (by omega) ?_)
            rw [em]
            refine d_wkd hq hi hm hm0 lkX1_108 rfl rfl dX1_isPaidAtWork_107 ?_
            rw [← em, ← ek, ed, oI_some]
            refine cV_v3 fX1_hand (rcv_1 (by omega)) lkX1_111 rfl dX1_isPaidAtWork_110 (sp_X1_hand hi (by omega) (by omega) ?_)
            rw [hnd_mvd (by omega) hpo hb1 hb2]
            refine r_aload_n dX1_isPaidAtWork_113 rfl ?_
            refine r_aload_n dX1_isPaidAtWork_114 rfl ?_
            refine getX1_53 (by omega) rfl dX1_isPaidAtWork_115 ?_
            refine r_iconst (1) dX1_isPaidAtWork_118 rfl ?_
            refine r_iadd dX1_isPaidAtWork_119 ?_
            refine r_sipush (9999) dX1_isPaidAtWork_120 rfl ?_
            refine r_mmin lkX1_90 wm_min1 wm_init wm_min2 rfl dX1_isPaidAtWork_123 ?_
            refine putX1_53 (by omega) rfl dX1_isPaidAtWork_126 ?_
            refine r_aload_n dX1_isPaidAtWork_129 rfl ?_
            refine getX1_46 (by omega) rfl dX1_isPaidAtWork_130 ?_
            refine r_iload_n dX1_isPaidAtWork_133 rfl ?_
            refine r_iconst (0) dX1_isPaidAtWork_134 rfl ?_
            refine st_13  (by omega) (by omega) dX1_isPaidAtWork_135 ?_
            refine r_iconst (1) dX1_isPaidAtWork_136 rfl ?_
            refine r_ireturn rfl (by first | rfl | exact nar_bi _ | assumption) dX1_isPaidAtWork_137 ⟨_, rfl, ?_⟩
            exact qof K rfl (by simp only [s2, up_at, up_up, least])
          · exact absurd h90 (fun e => absurd (nI_pos (n := o) (by omega)) (by rw [e]; decide))
      · refine r_iconst (0) dX1_isPaidAtWork_76 rfl ?_
        refine r_ireturn rfl (by first | rfl | exact nar_bi _ | assumption) dX1_isPaidAtWork_77 ⟨_, rfl, ?_⟩
        exact KF (by unfold pdC; rw [decide_eq_false h73, Bool.and_false]; rfl)
theorem sp_X1_isPaidAtWork {i n p : Nat} {b : Bool} (hi : i < 3) (hW : WF (σ i) n) (hp : p < n) (K : Q (bi (pdB b (upW (σ i) p) n p)) (va_up σ i (pdR b (upW (σ i) p) n p))) : Mi E mX1_isPaidAtWork [.ref (ad E 1 i), .int (nI p), .int (bi b)] σ Q := by
  have hn6 := hW.2.1
  refine Mw_of (L0 := [some (.ref (ad E 1 i)), some (.int (nI p)), some (.int (bi b)), none, none, none]) pn_X1 rfl rfl (Nat.le_of_ble_eq_true rfl) ?_
  refine r_aload_n dX1_isPaidAtWork_0 rfl ?_
  refine getX1_43 (by omega) rfl dX1_isPaidAtWork_1 ?_
  refine r_iload_n dX1_isPaidAtWork_4 rfl ?_
  refine r_aload_n dX1_isPaidAtWork_5 rfl ?_
  refine getX1_43 (by omega) rfl dX1_isPaidAtWork_6 ?_
  refine r_iload_n dX1_isPaidAtWork_9 rfl ?_
  refine ld_12  (by omega) (by omega) dX1_isPaidAtWork_10 ?_
  refine r_iconst (1) dX1_isPaidAtWork_11 rfl ?_
  refine r_iadd dX1_isPaidAtWork_12 ?_
  refine r_bipush (30) dX1_isPaidAtWork_13 rfl ?_
  refine r_mmin lkX1_90 wm_min1 wm_init wm_min2 rfl dX1_isPaidAtWork_15 ?_
  refine st_12  (by omega) (by omega) dX1_isPaidAtWork_18 ?_
  refine r_aload_n dX1_isPaidAtWork_19 rfl ?_
  refine getX1_46 (by omega) rfl dX1_isPaidAtWork_20 ?_
  refine r_iload_n dX1_isPaidAtWork_23 rfl ?_
  refine r_aload_n dX1_isPaidAtWork_24 rfl ?_
  refine getX1_46 (by omega) rfl dX1_isPaidAtWork_25 ?_
  refine r_iload_n dX1_isPaidAtWork_28 rfl ?_
  refine ld_13  (by omega) (by omega) dX1_isPaidAtWork_29 ?_
  refine r_iconst (1) dX1_isPaidAtWork_30 rfl ?_
  refine r_iadd dX1_isPaidAtWork_31 ?_
  refine r_bipush (9) dX1_isPaidAtWork_32 rfl ?_
  refine r_mmin lkX1_90 wm_min1 wm_init wm_min2 rfl dX1_isPaidAtWork_34 ?_
  refine st_13  (by omega) (by omega) dX1_isPaidAtWork_37 ?_
  refine r_sub (τ := va_up σ i (upW (σ i) p)) (by simp only [s2, up_at, up_up, upW, least]; rfl) ?_
  exact ipw_tail hi (by rw [up_at]; exact upW_WF hW (by omega)) hp (by rw [up_at, up_up]; exact K) _ _ _
/-- how many wages: of the workers below p on a day; of k days -/
def wcnt (u : Int32) (n : Nat) (r : Row) : Nat → Int32
  | 0 => 0
  | p + 1 => wcnt u n r p + (if tb (wdays u n r p (5 + 5 * p)) (irm (wdays u n r p 1) 7) then 0 else bi (pdB (!tb u (nI p)) (upW (wdays u n r p) p) n p))
def ncnt (u : Int32) (n : Nat) (r : Row) : Nat → Int32
  | 0 => 0
  | k + 1 => ncnt u n r k + wcnt u n (upd (dayN u n r k) 1 (dayN u n r k 1 + 1)) n
theorem dn2_N {t : Nat} (ht : t < 31) : (if nI t - 2 < 0 then (0 : Int32) else nI t - 2) = if nI t < 2 then 0 else nI t - 2 := by
  rw [dn_N ht]
  exact (by decide +kernel : ∀ t, t < 31 → (if nI t - 2 < 0 then (0 : Int32) else nI t - 2) = nI (t - 2)) t ht
theorem sp_X1_passDays {i n m : Nat} {u : Int32} (hi : i < 3) (hW : WF (σ i) n) (hm : m < 1000) (K : Q (ncnt u n (σ i) m) (va_up σ i (dayN u n (σ i) m))) : Mi E mX1_passDays [.ref (ad E 1 i), .int (nI m), .int u] σ Q := by
  have hn6 := hW.2.1
  refine Mw_of (L0 := [some (.ref (ad E 1 i)), some (.int (nI m)), some (.int u), none, none, none]) pn_X1 rfl rfl (Nat.le_of_ble_eq_true rfl) ?_
  refine r_iconst (0) dX1_passDays_0 rfl ?_
  refine r_istore_n_3 dX1_passDays_1 rfl ?_
  refine r_iconst (0) dX1_passDays_2 rfl ?_
  refine r_istore_4 dX1_passDays_3 rfl ?_
  have LOOP : ∀ k, k ≤ m → ∀ y, GW E (ZM E 3 fun v σ' => ∃ r, v = some (.int r) ∧ Q r σ') mX1_passDays 5 [some (.ref (ad E 1 i)), some (.int (nI m)), some (.int u), some (.int (ncnt u n (σ i) k)), some (.int (nI k)), y] [] (va_up σ i (dayN u n (σ i) k)) := by
    refine down ?_ ?_
    · intro y
      refine r_iload dX1_passDays_5 rfl ?_
      refine r_iload_n dX1_passDays_7 rfl ?_
      refine r_icmp_ge_N 110 dX1_passDays_8 rfl (by omega) (by omega) (fun h8 => ?_) (fun h8 => ?_)
      · refine r_iload_n dX1_passDays_110 rfl ?_
        refine r_ireturn rfl (by first | rfl | exact nar_bi _ | assumption) dX1_passDays_111 ⟨_, rfl, ?_⟩
        exact K
      · exfalso; omega
    · intro k hk ih y
      refine r_iload dX1_passDays_5 rfl ?_
      refine r_iload_n dX1_passDays_7 rfl ?_
      refine r_icmp_ge_N 110 dX1_passDays_8 rfl (by omega) (by omega) (fun h8 => ?_) (fun h8 => ?_)
      · exfalso; omega
      · rw [ncnt] at ih
        have hWk : WF (dayN u n (σ i) k) n := dayN_WF hW k
        have ed : dayN u n (σ i) (k + 1) = wdays u n (upd (dayN u n (σ i) k) 1 (dayN u n (σ i) k 1 + 1)) n := rfl
        rw [ed] at ih
        refine r_aload_n dX1_passDays_11 rfl ?_
        refine r_dup dX1_passDays_12 rfl ?_
        refine getX1_56 (by omega) rfl dX1_passDays_13 ?_
        refine r_iconst (1) dX1_passDays_16 rfl ?_
        refine r_iadd dX1_passDays_17 ?_
        refine putX1_56 (by omega) rfl dX1_passDays_18 ?_
        refine r_iconst (0) dX1_passDays_21 rfl ?_
        refine r_istore_5 dX1_passDays_22 rfl ?_
        rw [s2_up, up_at]
        have hW0 : WF (upd (dayN u n (σ i) k) 1 (dayN u n (σ i) k 1 + 1)) n := upd1_WF hWk
        generalize upd (dayN u n (σ i) k) 1 (dayN u n (σ i) k 1 + 1) = R at ih hW0 ⊢
        generalize ncnt u n (σ i) k = c0 at ih ⊢
        have INNER : ∀ p, p ≤ n → GW E (ZM E 3 fun v σ' => ∃ r, v = some (.int r) ∧ Q r σ') mX1_passDays 24 [some (.ref (ad E 1 i)), some (.int (nI m)), some (.int u), some (.int (c0 + wcnt u n R p)), some (.int (nI k)), some (.int (nI p))] [] (va_up σ i (wdays u n R p)) := by
          refine down ?_ ?_
          · refine r_iload dX1_passDays_24 rfl ?_
            refine r_aload_n dX1_passDays_26 rfl ?_
            refine getX1_49 (by omega) rfl dX1_passDays_27 ?_
            rw [up_at, (wdays_WF hW0 n (Nat.le_refl n)).1]
            refine r_icmp_ge_N 104 dX1_passDays_30 rfl (by omega) (by omega) (fun h30 => ?_) (fun h30 => ?_)
            · refine r_inc1_4 dX1_passDays_104 rfl ?_
              refine r_goto 5 dX1_passDays_107 rfl ?_
              exact ih _
            · exfalso; omega
          · intro p hp ih2
            have hWp := wdays_WF (u := u) hW0 p (by omega)
            rw [wdays, wcnt] at ih2
            generalize wcnt u n R p = c1 at ih2 ⊢
            generalize wdays u n R p = ρ at ih2 hWp ⊢
            obtain ⟨-, -, -, ⟨t, ht, et⟩, -⟩ := hWp.2.2 p (by omega)
            unfold wday irm at ih2
            refine r_iload dX1_passDays_24 rfl ?_
            refine r_aload_n dX1_passDays_26 rfl ?_
            refine getX1_49 (by omega) rfl dX1_passDays_27 ?_
            rw [up_at, hWp.1]
            refine r_icmp_ge_N 104 dX1_passDays_30 rfl (by omega) (by omega) (fun h30 => ?_) (fun h30 => ?_)
            · exfalso; omega
            · refine r_aload_n dX1_passDays_33 rfl ?_
              refine r_iload dX1_passDays_34 rfl ?_
              refine r_aload_n dX1_passDays_36 rfl ?_
              refine getX1_56 (by omega) rfl dX1_passDays_37 ?_
              rw [up_at]
              refine r_bipush (7) dX1_passDays_40 rfl ?_
              refine r_irem dX1_passDays_42 (by decide) ?_
              refine cV_i2 fX1_isOff (rcv_1 (by omega)) lkX1_73 rfl dX1_passDays_43 (sp_X1_isOff hi (by omega) ?_)
              rw [up_at]
              refine r_if_eq 72 dX1_passDays_46 rfl (fun h46 => ?_) (fun h46 => ?_)
              · rw [(bi_eq0 _).mp h46] at ih2
                simp only [Bool.false_eq_true, if_false] at ih2
                have ip : (if payC u (upW ρ p) p = true then payR (upW ρ p) n p else upW ρ p) = pdR (!tb u (nI p)) (upW ρ p) n p := rfl
                rw [ip] at ih2
                have key : GW E (ZM E 3 fun v σ' => ∃ r, v = some (.int r) ∧ Q r σ') mX1_passDays 89 [some (.ref (ad E 1 i)), some (.int (nI m)), some (.int u), some (.int (c0 + c1)), some (.int (nI k)), some (.int (nI p))] [.int (bi (!tb u (nI p))), .int (nI p), .ref (ad E 1 i)] (va_up σ i ρ) := by
                  refine cV_i2 fX1_isPaidAtWork (rcv_1 (by omega)) lkX1_86 rfl dX1_passDays_89 (sp_X1_isPaidAtWork hi (by rw [up_at]; exact hWp) hp ?_)
                  rw [up_at, up_up]
                  refine r_if_eq 98 dX1_passDays_92 rfl (fun h92 => ?_) (fun h92 => ?_)
                  · rw [h92] at ih2
                    refine r_inc1_5 dX1_passDays_98 rfl ?_
                    refine r_goto 24 dX1_passDays_101 rfl ?_
                    rw [show c1 + 0 = c1 from Int32.add_zero c1] at ih2
                    exact ih2
                  · have hb := tb_of h92
                    rw [hb] at ih2
                    refine r_iinc_3 dX1_passDays_95 rfl ?_
                    refine r_inc1_5 dX1_passDays_98 rfl ?_
                    refine r_goto 24 dX1_passDays_101 rfl ?_
                    rw [show c0 + (c1 + bi true) = c0 + c1 + Int32.ofInt 1 from (Int32.add_assoc c0 c1 1).symm] at ih2
                    exact ih2
                refine r_aload_n dX1_passDays_72 rfl ?_
                refine r_iload dX1_passDays_73 rfl ?_
                refine r_iload_n dX1_passDays_75 rfl ?_
                refine r_iload dX1_passDays_76 rfl ?_
                refine cSN_i2 fX8_hasBit lkX1_69 rfl dX1_passDays_78 (sp_X8_hasBit  ?_)
                refine r_if_ne 88 dX1_passDays_81 rfl (fun h81 => ?_) (fun h81 => ?_)
                · rw [tb_of h81] at key
                  refine r_iconst (0) dX1_passDays_88 rfl ?_
                  exact key
                · rw [(bi_eq0 _).mp h81] at key
                  refine r_iconst (1) dX1_passDays_84 rfl ?_
                  refine r_goto 89 dX1_passDays_85 rfl ?_
                  exact key
              · rw [tb_of h46] at ih2
                simp only [if_true] at ih2
                refine r_aload_n dX1_passDays_49 rfl ?_
                refine getX1_43 (by omega) rfl dX1_passDays_50 ?_
                refine r_iload dX1_passDays_53 rfl ?_
                refine r_aload_n dX1_passDays_55 rfl ?_
                refine getX1_43 (by omega) rfl dX1_passDays_56 ?_
                refine r_iload dX1_passDays_59 rfl ?_
                refine ld_12  (by omega) (by omega) dX1_passDays_61 ?_
                rw [up_at, et]
                refine r_iconst (2) dX1_passDays_62 rfl ?_
                refine r_isub dX1_passDays_63 ?_
                refine r_iconst (0) dX1_passDays_64 rfl ?_
                refine r_mmax lkX1_80 wm_max1 wm_init wm_max2 rfl dX1_passDays_65 ?_
                rw [dn2_N ht, ← et]
                refine st_12  (by omega) (by omega) dX1_passDays_68 ?_
                refine r_goto 98 dX1_passDays_69 rfl ?_
                refine r_inc1_5 dX1_passDays_98 rfl ?_
                refine r_goto 24 dX1_passDays_101 rfl ?_
                rw [s2_up]
                rw [show c1 + 0 = c1 from Int32.add_zero c1] at ih2
                exact ih2
        refine cast ?_ (INNER 0 (by omega))
        rw [show c0 + wcnt u n R 0 = c0 from Int32.add_zero c0]
        rfl
  refine r_sub ?_ (LOOP 0 (by omega) _)
  exact up_same.symm
end PASS2
