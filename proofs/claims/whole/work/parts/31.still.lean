/-! ===== still ===== -/
section STILL
variable {E : EnvT} {σ : Sg} {Q : Int32 → Sg → Prop} {Qv : Sg → Prop}
/-- how many are paid, as a number -/
def wcN (u : Int32) (n : Nat) (r : Row) : Nat → Nat
  | 0 => 0
  | p + 1 => wcN u n r p + (if tb (wdays u n r p (5 + 5 * p)) (irm (wdays u n r p 1) 7) then 0 else if pdB (!tb u (nI p)) (upW (wdays u n r p) p) n p then 1 else 0)
theorem wcN_le {u : Int32} {n : Nat} {r : Row} : ∀ p, wcN u n r p ≤ p
  | 0 => Nat.le_refl 0
  | p + 1 => by
    unfold wcN
    have := wcN_le (u := u) (n := n) (r := r) p
    split
    · omega
    · split <;> omega
theorem wcnt_N {u : Int32} {n : Nat} {r : Row} : ∀ p, wcnt u n r p = nI (wcN u n r p)
  | 0 => rfl
  | p + 1 => by
    rw [wcnt, wcN, wcnt_N p]
    split
    · exact Int32.add_zero _
    · rw [← nI_add]
      congr 1
      split
      · rename_i h
        rw [h]; rfl
      · rename_i h
        rw [Bool.not_eq_true] at h
        rw [h]; rfl
theorem payR_2 {r : Row} {n p w : Nat} (hw : r 2 = nI w) (hb : w < 9999) : payR r n p 2 = if (fromW r n p).isSome then nI (w + 1) else nI w := by
  unfold payR
  cases fromW r n p with
  | none => exact hw
  | some o =>
    dsimp only [Option.isSome]
    rw [upd_ne (by omega), upd_eq, mvd_0 (by omega), hw, nI_1, if_pos rfl, show (9999 : Int32) = nI 9999 from rfl]
    unfold least
    rw [if_neg (fun q => by have := (nI_ltI (by omega) (by omega)).mp q; omega)]
theorem wday_pd {u : Int32} {n : Nat} {r : Row} {p : Nat} : wday u n r p = if tb (r (5 + 5 * p)) (irm (r 1) 7) then upd r (6 + 5 * p) (if r (6 + 5 * p) < 2 then 0 else r (6 + 5 * p) - 2) else pdR (!tb u (nI p)) (upW r p) n p := rfl
theorem wdays_2 {u : Int32} {n : Nat} {r : Row} {w : Nat} (hw : r 2 = nI w) (hb : w + 6 ≤ 9999) : ∀ p, p ≤ 6 → wdays u n r p 2 = nI (w + wcN u n r p)
  | 0, _ => hw
  | p + 1, hp => by
    have ih := wdays_2 (u := u) (n := n) hw hb p (by omega)
    have hle := wcN_le (u := u) (n := n) (r := r) p
    rw [wdays, wday_pd, wcN]
    split
    · rw [upd_ne (by omega)]; exact ih
    · unfold pdR pdB
      have h2 : upW (wdays u n r p) p 2 = nI (w + wcN u n r p) := by rw [upW_lo (by omega)]; exact ih
      cases hc : pdC (!tb u (nI p)) (upW (wdays u n r p) p) p with
      | false => simp only [Bool.false_eq_true, if_false, Bool.false_and]; exact h2
      | true =>
        simp only [if_true, Bool.true_and]
        rw [payR_2 h2 (by omega)]
        split <;> rfl
theorem wdays_off {u : Int32} {n : Nat} {r : Row} : ∀ p, wcN u n r p = 0 → ∀ q, wdays u n r p (5 + 5 * q) = r (5 + 5 * q)
  | 0, _, q => rfl
  | p + 1, h, q => by
    rw [wcN] at h
    have ih := wdays_off (u := u) (n := n) (r := r) p (by omega) q
    rw [wdays, wday_pd]
    split
    · rw [upd_ne (by omega)]; exact ih
    · rename_i ht
      rw [if_neg ht] at h
      have h0 : pdB (!tb u (nI p)) (upW (wdays u n r p) p) n p = false := by
        cases hb : pdB (!tb u (nI p)) (upW (wdays u n r p) p) n p with
        | false => rfl
        | true => rw [hb] at h; simp at h
      have hu : upW (wdays u n r p) p (5 + 5 * q) = r (5 + 5 * q) := by
        unfold upW
        rw [upd_ne (by omega), upd_ne (by omega)]
        exact ih
      unfold pdR
      unfold pdB at h0
      cases hc : pdC (!tb u (nI p)) (upW (wdays u n r p) p) p with
      | false => simp only [Bool.false_eq_true, if_false]; exact hu
      | true =>
        rw [hc, Bool.true_and] at h0
        simp only [if_true]
        unfold payR
        cases hf : fromW (upW (wdays u n r p) p) n p with
        | none => exact hu
        | some o => rw [hf] at h0; cases h0
def smo (r : Row) : Nat → Int32
  | 0 => 0
  | p + 1 => 131 * smo r p + r (5 + 5 * p)
theorem smo_congr {r r' : Row} (h : ∀ q, r (5 + 5 * q) = r' (5 + 5 * q)) : ∀ k, smo r k = smo r' k
  | 0 => rfl
  | k + 1 => by rw [smo, smo, smo_congr h k, h k]
theorem sp_X9_sumOff {a n : Nat} (ha : 2 < a ∧ a < 7) (hn : σ a 0 = nI n) (hn6 : n ≤ 6) (K : Q (smo (σ a) n) σ) : Mi E mX9_sumOff [.ref (ad E 19 a)] σ Q := by
  refine Mw_of (L0 := [some (.ref (ad E 19 a)), none, none]) pn_X9 rfl rfl (Nat.le_of_ble_eq_true rfl) ?_
  refine r_iconst (0) dX9_sumOff_0 rfl ?_
  refine r_istore_n_1 dX9_sumOff_1 rfl ?_
  refine r_iconst (0) dX9_sumOff_2 rfl ?_
  refine r_istore_n_2 dX9_sumOff_3 rfl ?_
  have LOOP : ∀ k, k ≤ n → GW E (ZM E 1 fun v σ' => ∃ r, v = some (.int r) ∧ Q r σ') mX9_sumOff 4 [some (.ref (ad E 19 a)), some (.int (smo (σ a) k)), some (.int (nI k))] [] σ := by
    refine down ?_ ?_
    · refine r_iload_n dX9_sumOff_4 rfl ?_
      refine r_aload_n dX9_sumOff_5 rfl ?_
      refine r_iconst (0) dX9_sumOff_6 rfl ?_
      refine ld_19 (t := 0)  (by omega) (by omega) dX9_sumOff_7 ?_
      rw [hn]
      refine r_icmp_ge_N 31 dX9_sumOff_8 rfl (by omega) (by omega) (fun h8 => ?_) (fun h8 => ?_)
      · refine r_iload_n dX9_sumOff_31 rfl ?_
        refine r_ireturn rfl (by first | rfl | exact nar_bi _ | assumption) dX9_sumOff_32 ⟨_, rfl, ?_⟩
        exact K
      · exfalso; omega
    · intro k hk ih
      refine r_iload_n dX9_sumOff_4 rfl ?_
      refine r_aload_n dX9_sumOff_5 rfl ?_
      refine r_iconst (0) dX9_sumOff_6 rfl ?_
      refine ld_19 (t := 0)  (by omega) (by omega) dX9_sumOff_7 ?_
      rw [hn]
      refine r_icmp_ge_N 31 dX9_sumOff_8 rfl (by omega) (by omega) (fun h8 => ?_) (fun h8 => ?_)
      · exfalso; omega
      · refine r_sipush (131) dX9_sumOff_11 rfl ?_
        refine r_iload_n dX9_sumOff_14 rfl ?_
        refine r_imul dX9_sumOff_15 ?_
        refine r_aload_n dX9_sumOff_16 rfl ?_
        refine r_iload_n dX9_sumOff_17 rfl ?_
        refine r_iconst (2) dX9_sumOff_18 rfl ?_
        refine cS_i2 fX9_of lkX9_44 rfl dX9_sumOff_19 (sp_of2  ?_)
        refine ld_19  (by omega) (by omega) dX9_sumOff_22 ?_
        refine r_iadd dX9_sumOff_23 ?_
        refine r_istore_n_1 dX9_sumOff_24 rfl ?_
        refine r_inc1_2 dX9_sumOff_25 rfl ?_
        refine r_goto 4 dX9_sumOff_28 rfl ?_
        exact ih
  exact LOOP 0 (by omega)
/-- somebody is paid on the next day -/
def pdy (r : Row) (n : Nat) : Bool := !(wcN 0 n (upd r 1 (r 1 + 1)) n == 0)
theorem sp_X9_isPaidDay {n w : Nat} (hW : WF (σ 4) n) (hw : σ 4 2 = nI w) (hb : w + 6 ≤ 9999) (K : Q (bi (pdy (σ 4) n)) (va_up σ 4 (dayR 0 n (σ 4)))) : Mi E mX9_isPaidDay [.ref (ad E 18 0)] σ Q := by
  have hn6 := hW.2.1
  have h2 : dayR 0 n (σ 4) 2 = nI (w + wcN 0 n (upd (σ 4) 1 (σ 4 1 + 1)) n) := wdays_2 (by rw [upd_ne (by omega)]; exact hw) hb n hn6
  have hle := wcN_le (u := 0) (n := n) (r := upd (σ 4) 1 (σ 4 1 + 1)) n
  have ho : wcN 0 n (upd (σ 4) 1 (σ 4 1 + 1)) n = 0 → smo (dayR 0 n (σ 4)) n = smo (σ 4) n := fun h => smo_congr (fun q => by
    have := wdays_off (u := 0) (n := n) (r := upd (σ 4) 1 (σ 4 1 + 1)) n h q
    rw [upd_ne (by omega)] at this
    exact this) n
  unfold pdy at K
  generalize wcN 0 n (upd (σ 4) 1 (σ 4 1 + 1)) n = c at K h2 hle ho
  refine Mw_of (L0 := [some (.ref (ad E 18 0)), none, none]) pn_X9 rfl rfl (Nat.le_of_ble_eq_true rfl) ?_
  refine r_aload_n dX9_isPaidDay_0 rfl ?_
  refine getX9_13 rfl dX9_isPaidDay_1 ?_
  refine cS_i1 fX9_sumOff lkX9_154 rfl dX9_isPaidDay_4 (sp_X9_sumOff (by omega) hW.1 hn6 ?_)
  refine r_istore_n_1 dX9_isPaidDay_7 rfl ?_
  refine r_aload_n dX9_isPaidDay_8 rfl ?_
  refine getX9_13 rfl dX9_isPaidDay_9 ?_
  refine r_iconst (2) dX9_isPaidDay_12 rfl ?_
  refine ld_19 (t := 2)  (by omega) (by omega) dX9_isPaidDay_13 ?_
  rw [hw]
  refine r_istore_n_2 dX9_isPaidDay_14 rfl ?_
  refine r_aload_n dX9_isPaidDay_15 rfl ?_
  refine getX9_13 rfl dX9_isPaidDay_16 ?_
  refine r_iconst (0) dX9_isPaidDay_19 rfl ?_
  refine cS_v2 fX9_day lkX9_89 rfl dX9_isPaidDay_20 (sp_X9_day (by omega) hW.1 hn6 ?_)
  refine r_aload_n dX9_isPaidDay_23 rfl ?_
  refine getX9_13 rfl dX9_isPaidDay_24 ?_
  refine r_iconst (2) dX9_isPaidDay_27 rfl ?_
  refine ld_19 (t := 2)  (by omega) (by omega) dX9_isPaidDay_28 ?_
  rw [up_at, h2]
  refine r_iload_n dX9_isPaidDay_29 rfl ?_
  refine r_icmp_ne 44 dX9_isPaidDay_30 rfl (fun h30 => ?_) (fun h30 => ?_)
  · refine r_iconst (1) dX9_isPaidDay_44 rfl ?_
    refine r_goto 49 dX9_isPaidDay_45 rfl ?_
    refine r_ireturn rfl (by first | rfl | exact nar_bi _ | assumption) dX9_isPaidDay_49 ⟨_, rfl, ?_⟩
    have hc : c ≠ 0 := fun e => h30 (by rw [e]; rfl)
    exact qof K (by rw [beq_eq_false_iff_ne.mpr hc]; rfl) rfl
  · have hc : c = 0 := by have := (nI_eq (by omega) (by omega)).mp h30; omega
    refine r_aload_n dX9_isPaidDay_33 rfl ?_
    refine getX9_13 rfl dX9_isPaidDay_34 ?_
    refine cS_i1 fX9_sumOff lkX9_154 rfl dX9_isPaidDay_37 (sp_X9_sumOff (by omega) (by rw [up_at]; exact (dayR_WF hW).1) hn6 ?_)
    rw [up_at, ho hc]
    refine r_iload_n dX9_isPaidDay_40 rfl ?_
    refine r_icmp_eq 48 dX9_isPaidDay_41 rfl (fun h41 => ?_) (fun h41 => ?_)
    · refine r_iconst (0) dX9_isPaidDay_48 rfl ?_
      refine r_ireturn rfl (by first | rfl | exact nar_bi _ | assumption) dX9_isPaidDay_49 ⟨_, rfl, ?_⟩
      exact qof K (by rw [hc]; rfl) rfl
    · exact absurd rfl h41
/-- days without a wage on end, behind k days -/
def qt (r : Row) (n : Nat) : Nat → Nat
  | 0 => 0
  | k + 1 => if pdy (dayN 0 n r k) n then 0 else qt r n k + 1
theorem qt_le {r : Row} {n : Nat} : ∀ k, qt r n k ≤ k
  | 0 => Nat.le_refl 0
  | k + 1 => by
    unfold qt
    have := qt_le (r := r) (n := n) k
    split <;> omega
def stf (r : Row) (n : Nat) : Option Nat := fnd (fun k => qt r n (k + 1) == 14) 0 74
def stl (r : Row) (n : Nat) : Option Nat := (stf r n).map (fun k => k - 13)
theorem dayN_w {r : Row} {n w : Nat} (hW : WF r n) (hw : r 2 = nI w) : ∀ k, w + 6 * k ≤ 9993 → ∃ w', dayN 0 n r k 2 = nI w' ∧ w' ≤ w + 6 * k
  | 0, _ => ⟨w, hw, by omega⟩
  | k + 1, hk => by
    obtain ⟨w', h1, h2⟩ := dayN_w hW hw k (by omega)
    have hn6 := hW.2.1
    have hle := wcN_le (u := 0) (n := n) (r := upd (dayN 0 n r k) 1 (dayN 0 n r k 1 + 1)) n
    refine ⟨_, wdays_2 (u := 0) (n := n) (r := upd (dayN 0 n r k) 1 (dayN 0 n r k 1 + 1)) (w := w') (by rw [upd_ne (by omega)]; exact h1) (by omega) n hn6, by omega⟩
theorem sp_X9_still {n w : Nat} (hW : WF (σ 3) n) (hw : σ 3 2 = nI w) (hb : w ≤ 6000) (K : ∀ r4, Q (oI (stl (σ 3) n)) (va_up σ 4 r4)) : Mi E mX9_still [.ref (ad E 18 0)] σ Q := by
  refine Mw_of (L0 := [some (.ref (ad E 18 0)), none, none]) pn_X9 rfl rfl (Nat.le_of_ble_eq_true rfl) ?_
  refine r_aload_n dX9_still_0 rfl ?_
  refine getX9_9 rfl dX9_still_1 ?_
  refine r_aload_n dX9_still_4 rfl ?_
  refine getX9_13 rfl dX9_still_5 ?_
  refine cS_v2 fX9_copies lkX9_129 rfl dX9_still_8 (sp_X9_copies (by omega) (by omega) (by omega) ?_)
  refine r_iconst (0) dX9_still_11 rfl ?_
  refine r_istore_n_1 dX9_still_12 rfl ?_
  refine r_iconst (0) dX9_still_13 rfl ?_
  refine r_istore_n_2 dX9_still_14 rfl ?_
  have LOOP : ∀ k, k ≤ 74 → stf (σ 3) n = fnd (fun k => qt (σ 3) n (k + 1) == 14) k (74 - k) → GW E (ZM E 7 fun v σ' => ∃ r, v = some (.int r) ∧ Q r σ') mX9_still 15 [some (.ref (ad E 18 0)), some (.int (nI (qt (σ 3) n k))), some (.int (nI k))] [] (va_up σ 4 (dayN 0 n (σ 3) k)) := by
    refine down ?_ ?_
    · intro hf
      refine r_iload_n dX9_still_15 rfl ?_
      refine r_bipush (74) dX9_still_16 rfl ?_
      refine r_icmp_ge_N (b := 74) 53 dX9_still_18 rfl (by omega) (by omega) (fun h18 => ?_) (fun h18 => ?_)
      · refine r_bipush (-9) dX9_still_53 rfl ?_
        refine r_ireturn rfl (by first | rfl | exact nar_bi _ | assumption) dX9_still_55 ⟨_, rfl, ?_⟩
        exact qof (K _) (by unfold stl; rw [hf]; rfl) rfl
      · exfalso; omega
    · intro k hk ih hf
      obtain ⟨w', hw1, hw2⟩ := dayN_w hW hw k (by omega)
      have hq := qt_le (r := σ 3) (n := n) k
      rw [show 74 - k = (74 - (k + 1)) + 1 by omega, fnd] at hf
      have key : ∀ v, v = qt (σ 3) n (k + 1) → GW E (ZM E 7 fun v σ' => ∃ r, v = some (.int r) ∧ Q r σ') mX9_still 36 [some (.ref (ad E 18 0)), some (.int (nI v)), some (.int (nI k))] [] (va_up σ 4 (dayN 0 n (σ 3) (k + 1))) := by
        intro v hv
        have hq1 := qt_le (r := σ 3) (n := n) (k + 1)
        refine r_iload_n dX9_still_36 rfl ?_
        refine r_bipush (14) dX9_still_37 rfl ?_
        refine r_icmp_ne 47 dX9_still_39 rfl (fun h39 => ?_) (fun h39 => ?_)
        · have hne : ¬ v = 14 := fun e => h39 (by rw [e]; rfl)
          rw [hv] at hne ⊢
          refine r_inc1_2 dX9_still_47 rfl ?_
          refine r_goto 15 dX9_still_50 rfl ?_
          exact ih (by rw [hf, if_neg (by simpa using hne)])
        · have he : v = 14 := (nI_eq (b := 14) (by omega) (by omega)).mp h39
          rw [← hv, he] at hq1
          refine r_iload_n dX9_still_42 rfl ?_
          refine r_bipush (13) dX9_still_43 rfl ?_
          refine r_isub dX9_still_45 ?_
          refine r_ireturn rfl (by first | rfl | exact nar_bi _ | assumption) dX9_still_46 ⟨_, rfl, ?_⟩
          refine qof (K _) ?_ rfl
          unfold stl
          rw [hf, if_pos (by rw [← hv, he]; rfl)]
          exact pk_sub (b := 13) (by omega)
      rw [qt] at key
      refine r_iload_n dX9_still_15 rfl ?_
      refine r_bipush (74) dX9_still_16 rfl ?_
      refine r_icmp_ge_N (b := 74) 53 dX9_still_18 rfl (by omega) (by omega) (fun h18 => ?_) (fun h18 => ?_)
      · exfalso; omega
      · refine r_aload_n dX9_still_21 rfl ?_
        refine cV_i0 fX9_isPaidDay rcv_18 lkX9_158 rfl dX9_still_22 (sp_X9_isPaidDay (by rw [up_at]; exact dayN_WF hW k) (w := w') (by rw [up_at]; exact hw1) (by omega) ?_)
        rw [up_at, up_up]
        refine r_if_eq 32 dX9_still_25 rfl (fun h25 => ?_) (fun h25 => ?_)
        · rw [(bi_eq0 _).mp h25] at key
          simp only [Bool.false_eq_true, if_false] at key
          refine r_iload_n dX9_still_32 rfl ?_
          refine r_iconst (1) dX9_still_33 rfl ?_
          refine r_iadd dX9_still_34 ?_
          rw [nI_1]
          refine r_istore_n_1 dX9_still_35 rfl ?_
          exact key _ rfl
        · rw [tb_of h25] at key
          simp only [if_true] at key
          refine r_iconst (0) dX9_still_28 rfl ?_
          refine r_goto 35 dX9_still_29 rfl ?_
          refine r_istore_n_1 dX9_still_35 rfl ?_
          exact key 0 rfl
  exact LOOP 0 (by omega) rfl
theorem sp_X8_still {n : Nat} (hW : WF (σ 0) n) (K : ∀ r1, Q (oI (stl (σ 0) n)) (va_up σ 1 r1)) : Mi E mX8_still [.ref (ad E 0 0)] σ Q := by
  have hn6 := hW.2.1
  refine Mw_of (L0 := [some (.ref (ad E 0 0)), none, none]) pn_X8 rfl rfl (Nat.le_of_ble_eq_true rfl) ?_
  refine r_aload_n dX8_still_0 rfl ?_
  refine getX8_16 rfl dX8_still_1 ?_
  refine r_aload_n dX8_still_4 rfl ?_
  refine getX8_10 rfl dX8_still_5 ?_
  refine cVN_v1 fX1_become (rcv_1 (by omega)) lkX8_63 rfl dX8_still_8 (sp_X1_become (by omega) (by omega) (by omega) ?_)
  refine r_iconst (0) dX8_still_11 rfl ?_
  refine r_istore_n_1 dX8_still_12 rfl ?_
  refine r_iconst (1) dX8_still_13 rfl ?_
  refine r_istore_n_2 dX8_still_14 rfl ?_
  have LOOP : ∀ k, k ≤ 74 → stf (σ 0) n = fnd (fun k => qt (σ 0) n (k + 1) == 14) k (74 - k) → GW E (ZM E 4 fun v σ' => ∃ r, v = some (.int r) ∧ Q r σ') mX8_still 15 [some (.ref (ad E 0 0)), some (.int (nI (qt (σ 0) n k))), some (.int (nI (k + 1)))] [] (va_up σ 1 (dayN 0 n (σ 0) k)) := by
    refine down ?_ ?_
    · intro hf
      refine r_iload_n dX8_still_15 rfl ?_
      refine r_bipush (74) dX8_still_16 rfl ?_
      refine r_icmp_gt_N (b := 74) 58 dX8_still_18 rfl (by omega) (by omega) (fun h18 => ?_) (fun h18 => ?_)
      · refine r_bipush (-9) dX8_still_58 rfl ?_
        refine r_ireturn rfl (by first | rfl | exact nar_bi _ | assumption) dX8_still_60 ⟨_, rfl, ?_⟩
        exact qof (K _) (by unfold stl; rw [hf]; rfl) rfl
      · exfalso; omega
    · intro k hk ih hf
      have hq := qt_le (r := σ 0) (n := n) k
      rw [show 74 - k = (74 - (k + 1)) + 1 by omega, fnd] at hf
      have key : ∀ v, v = qt (σ 0) n (k + 1) → GW E (ZM E 4 fun v σ' => ∃ r, v = some (.int r) ∧ Q r σ') mX8_still 41 [some (.ref (ad E 0 0)), some (.int (nI v)), some (.int (nI (k + 1)))] [] (va_up σ 1 (dayN 0 n (σ 0) (k + 1))) := by
        intro v hv
        have hq1 := qt_le (r := σ 0) (n := n) (k + 1)
        refine r_iload_n dX8_still_41 rfl ?_
        refine r_bipush (14) dX8_still_42 rfl ?_
        refine r_icmp_ne 52 dX8_still_44 rfl (fun h44 => ?_) (fun h44 => ?_)
        · have hne : ¬ v = 14 := fun e => h44 (by rw [e]; rfl)
          rw [hv] at hne ⊢
          refine r_inc1_2 dX8_still_52 rfl ?_
          refine r_goto 15 dX8_still_55 rfl ?_
          exact ih (by rw [hf, if_neg (by simpa using hne)])
        · have he : v = 14 := (nI_eq (b := 14) (by omega) (by omega)).mp h44
          rw [← hv, he] at hq1
          refine r_iload_n dX8_still_47 rfl ?_
          refine r_bipush (14) dX8_still_48 rfl ?_
          refine r_isub dX8_still_50 ?_
          refine r_ireturn rfl (by first | rfl | exact nar_bi _ | assumption) dX8_still_51 ⟨_, rfl, ?_⟩
          refine qof (K _) ?_ rfl
          unfold stl
          rw [hf, if_pos (by rw [← hv, he]; rfl)]
          refine (pk_sub (b := 14) (by omega)).trans ?_
          show nI (k + 1 - 14) = nI (k - 13)
          congr 1
      rw [qt] at key
      have hc : ncnt 0 n (dayN 0 n (σ 0) k) 1 = nI (wcN 0 n (upd (dayN 0 n (σ 0) k) 1 (dayN 0 n (σ 0) k 1 + 1)) n) := by
        rw [← wcnt_N]
        exact Int32.zero_add _
      have hle := wcN_le (u := 0) (n := n) (r := upd (dayN 0 n (σ 0) k) 1 (dayN 0 n (σ 0) k 1 + 1)) n
      unfold pdy at key
      refine r_iload_n dX8_still_15 rfl ?_
      refine r_bipush (74) dX8_still_16 rfl ?_
      refine r_icmp_gt_N (b := 74) 58 dX8_still_18 rfl (by omega) (by omega) (fun h18 => ?_) (fun h18 => ?_)
      · exfalso; omega
      · refine r_aload_n dX8_still_21 rfl ?_
        refine getX8_16 rfl dX8_still_22 ?_
        refine r_iconst (1) dX8_still_25 rfl ?_
        refine r_iconst (0) dX8_still_26 rfl ?_
        refine cVN_i2 fX1_passDays (rcv_1 (by omega)) lkX8_151 rfl dX8_still_27 (sp_X1_passDays (m := 1) (by omega) (by rw [up_at]; exact dayN_WF hW k) (by omega) ?_)
        rw [up_at, up_up, dayN_1, hc]
        refine r_if_ne 39 dX8_still_30 rfl (fun h30 => ?_) (fun h30 => ?_)
        · have hne : ¬ wcN 0 n (upd (dayN 0 n (σ 0) k) 1 (dayN 0 n (σ 0) k 1 + 1)) n = 0 := fun e => h30 (by rw [e]; rfl)
          rw [beq_eq_false_iff_ne.mpr hne] at key
          simp only [Bool.not_false, if_true] at key
          refine r_iconst (0) dX8_still_39 rfl ?_
          refine r_istore_n_1 dX8_still_40 rfl ?_
          exact key 0 rfl
        · have he : wcN 0 n (upd (dayN 0 n (σ 0) k) 1 (dayN 0 n (σ 0) k 1 + 1)) n = 0 := (nI_eq (b := 0) (by omega) (by omega)).mp h30
          rw [he] at key
          simp only [beq_self_eq_true, Bool.not_true, Bool.false_eq_true, if_false] at key
          refine r_iload_n dX8_still_33 rfl ?_
          refine r_iconst (1) dX8_still_34 rfl ?_
          refine r_iadd dX8_still_35 ?_
          rw [nI_1]
          refine r_goto 40 dX8_still_36 rfl ?_
          refine r_istore_n_1 dX8_still_40 rfl ?_
          exact key _ rfl
  exact LOOP 0 (by omega) rfl
end STILL
