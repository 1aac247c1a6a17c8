/-! ===== fever, mean ===== -/
section FEVER
variable {E : EnvT} {σ : Sg} {Q : Int32 → Sg → Prop} {Ql : Int64 → Sg → Prop} {Qv : Sg → Prop}
theorem cmp0 {l : Nat} (h : l < 2 ^ 63) : lg_cmp (lN l) 0 = 0 ↔ l = 0 := by
  have e : (lN l = 0) ↔ l = 0 := pk_lEQ (b := 0) h (by omega)
  unfold lg_cmp
  split
  · rename_i h1
    constructor
    · intro q; exact absurd q (by decide)
    · intro q; rw [q] at h1; exact absurd h1 (by decide)
  · split
    · rename_i h2
      exact ⟨fun _ => e.mp h2, fun _ => rfl⟩
    · rename_i h2
      exact ⟨fun q => absurd q (by decide), fun q => absurd (e.mpr q) h2⟩
theorem mod_half {g l j : Nat} (h : l < 2 ^ (j + 1)) (h0 : 0 < g % l) (hl : 0 < l) : l % (g % l) < 2 ^ j := by
  have hr : g % l < l := Nat.mod_lt _ hl
  have hm : l % (g % l) < g % l := Nat.mod_lt _ h0
  rw [Nat.pow_succ] at h
  by_cases hc : 2 * (g % l) ≤ l
  · omega
  · have e : l % (g % l) = (l - g % l) % (g % l) := Nat.mod_eq_sub_mod (by omega)
    rw [e, Nat.mod_eq_of_lt (by omega)]
    omega
theorem gcd_st {g l : Nat} : Nat.gcd l (g % l) = Nat.gcd g l := by
  rw [Nat.gcd_comm g l, Nat.gcd_rec l g, Nat.gcd_comm]
def prt (g l : Nat) (w : Int32) : Int64 := if w = 0 then lN (g / Nat.gcd g l) else lN (l / Nat.gcd g l)
theorem sp_X8_commonDivisor {g0 l0 : Nat} (hg : g0 < 2 ^ 62) (hl : l0 < 2 ^ 31) (K : Ql (lN (Nat.gcd g0 l0)) σ) : Ml E mX8_commonDivisor [.long (lN g0), .long (lN l0)] σ Ql := by
  have END : ∀ g k y9 y10, k ≤ 100 → Nat.gcd g 0 = Nat.gcd g0 l0 → GW E (ZM E 0 fun v σ' => ∃ r, v = some (.long r) ∧ Ql r σ') mX8_commonDivisor 9 [some (.long (lN g0)), none, some (.long (lN l0)), none, some (.long (lN g)), none, some (.long (lN 0)), none, some (.int (nI k)), y9, y10] [] σ := by
    intro g k y9 y10 hk hgc
    rw [Nat.gcd_zero_right] at hgc
    rw [← hgc] at K
    refine r_iload dX8_commonDivisor_9 rfl ?_
    refine r_bipush (100) dX8_commonDivisor_11 rfl ?_
    refine r_icmp_ge_N (b := 100) 44 dX8_commonDivisor_13 rfl (by omega) (by omega) (fun h13 => ?_) (fun h13 => ?_)
    · refine r_lload dX8_commonDivisor_44 rfl ?_
      refine r_lreturn rfl dX8_commonDivisor_46 ⟨_, rfl, ?_⟩
      exact K
    · refine r_lload dX8_commonDivisor_16 rfl ?_
      refine r_lconst (0) dX8_commonDivisor_18 rfl ?_
      refine r_lcmp dX8_commonDivisor_19 ?_
      refine r_if_eq 44 dX8_commonDivisor_20 rfl (fun h20 => ?_) (fun h20 => ?_)
      · refine r_lload dX8_commonDivisor_44 rfl ?_
        refine r_lreturn rfl dX8_commonDivisor_46 ⟨_, rfl, ?_⟩
        exact K
      · exact absurd ((cmp0 (l := 0) (by omega)).mpr rfl) h20
  have STEP : ∀ g l k y9 y10, k < 100 → 0 < l → g < 2 ^ 62 → l < 2 ^ 62 → (∀ y9 y10, GW E (ZM E 0 fun v σ' => ∃ r, v = some (.long r) ∧ Ql r σ') mX8_commonDivisor 9 [some (.long (lN g0)), none, some (.long (lN l0)), none, some (.long (lN l)), none, some (.long (lN (g % l))), none, some (.int (nI (k + 1))), y9, y10] [] σ) → GW E (ZM E 0 fun v σ' => ∃ r, v = some (.long r) ∧ Ql r σ') mX8_commonDivisor 9 [some (.long (lN g0)), none, some (.long (lN l0)), none, some (.long (lN g)), none, some (.long (lN l)), none, some (.int (nI k)), y9, y10] [] σ := by
    intro g l k y9 y10 hk h0 hgb hlb ih
    have hne : ¬ lN l = 0 := fun e => by have := (pk_lEQ (b := 0) (by omega) (by omega)).mp e; omega
    refine r_iload dX8_commonDivisor_9 rfl ?_
    refine r_bipush (100) dX8_commonDivisor_11 rfl ?_
    refine r_icmp_ge_N (b := 100) 44 dX8_commonDivisor_13 rfl (by omega) (by omega) (fun h13 => ?_) (fun h13 => ?_)
    · exfalso; omega
    · refine r_lload dX8_commonDivisor_16 rfl ?_
      refine r_lconst (0) dX8_commonDivisor_18 rfl ?_
      refine r_lcmp dX8_commonDivisor_19 ?_
      refine r_if_eq 44 dX8_commonDivisor_20 rfl (fun h20 => ?_) (fun h20 => ?_)
      · have := (cmp0 (l := l) (by omega)).mp h20
        omega
      · refine r_lload dX8_commonDivisor_23 rfl ?_
        refine r_lload dX8_commonDivisor_25 rfl ?_
        refine r_lrem dX8_commonDivisor_27 hne ?_
        rw [pk_lRem (by omega) h0 (by omega)]
        refine r_lstore_9 dX8_commonDivisor_28 rfl ?_
        refine r_lload dX8_commonDivisor_30 rfl ?_
        refine r_lstore_4 dX8_commonDivisor_32 rfl ?_
        refine r_lload dX8_commonDivisor_34 rfl ?_
        refine r_lstore_6 dX8_commonDivisor_36 rfl ?_
        refine r_inc1_8 dX8_commonDivisor_38 rfl ?_
        refine r_goto 9 dX8_commonDivisor_41 rfl ?_
        exact ih _ _
  have MAIN : ∀ j g l k, l < 2 ^ j → 2 * j + k ≤ 100 → g < 2 ^ 62 → l < 2 ^ 62 → Nat.gcd g l = Nat.gcd g0 l0 → ∀ y9 y10, GW E (ZM E 0 fun v σ' => ∃ r, v = some (.long r) ∧ Ql r σ') mX8_commonDivisor 9 [some (.long (lN g0)), none, some (.long (lN l0)), none, some (.long (lN g)), none, some (.long (lN l)), none, some (.int (nI k)), y9, y10] [] σ := by
    intro j
    induction j with
    | zero =>
      intro g l k h1 h2 h3 h4 h5 y9 y10
      have : l = 0 := by omega
      rw [this] at h5 ⊢
      exact END g k _ _ (by omega) h5
    | succ j ih =>
      intro g l k h1 h2 h3 h4 h5 y9 y10
      by_cases hl0 : l = 0
      · rw [hl0] at h5 ⊢
        exact END g k _ _ (by omega) h5
      · have hm : g % l < l := Nat.mod_lt _ (by omega)
        refine STEP g l k _ _ (by omega) (by omega) h3 h4 (fun y9 y10 => ?_)
        have h6 : Nat.gcd l (g % l) = Nat.gcd g0 l0 := gcd_st.trans h5
        by_cases hr0 : g % l = 0
        · rw [hr0] at h6 ⊢
          exact END l (k + 1) _ _ (by omega) h6
        · refine STEP l (g % l) (k + 1) _ _ (by omega) (by omega) h4 (by omega) (fun y9 y10 => ?_)
          have hm2 : l % (g % l) < g % l := Nat.mod_lt _ (by omega)
          exact ih (g % l) (l % (g % l)) (k + 1 + 1) (mod_half h1 (by omega) (by omega)) (by omega) (by omega) (by omega) (gcd_st.trans h6) _ _
  refine Mw_of (L0 := [some (.long (lN g0)), none, some (.long (lN l0)), none, none, none, none, none, none, none, none]) pn_X8 rfl rfl (Nat.le_of_ble_eq_true rfl) ?_
  refine r_lload_n dX8_commonDivisor_0 rfl ?_
  refine r_lstore_4 dX8_commonDivisor_1 rfl ?_
  refine r_lload_n dX8_commonDivisor_3 rfl ?_
  refine r_lstore_6 dX8_commonDivisor_4 rfl ?_
  refine r_iconst (0) dX8_commonDivisor_6 rfl ?_
  refine r_istore_8 dX8_commonDivisor_7 rfl ?_
  exact MAIN 31 g0 l0 0 hl (by omega) hg (by omega) rfl _ _
theorem gcd_lt {g l : Nat} (h0 : 0 < l) (hl : l < 2 ^ 31) : 0 < Nat.gcd g l ∧ Nat.gcd g l < 2 ^ 31 := ⟨Nat.gcd_pos_of_pos_right g h0, Nat.lt_of_le_of_lt (Nat.le_of_dvd h0 (Nat.gcd_dvd_right g l)) hl⟩
theorem lN_ne {d : Nat} (h0 : 0 < d) (hd : d < 2 ^ 31) : ¬ lN d = 0 := fun e => by have := (pk_lEQ (b := 0) (by omega) (by omega)).mp e; omega
theorem sp_X8_partOf {g l : Nat} {w : Int32} (hg : g < 2 ^ 62) (h0 : 0 < l) (hl : l < 2 ^ 31) (K : Ql (prt g l w) σ) : Ml E mX8_partOf [.long (lN g), .long (lN l), .int w] σ Ql := by
  obtain ⟨d0, dl⟩ := gcd_lt (g := g) h0 hl
  have hne := lN_ne d0 dl
  unfold prt at K
  refine Mw_of (L0 := [some (.long (lN g)), none, some (.long (lN l)), none, some (.int w), none, none]) pn_X8 rfl rfl (Nat.le_of_ble_eq_true rfl) ?_
  refine r_lload_n dX8_partOf_0 rfl ?_
  refine r_lload_n dX8_partOf_1 rfl ?_
  refine cS_l2 fX8_commonDivisor lkX8_265 rfl dX8_partOf_2 (sp_X8_commonDivisor hg hl ?_)
  refine r_lstore_5 dX8_partOf_5 rfl ?_
  refine r_lload dX8_partOf_7 rfl ?_
  refine r_lconst (0) dX8_partOf_9 rfl ?_
  refine r_lcmp dX8_partOf_10 ?_
  refine r_if_ne 16 dX8_partOf_11 rfl (fun h11 => ?_) (fun h11 => ?_)
  · refine r_iload dX8_partOf_16 rfl ?_
    refine r_if_ne 28 dX8_partOf_18 rfl (fun h18 => ?_) (fun h18 => ?_)
    · rw [if_neg h18] at K
      refine r_lload_n dX8_partOf_28 rfl ?_
      refine r_lload dX8_partOf_29 rfl ?_
      refine r_ldiv dX8_partOf_31 hne ?_
      rw [pk_lDiv (by omega) d0 (by omega)]
      refine r_lreturn rfl dX8_partOf_32 ⟨_, rfl, ?_⟩
      exact K
    · rw [if_pos h18] at K
      refine r_lload_n dX8_partOf_21 rfl ?_
      refine r_lload dX8_partOf_22 rfl ?_
      refine r_ldiv dX8_partOf_24 hne ?_
      rw [pk_lDiv (by omega) d0 (by omega)]
      refine r_goto 32 dX8_partOf_25 rfl ?_
      refine r_lreturn rfl dX8_partOf_32 ⟨_, rfl, ?_⟩
      exact K
  · exact absurd ((cmp0 (by omega)).mp h11) (by omega)
theorem sp_X9_gcd {g0 l0 : Nat} (hg : g0 < 2 ^ 62) (hl : l0 < 2 ^ 62) (K : Ql (lN (Nat.gcd g0 l0)) σ) : Ml E mX9_gcd [.long (lN g0), .long (lN l0)] σ Ql := by
  have MAIN : ∀ l g, g < 2 ^ 62 → l < 2 ^ 62 → Nat.gcd g l = Nat.gcd g0 l0 → ∀ y9 y10, GW E (ZM E 0 fun v σ' => ∃ r, v = some (.long r) ∧ Ql r σ') mX9_gcd 6 [some (.long (lN g0)), none, some (.long (lN l0)), none, some (.long (lN g)), none, some (.long (lN l)), none, y9, y10] [] σ := by
    intro l
    induction l using Nat.strongRecOn with
    | ind l ih =>
      intro g h3 h4 h5 y9 y10
      refine r_lload dX9_gcd_6 rfl ?_
      refine r_lconst (0) dX9_gcd_8 rfl ?_
      refine r_lcmp dX9_gcd_9 ?_
      refine r_if_eq 31 dX9_gcd_10 rfl (fun h10 => ?_) (fun h10 => ?_)
      · have hl0 := (cmp0 (l := l) (by omega)).mp h10
        rw [hl0, Nat.gcd_zero_right] at h5
        rw [← h5] at K
        refine r_lload dX9_gcd_31 rfl ?_
        refine r_lreturn rfl dX9_gcd_33 ⟨_, rfl, ?_⟩
        exact K
      · have hl0 : 0 < l := Nat.pos_of_ne_zero (fun e => h10 ((cmp0 (l := l) (by omega)).mpr e))
        have hne : ¬ lN l = 0 := fun e => by have := (pk_lEQ (b := 0) (by omega) (by omega)).mp e; omega
        have hm : g % l < l := Nat.mod_lt _ hl0
        refine r_lload dX9_gcd_13 rfl ?_
        refine r_lload dX9_gcd_15 rfl ?_
        refine r_lrem dX9_gcd_17 hne ?_
        rw [pk_lRem (by omega) hl0 (by omega)]
        refine r_lstore_8 dX9_gcd_18 rfl ?_
        refine r_lload dX9_gcd_20 rfl ?_
        refine r_lstore_4 dX9_gcd_22 rfl ?_
        refine r_lload dX9_gcd_24 rfl ?_
        refine r_lstore_6 dX9_gcd_26 rfl ?_
        refine r_goto 6 dX9_gcd_28 rfl ?_
        exact ih (g % l) hm l h4 (by omega) (gcd_st.trans h5) _ _
  refine Mw_of (L0 := [some (.long (lN g0)), none, some (.long (lN l0)), none, none, none, none, none, none, none]) pn_X9 rfl rfl (Nat.le_of_ble_eq_true rfl) ?_
  refine r_lload_n dX9_gcd_0 rfl ?_
  refine r_lstore_4 dX9_gcd_1 rfl ?_
  refine r_lload_n dX9_gcd_3 rfl ?_
  refine r_lstore_6 dX9_gcd_4 rfl ?_
  exact MAIN l0 g0 hg hl rfl _ _
theorem sp_X9_partOf0 {x : Int64} {w : Int32} (K : Ql w.toInt64 σ) : Ml E mX9_partOf [.long (lN 0), .long x, .int w] σ Ql := by
  refine Mw_of (L0 := [some (.long (lN 0)), none, some (.long x), none, some (.int w)]) pn_X9 rfl rfl (Nat.le_of_ble_eq_true rfl) ?_
  refine r_lload_n dX9_partOf_0 rfl ?_
  refine r_lconst (0) dX9_partOf_1 rfl ?_
  refine r_lcmp dX9_partOf_2 ?_
  refine r_if_ne 10 dX9_partOf_3 rfl (fun h3 => ?_) (fun h3 => ?_)
  · exact absurd ((cmp0 (l := 0) (by omega)).mpr rfl) h3
  · refine r_iload dX9_partOf_6 rfl ?_
    refine r_i2l dX9_partOf_8 ?_
    refine r_lreturn rfl dX9_partOf_9 ⟨_, rfl, ?_⟩
    exact K
theorem sp_X9_partOf {g l : Nat} {w : Int32} (hg : g < 2 ^ 62) (hg0 : 0 < g) (h0 : 0 < l) (hl : l < 2 ^ 31) (K : Ql (prt g l w) σ) : Ml E mX9_partOf [.long (lN g), .long (lN l), .int w] σ Ql := by
  obtain ⟨d0, dl⟩ := gcd_lt (g := g) h0 hl
  have hne := lN_ne d0 dl
  unfold prt at K
  refine Mw_of (L0 := [some (.long (lN g)), none, some (.long (lN l)), none, some (.int w)]) pn_X9 rfl rfl (Nat.le_of_ble_eq_true rfl) ?_
  refine r_lload_n dX9_partOf_0 rfl ?_
  refine r_lconst (0) dX9_partOf_1 rfl ?_
  refine r_lcmp dX9_partOf_2 ?_
  refine r_if_ne 10 dX9_partOf_3 rfl (fun h3 => ?_) (fun h3 => ?_)
  · refine r_iload dX9_partOf_10 rfl ?_
    refine r_if_ne 19 dX9_partOf_12 rfl (fun h12 => ?_) (fun h12 => ?_)
    · rw [if_neg h12] at K
      refine r_lload_n dX9_partOf_19 rfl ?_
      refine r_lload_n dX9_partOf_20 rfl ?_
      refine r_lload_n dX9_partOf_21 rfl ?_
      refine cS_l2 fX9_gcd lkX9_180 rfl dX9_partOf_22 (sp_X9_gcd hg (by omega) ?_)
      refine r_ldiv dX9_partOf_25 hne ?_
      rw [pk_lDiv (by omega) d0 (by omega)]
      refine r_lreturn rfl dX9_partOf_26 ⟨_, rfl, ?_⟩
      exact K
    · rw [if_pos h12] at K
      refine r_lload_n dX9_partOf_15 rfl ?_
      refine r_goto 20 dX9_partOf_16 rfl ?_
      refine r_lload_n dX9_partOf_20 rfl ?_
      refine r_lload_n dX9_partOf_21 rfl ?_
      refine cS_l2 fX9_gcd lkX9_180 rfl dX9_partOf_22 (sp_X9_gcd hg (by omega) ?_)
      refine r_ldiv dX9_partOf_25 hne ?_
      rw [pk_lDiv (by omega) d0 (by omega)]
      refine r_lreturn rfl dX9_partOf_26 ⟨_, rfl, ?_⟩
      exact K
  · have := (cmp0 (l := g) (by omega)).mp h3
    omega
theorem prt_0 {l : Nat} {w : Int32} (h0 : 0 < l) (hw : eith w = true) : prt 0 l w = w.toInt64 := by
  obtain ⟨e, he, rfl⟩ := eith_ex hw
  unfold prt
  rw [Nat.gcd_zero_left, Nat.zero_div, Nat.div_self h0]
  rcases (by omega : e = 0 ∨ e = 1) with rfl | rfl
  · rfl
  · rw [if_neg (by decide)]; rfl
/-- mean -/
theorem max1 : ∀ n, n ≤ 6 → (if nI n < 1 then (1 : Int32) else nI n) = nI (max n 1) := by decide +kernel
theorem sp_X8_mean {n : Nat} {w : Int32} (hW : WF (σ 0) n) (Kr : eith w = false → Ql (WIDE - (-2 : Int32).toInt64) (rfs σ 9 (-2))) (K : ∀ s, sumT (σ 0) n = nI s → s ≤ 180 → eith w = true → Ql (prt s (max n 1) w) σ) : Ml E mX8_mean [.ref (ad E 0 0), .int w] σ Ql := by
  have hn6 := hW.2.1
  obtain ⟨s, hs, es⟩ := sumT_N hW n hn6
  refine Mw_of (L0 := [some (.ref (ad E 0 0)), some (.int w)]) pn_X8 rfl rfl (Nat.le_of_ble_eq_true rfl) ?_
  refine r_iload_n dX8_mean_0 rfl ?_
  refine cS_i1 fX8_isEither lkX8_115 rfl dX8_mean_1 (sp_X8_isEither  ?_)
  refine r_if_ne 14 dX8_mean_4 rfl (fun h4 => ?_) (fun h4 => ?_)
  · have hw : eith w = true := tb_of h4
    refine r_aload_n dX8_mean_14 rfl ?_
    refine getX8_10 rfl dX8_mean_15 ?_
    refine cVN_i0 fX1_allTired (rcv_1 (by omega)) lkX8_242 rfl dX8_mean_18 (sp_X1_allTired (by omega) hW.1 hn6 ?_)
    rw [es]
    refine r_i2l dX8_mean_21 ?_
    rw [nI_l (by omega)]
    refine r_aload_n dX8_mean_22 rfl ?_
    refine getX8_10 rfl dX8_mean_23 ?_
    refine getX8_189 (by omega) rfl dX8_mean_26 ?_
    rw [hW.1]
    refine r_iconst (1) dX8_mean_29 rfl ?_
    refine r_mmax lkX8_193 wm_max1 wm_init wm_max2 rfl dX8_mean_30 ?_
    rw [max1 n hn6]
    refine r_i2l dX8_mean_33 ?_
    rw [nI_l (by omega)]
    refine r_iload_n dX8_mean_34 rfl ?_
    refine cS_l3 fX8_partOf lkX8_238 rfl dX8_mean_35 (sp_X8_partOf (by omega) (by omega) (by omega) ?_)
    refine r_lreturn rfl dX8_mean_38 ⟨_, rfl, ?_⟩
    exact K s es (by omega) hw
  · have hw : eith w = false := (bi_eq0 _).mp h4
    refine r_aload_n dX8_mean_7 rfl ?_
    refine r_bipush (-2) dX8_mean_8 rfl ?_
    refine cV_l1 fX8_refuseLong rcv_0 lkX8_227 rfl dX8_mean_10 (sp_X8_refuseLong (Or.inr (Or.inl rfl)) ?_)
    refine r_lreturn rfl dX8_mean_13 ⟨_, rfl, ?_⟩
    exact Kr hw
theorem sp_X9_mean {n : Nat} {w : Int32} (hW : WF (σ 3) n) (Kr : eith w = false → Ql (WIDE - (-2 : Int32).toInt64) (rfs σ 13 (-2))) (K : ∀ s, sumT (σ 3) n = nI s → s ≤ 180 → eith w = true → Ql (prt s (max n 1) w) σ) : Ml E mX9_mean [.ref (ad E 18 0), .int w] σ Ql := by
  have hn6 := hW.2.1
  obtain ⟨s, hs, es⟩ := sumT_N hW n hn6
  refine Mw_of (L0 := [some (.ref (ad E 18 0)), some (.int w)]) pn_X9 rfl rfl (Nat.le_of_ble_eq_true rfl) ?_
  refine r_iload_n dX9_mean_0 rfl ?_
  refine r_iconst (0) dX9_mean_1 rfl ?_
  refine r_iconst (1) dX9_mean_2 rfl ?_
  refine cS_i3 fX9_isIn lkX9_40 rfl dX9_mean_3 (sp_X9_isIn  ?_)
  rw [eith_e]
  refine r_if_eq 31 dX9_mean_6 rfl (fun h6 => ?_) (fun h6 => ?_)
  · have hw : eith w = false := (bi_eq0 _).mp h6
    refine r_aload_n dX9_mean_31 rfl ?_
    refine r_bipush (-2) dX9_mean_32 rfl ?_
    refine cV_l1 fX9_noWide rcv_18 lkX9_184 rfl dX9_mean_34 (sp_X9_noWide (Or.inr (Or.inl rfl)) ?_)
    refine r_lreturn rfl dX9_mean_37 ⟨_, rfl, ?_⟩
    exact Kr hw
  · have hw : eith w = true := tb_of h6
    have K := K s es (by omega) hw
    by_cases h0 : s = 0
    · rw [h0] at es K
      rw [prt_0 (by omega) hw] at K
      refine r_aload_n dX9_mean_9 rfl ?_
      refine getX9_9 rfl dX9_mean_10 ?_
      refine cS_i1 fX9_allTired lkX9_167 rfl dX9_mean_13 (sp_X9_allTired (by omega) hW.1 hn6 ?_)
      rw [es]
      refine r_i2l dX9_mean_16 ?_
      rw [nI_l (by omega)]
      refine r_aload_n dX9_mean_17 rfl ?_
      refine getX9_9 rfl dX9_mean_18 ?_
      refine r_iconst (0) dX9_mean_21 rfl ?_
      refine ld_19 (t := 0)  (by omega) (by omega) dX9_mean_22 ?_
      refine r_i2l dX9_mean_23 ?_
      refine r_iload_n dX9_mean_24 rfl ?_
      refine cS_l3 fX9_partOf lkX9_188 rfl dX9_mean_25 (sp_X9_partOf0  ?_)
      refine r_goto 37 dX9_mean_28 rfl ?_
      refine r_lreturn rfl dX9_mean_37 ⟨_, rfl, ?_⟩
      exact K
    · have hn : 0 < n := by omega
      rw [show max n 1 = n by omega] at K
      refine r_aload_n dX9_mean_9 rfl ?_
      refine getX9_9 rfl dX9_mean_10 ?_
      refine cS_i1 fX9_allTired lkX9_167 rfl dX9_mean_13 (sp_X9_allTired (by omega) hW.1 hn6 ?_)
      rw [es]
      refine r_i2l dX9_mean_16 ?_
      rw [nI_l (by omega)]
      refine r_aload_n dX9_mean_17 rfl ?_
      refine getX9_9 rfl dX9_mean_18 ?_
      refine r_iconst (0) dX9_mean_21 rfl ?_
      refine ld_19 (t := 0)  (by omega) (by omega) dX9_mean_22 ?_
      rw [hW.1]
      refine r_i2l dX9_mean_23 ?_
      rw [nI_l (by omega)]
      refine r_iload_n dX9_mean_24 rfl ?_
      refine cS_l3 fX9_partOf lkX9_188 rfl dX9_mean_25 (sp_X9_partOf (by omega) (by omega) hn (by omega) ?_)
      refine r_goto 37 dX9_mean_28 rfl ?_
      refine r_lreturn rfl dX9_mean_37 ⟨_, rfl, ?_⟩
      exact K
end FEVER
