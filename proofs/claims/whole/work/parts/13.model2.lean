/-! ===== the twin's statics: whom, which, a day ===== -/
section MODEL2
variable {E : EnvT} {σ : Sg} {Q : Int32 → Sg → Prop} {Qv : Sg → Prop}
theorem i32_ne {x : Int32} {v : Int} (y : Int32) (hy : y.toInt = v) (h : ¬ x = y) : x.toInt ≠ v := fun q => h (Int32.toInt_inj.mp (q.trans hy.symm))
theorem sp_X9_paidBehind {x f : Int32} (K : Q (pbh x f) σ) : Mi E mX9_paidBehind [.int x, .int f] σ Q := by
  refine Mw_of (L0 := [some (.int x), some (.int f), none]) pn_X9 rfl rfl (Nat.le_of_ble_eq_true rfl) ?_
  refine r_iload_n dX9_paidBehind_0 rfl ?_
  refine r_iconst (3) dX9_paidBehind_1 rfl ?_
  refine r_idiv dX9_paidBehind_2 (by decide) ?_
  refine r_iconst (1) dX9_paidBehind_3 rfl ?_
  refine r_iadd dX9_paidBehind_4 ?_
  refine r_istore_n_2 dX9_paidBehind_5 rfl ?_
  refine r_iload_n dX9_paidBehind_6 rfl ?_
  by_cases h2 : x = 2
  · subst h2
    refine r_tableIn 29 36 dX9_paidBehind_7 (by decide) (by decide) rfl rfl ?_
    refine r_iload_n dX9_paidBehind_36 rfl ?_
    refine r_iconst (1) dX9_paidBehind_37 rfl ?_
    refine r_iadd dX9_paidBehind_38 ?_
    refine r_ireturn rfl (by first | rfl | exact nar_bi _ | assumption) dX9_paidBehind_39 ⟨_, rfl, ?_⟩
    exact K
  · by_cases h4 : x = 4
    · subst h4
      refine r_tableIn 33 40 dX9_paidBehind_7 (by decide) (by decide) rfl rfl ?_
      refine r_iconst (0) dX9_paidBehind_40 rfl ?_
      refine r_ireturn rfl (by first | rfl | exact nar_bi _ | assumption) dX9_paidBehind_41 ⟨_, rfl, ?_⟩
      exact K
    · by_cases h5 : x = 5
      · subst h5
        refine r_tableIn 35 42 dX9_paidBehind_7 (by decide) (by decide) rfl rfl ?_
        refine r_iconst (1) dX9_paidBehind_42 rfl ?_
        refine r_ireturn rfl (by first | rfl | exact nar_bi _ | assumption) dX9_paidBehind_43 ⟨_, rfl, ?_⟩
        exact K
      · have K : Q (f / 3 + 1) σ := by
          have e : pbh x f = f / 3 + 1 := by unfold pbh; rw [if_neg h2, if_neg h4, if_neg h5]
          rw [← e]; exact K
        by_cases h3 : x = 3
        · subst h3
          refine r_tableIn 37 44 dX9_paidBehind_7 (by decide) (by decide) rfl rfl ?_
          refine r_iload_n dX9_paidBehind_44 rfl ?_
          refine r_ireturn rfl (by first | rfl | exact nar_bi _ | assumption) dX9_paidBehind_45 ⟨_, rfl, ?_⟩
          exact K
        · have n2 := i32_ne (v := 2) 2 rfl h2
          have n3 := i32_ne (v := 3) 3 rfl h3
          have n4 := i32_ne (v := 4) 4 rfl h4
          have n5 := i32_ne (v := 5) 5 rfl h5
          refine r_tableOut 44 dX9_paidBehind_7 (by omega) rfl ?_
          refine r_iload_n dX9_paidBehind_44 rfl ?_
          refine r_ireturn rfl (by first | rfl | exact nar_bi _ | assumption) dX9_paidBehind_45 ⟨_, rfl, ?_⟩
          exact K
theorem sp_X9_wanted {a p o : Nat} (ha : 2 < a ∧ a < 7) (hp : p < 6) (ho : o < 6) (K : Q (wnt (σ a) p o) σ) : Mi E mX9_wanted [.ref (ad E 19 a), .int (nI p), .int (nI o)] σ Q := by
  refine Mw_of (L0 := [some (.ref (ad E 19 a)), some (.int (nI p)), some (.int (nI o))]) pn_X9 rfl rfl (Nat.le_of_ble_eq_true rfl) ?_
  refine r_iload_n dX9_wanted_0 rfl ?_
  refine r_iload_n dX9_wanted_1 rfl ?_
  refine r_icmp_ne 9 dX9_wanted_2 rfl (fun h2 => ?_) (fun h2 => ?_)
  · refine r_aload_n dX9_wanted_9 rfl ?_
    refine r_iload_n dX9_wanted_10 rfl ?_
    refine r_iconst (2) dX9_wanted_11 rfl ?_
    refine cS_i2 fX9_of lkX9_44 rfl dX9_wanted_12 (sp_of2  ?_)
    refine ld_19  (by omega) (by omega) dX9_wanted_15 ?_
    refine r_aload_n dX9_wanted_16 rfl ?_
    refine r_iload_n dX9_wanted_17 rfl ?_
    refine r_iconst (2) dX9_wanted_18 rfl ?_
    refine cS_i2 fX9_of lkX9_44 rfl dX9_wanted_19 (sp_of2  ?_)
    refine ld_19  (by omega) (by omega) dX9_wanted_22 ?_
    refine r_iconst (-1) dX9_wanted_23 rfl ?_
    refine r_ixor dX9_wanted_24 ?_
    refine r_iand dX9_wanted_25 ?_
    refine r_ireturn rfl (by first | rfl | exact nar_bi _ | assumption) dX9_wanted_26 ⟨_, rfl, ?_⟩
    exact qof K (by unfold wnt; first | exact (if_pos ((nI_eq (by omega) (by omega)).mp h2)).symm | exact (if_neg (fun q => h2 (by rw [q]))).symm) rfl
  · refine r_iconst (0) dX9_wanted_5 rfl ?_
    refine r_goto 26 dX9_wanted_6 rfl ?_
    refine r_ireturn rfl (by first | rfl | exact nar_bi _ | assumption) dX9_wanted_26 ⟨_, rfl, ?_⟩
    exact qof K (by unfold wnt; first | exact (if_pos ((nI_eq (by omega) (by omega)).mp h2)).symm | exact (if_neg (fun q => h2 (by rw [q]))).symm) rfl
theorem irm_N {x n : Nat} (hx : x < 2 ^ 31) (h0 : 0 < n) (hn : n < 2 ^ 31) : nI x - nI x / nI n * nI n = nI (x % n) := pk_rem hx h0 hn
theorem rndW_e {p k n : Nat} (hp : p < n) (hk : k < n) (hn : n ≤ 6) : (nI p + 1 * nI k + nI n * nI k) - (nI p + 1 * nI k + nI n * nI k) / nI n * nI n = nI ((p + k) % n) := by
  have hm : n * k ≤ 36 := Nat.le_trans (Nat.mul_le_mul hn (by omega : k ≤ 6)) (by omega)
  rw [show (1 : Int32) = nI 1 from rfl, pk_mul, pk_mul, nI_add, nI_add, pk_rem (by omega) (by omega) (by omega)]
  congr 1
  rw [Nat.one_mul, Nat.add_mul_mod_self_left]
theorem neg_e (x y z : Int32) : x + -1 * y + z = x + z - y := by grind
theorem rndB_e {p k n : Nat} (hp : p < n) (hk : k < n) (hn : n ≤ 6) : (nI p + -1 * nI k + nI n * nI k) - (nI p + -1 * nI k + nI n * nI k) / nI n * nI n = nI ((p + n * k - k) % n) := by
  have hm : n * k ≤ 36 := Nat.le_trans (Nat.mul_le_mul hn (by omega : k ≤ 6)) (by omega)
  have hk1 : k ≤ n * k := Nat.le_mul_of_pos_left k (by omega)
  rw [neg_e, pk_mul, nI_add, pk_sub (by omega), pk_rem (by omega) (by omega) (by omega)]
theorem sp_roundW {a p n : Nat} (ha : 2 < a ∧ a < 7) (hn : σ a 0 = nI n) (hn6 : n ≤ 6) (hp : p < n) (K : Q (oI (rndW (σ a) n p)) σ) : Mi E mX9_roundFrom [.ref (ad E 19 a), .int (nI p), .int 1] σ Q := by
  refine Mw_of (L0 := [some (.ref (ad E 19 a)), some (.int (nI p)), some (.int 1), none, none]) pn_X9 rfl rfl (Nat.le_of_ble_eq_true rfl) ?_
  refine r_iconst (1) dX9_roundFrom_0 rfl ?_
  refine r_istore_n_3 dX9_roundFrom_1 rfl ?_
  have LOOP : ∀ k, k ≤ n → 1 ≤ k → fnd (fun k => !(wnt (σ a) p ((p + k) % n) == 0)) 1 (n - 1) = fnd (fun k => !(wnt (σ a) p ((p + k) % n) == 0)) k (n - k) → ∀ y, GW E (ZM E 2 fun v σ' => ∃ r, v = some (.int r) ∧ Q r σ') mX9_roundFrom 2 [some (.ref (ad E 19 a)), some (.int (nI p)), some (.int 1), some (.int (nI k)), y] [] σ := by
    refine down ?_ ?_
    · intro h1 hf y
      refine r_iload_n dX9_roundFrom_2 rfl ?_
      refine r_aload_n dX9_roundFrom_3 rfl ?_
      refine r_iconst (0) dX9_roundFrom_4 rfl ?_
      refine ld_19 (t := 0)  (by omega) (by omega) dX9_roundFrom_5 ?_
      rw [hn]
      refine r_icmp_ge_N 45 dX9_roundFrom_6 rfl (by omega) (by omega) (fun h6 => ?_) (fun h6 => ?_)
      · refine r_bipush (-9) dX9_roundFrom_45 rfl ?_
        refine r_ireturn rfl (by first | rfl | exact nar_bi _ | assumption) dX9_roundFrom_47 ⟨_, rfl, ?_⟩
        exact qof K (by unfold rndW; rw [hf, Nat.sub_self]; rfl) rfl
      · exfalso; omega
    · intro k hk ih h1 hf y
      have hm : (p + k) % n < n := Nat.mod_lt _ (by omega)
      refine r_iload_n dX9_roundFrom_2 rfl ?_
      refine r_aload_n dX9_roundFrom_3 rfl ?_
      refine r_iconst (0) dX9_roundFrom_4 rfl ?_
      refine ld_19 (t := 0)  (by omega) (by omega) dX9_roundFrom_5 ?_
      rw [hn]
      refine r_icmp_ge_N 45 dX9_roundFrom_6 rfl (by omega) (by omega) (fun h6 => ?_) (fun h6 => ?_)
      · exfalso; omega
      · refine r_iload_n dX9_roundFrom_9 rfl ?_
        refine r_iload_n dX9_roundFrom_10 rfl ?_
        refine r_iload_n dX9_roundFrom_11 rfl ?_
        refine r_imul dX9_roundFrom_12 ?_
        refine r_iadd dX9_roundFrom_13 ?_
        refine r_aload_n dX9_roundFrom_14 rfl ?_
        refine r_iconst (0) dX9_roundFrom_15 rfl ?_
        refine ld_19 (t := 0)  (by omega) (by omega) dX9_roundFrom_16 ?_
        rw [hn]
        refine r_iload_n dX9_roundFrom_17 rfl ?_
        refine r_imul dX9_roundFrom_18 ?_
        refine r_iadd dX9_roundFrom_19 ?_
        refine r_aload_n dX9_roundFrom_20 rfl ?_
        refine r_iconst (0) dX9_roundFrom_21 rfl ?_
        refine ld_19 (t := 0)  (by omega) (by omega) dX9_roundFrom_22 ?_
        rw [hn]
        refine r_irem dX9_roundFrom_23 (nI_ne0 (by omega) (by omega)) ?_
        rw [rndW_e hp hk hn6]
        refine r_istore_4 dX9_roundFrom_24 rfl ?_
        refine r_aload_n dX9_roundFrom_26 rfl ?_
        refine r_iload_n dX9_roundFrom_27 rfl ?_
        refine r_iload dX9_roundFrom_28 rfl ?_
        refine cS_i3 fX9_wanted lkX9_48 rfl dX9_roundFrom_30 (sp_X9_wanted ha (by omega) (by omega) ?_)
        refine r_if_eq 39 dX9_roundFrom_33 rfl (fun h33 => ?_) (fun h33 => ?_)
        · refine r_inc1_3 dX9_roundFrom_39 rfl ?_
          refine r_goto 2 dX9_roundFrom_42 rfl ?_
          refine ih (by omega) ?_ _
          rw [hf, show n - k = (n - (k + 1)) + 1 by omega, fnd, if_neg (by simp [h33])]
        · refine r_iload dX9_roundFrom_36 rfl ?_
          refine r_ireturn rfl (by first | rfl | exact nar_bi _ | assumption) dX9_roundFrom_38 ⟨_, rfl, ?_⟩
          exact qof K (by unfold rndW; rw [hf, show n - k = (n - (k + 1)) + 1 by omega, fnd, if_pos (by simp [h33])]; rfl) rfl
  exact LOOP 1 (by omega) (by omega) rfl _
theorem sp_roundB {a p n : Nat} (ha : 2 < a ∧ a < 7) (hn : σ a 0 = nI n) (hn6 : n ≤ 6) (hp : p < n) (K : Q (oI (rndB (σ a) n p)) σ) : Mi E mX9_roundFrom [.ref (ad E 19 a), .int (nI p), .int (-1)] σ Q := by
  refine Mw_of (L0 := [some (.ref (ad E 19 a)), some (.int (nI p)), some (.int (-1)), none, none]) pn_X9 rfl rfl (Nat.le_of_ble_eq_true rfl) ?_
  refine r_iconst (1) dX9_roundFrom_0 rfl ?_
  refine r_istore_n_3 dX9_roundFrom_1 rfl ?_
  have LOOP : ∀ k, k ≤ n → 1 ≤ k → fnd (fun k => !(wnt (σ a) p ((p + n * k - k) % n) == 0)) 1 (n - 1) = fnd (fun k => !(wnt (σ a) p ((p + n * k - k) % n) == 0)) k (n - k) → ∀ y, GW E (ZM E 2 fun v σ' => ∃ r, v = some (.int r) ∧ Q r σ') mX9_roundFrom 2 [some (.ref (ad E 19 a)), some (.int (nI p)), some (.int (-1)), some (.int (nI k)), y] [] σ := by
    refine down ?_ ?_
    · intro h1 hf y
      refine r_iload_n dX9_roundFrom_2 rfl ?_
      refine r_aload_n dX9_roundFrom_3 rfl ?_
      refine r_iconst (0) dX9_roundFrom_4 rfl ?_
      refine ld_19 (t := 0)  (by omega) (by omega) dX9_roundFrom_5 ?_
      rw [hn]
      refine r_icmp_ge_N 45 dX9_roundFrom_6 rfl (by omega) (by omega) (fun h6 => ?_) (fun h6 => ?_)
      · refine r_bipush (-9) dX9_roundFrom_45 rfl ?_
        refine r_ireturn rfl (by first | rfl | exact nar_bi _ | assumption) dX9_roundFrom_47 ⟨_, rfl, ?_⟩
        exact qof K (by unfold rndB; rw [hf, Nat.sub_self]; rfl) rfl
      · exfalso; omega
    · intro k hk ih h1 hf y
      have hm : (p + n * k - k) % n < n := Nat.mod_lt _ (by omega)
      refine r_iload_n dX9_roundFrom_2 rfl ?_
      refine r_aload_n dX9_roundFrom_3 rfl ?_
      refine r_iconst (0) dX9_roundFrom_4 rfl ?_
      refine ld_19 (t := 0)  (by omega) (by omega) dX9_roundFrom_5 ?_
      rw [hn]
      refine r_icmp_ge_N 45 dX9_roundFrom_6 rfl (by omega) (by omega) (fun h6 => ?_) (fun h6 => ?_)
      · exfalso; omega
      · refine r_iload_n dX9_roundFrom_9 rfl ?_
        refine r_iload_n dX9_roundFrom_10 rfl ?_
        refine r_iload_n dX9_roundFrom_11 rfl ?_
        refine r_imul dX9_roundFrom_12 ?_
        refine r_iadd dX9_roundFrom_13 ?_
        refine r_aload_n dX9_roundFrom_14 rfl ?_
        refine r_iconst (0) dX9_roundFrom_15 rfl ?_
        refine ld_19 (t := 0)  (by omega) (by omega) dX9_roundFrom_16 ?_
        rw [hn]
        refine r_iload_n dX9_roundFrom_17 rfl ?_
        refine r_imul dX9_roundFrom_18 ?_
        refine r_iadd dX9_roundFrom_19 ?_
        refine r_aload_n dX9_roundFrom_20 rfl ?_
        refine r_iconst (0) dX9_roundFrom_21 rfl ?_
        refine ld_19 (t := 0)  (by omega) (by omega) dX9_roundFrom_22 ?_
        rw [hn]
        refine r_irem dX9_roundFrom_23 (nI_ne0 (by omega) (by omega)) ?_
        rw [rndB_e hp hk hn6]
        refine r_istore_4 dX9_roundFrom_24 rfl ?_
        refine r_aload_n dX9_roundFrom_26 rfl ?_
        refine r_iload_n dX9_roundFrom_27 rfl ?_
        refine r_iload dX9_roundFrom_28 rfl ?_
        refine cS_i3 fX9_wanted lkX9_48 rfl dX9_roundFrom_30 (sp_X9_wanted ha (by omega) (by omega) ?_)
        refine r_if_eq 39 dX9_roundFrom_33 rfl (fun h33 => ?_) (fun h33 => ?_)
        · refine r_inc1_3 dX9_roundFrom_39 rfl ?_
          refine r_goto 2 dX9_roundFrom_42 rfl ?_
          refine ih (by omega) ?_ _
          rw [hf, show n - k = (n - (k + 1)) + 1 by omega, fnd, if_neg (by simp [h33])]
        · refine r_iload dX9_roundFrom_36 rfl ?_
          refine r_ireturn rfl (by first | rfl | exact nar_bi _ | assumption) dX9_roundFrom_38 ⟨_, rfl, ?_⟩
          exact qof K (by unfold rndB; rw [hf, show n - k = (n - (k + 1)) + 1 by omega, fnd, if_pos (by simp [h33])]; rfl) rfl
  exact LOOP 1 (by omega) (by omega) rfl _
theorem sp_X9_leastFrom {a p n : Nat} (ha : 2 < a ∧ a < 7) (hn : σ a 0 = nI n) (hn6 : n ≤ 6) (hp : p < n) (K : Q (oI (lst (σ a) n p)) σ) : Mi E mX9_leastFrom [.ref (ad E 19 a), .int (nI p)] σ Q := by
  refine Mw_of (L0 := [some (.ref (ad E 19 a)), some (.int (nI p)), none]) pn_X9 rfl rfl (Nat.le_of_ble_eq_true rfl) ?_
  refine r_iconst (0) dX9_leastFrom_0 rfl ?_
  refine r_istore_n_2 dX9_leastFrom_1 rfl ?_
  have LOOP : ∀ k, k ≤ n → lst (σ a) n p = fnd (fun o => !(wnt (σ a) p o == 0)) k (n - k) → GW E (ZM E 2 fun v σ' => ∃ r, v = some (.int r) ∧ Q r σ') mX9_leastFrom 2 [some (.ref (ad E 19 a)), some (.int (nI p)), some (.int (nI k))] [] σ := by
    refine down ?_ ?_
    · intro hf
      refine r_iload_n dX9_leastFrom_2 rfl ?_
      refine r_aload_n dX9_leastFrom_3 rfl ?_
      refine r_iconst (0) dX9_leastFrom_4 rfl ?_
      refine ld_19 (t := 0)  (by omega) (by omega) dX9_leastFrom_5 ?_
      rw [hn]
      refine r_icmp_ge_N 26 dX9_leastFrom_6 rfl (by omega) (by omega) (fun h6 => ?_) (fun h6 => ?_)
      · refine r_bipush (-9) dX9_leastFrom_26 rfl ?_
        refine r_ireturn rfl (by first | rfl | exact nar_bi _ | assumption) dX9_leastFrom_28 ⟨_, rfl, ?_⟩
        exact qof K (by rw [hf, Nat.sub_self]; rfl) rfl
      · exfalso; omega
    · intro k hk ih hf
      refine r_iload_n dX9_leastFrom_2 rfl ?_
      refine r_aload_n dX9_leastFrom_3 rfl ?_
      refine r_iconst (0) dX9_leastFrom_4 rfl ?_
      refine ld_19 (t := 0)  (by omega) (by omega) dX9_leastFrom_5 ?_
      rw [hn]
      refine r_icmp_ge_N 26 dX9_leastFrom_6 rfl (by omega) (by omega) (fun h6 => ?_) (fun h6 => ?_)
      · exfalso; omega
      · refine r_aload_n dX9_leastFrom_9 rfl ?_
        refine r_iload_n dX9_leastFrom_10 rfl ?_
        refine r_iload_n dX9_leastFrom_11 rfl ?_
        refine cS_i3 fX9_wanted lkX9_48 rfl dX9_leastFrom_12 (sp_X9_wanted ha (by omega) (by omega) ?_)
        refine r_if_eq 20 dX9_leastFrom_15 rfl (fun h15 => ?_) (fun h15 => ?_)
        · refine r_inc1_2 dX9_leastFrom_20 rfl ?_
          refine r_goto 2 dX9_leastFrom_23 rfl ?_
          refine ih ?_
          rw [hf, show n - k = (n - (k + 1)) + 1 by omega, fnd, if_neg (by simp [h15])]
        · refine r_iload_n dX9_leastFrom_18 rfl ?_
          refine r_ireturn rfl (by first | rfl | exact nar_bi _ | assumption) dX9_leastFrom_19 ⟨_, rfl, ?_⟩
          exact qof K (by rw [hf, show n - k = (n - (k + 1)) + 1 by omega, fnd, if_pos (by simp [h15])]; rfl) rfl
  exact LOOP 0 (by omega) rfl
theorem rich_lt (r : Row) (p : Nat) : ∀ o f, rich r p o = some f → f < o
  | 0, f, h => by cases h
  | o + 1, f, h => by
    unfold rich at h
    split at h
    · cases h; omega
    · have := rich_lt r p o f h; omega
theorem rich_none {r : Row} {p o : Nat} (h : rich r p o = none) : rich r p (o + 1) = if wnt r p o ≠ 0 then some o else none := by
  rw [rich]
  by_cases hw : wnt r p o ≠ 0
  · rw [if_pos ⟨hw, fun f hf => by rw [h] at hf; cases hf⟩, if_pos hw]
  · rw [if_neg (fun q => hw q.1), if_neg hw, h]
theorem rich_some {r : Row} {p o f : Nat} (h : rich r p o = some f) : rich r p (o + 1) = if wnt r p o ≠ 0 ∧ bsum (r (5 + 5 * f)) 7 < bsum (r (5 + 5 * o)) 7 then some o else some f := by
  rw [rich]
  by_cases hw : wnt r p o ≠ 0 ∧ bsum (r (5 + 5 * f)) 7 < bsum (r (5 + 5 * o)) 7
  · rw [if_pos ⟨hw.1, fun g hg => by rw [h] at hg; cases hg; exact hw.2⟩, if_pos hw]
  · rw [if_neg (fun q => hw ⟨q.1, q.2 f h⟩), if_neg hw, h]
theorem oI_none : oI none = -9 := rfl
theorem oI_some (k : Nat) : oI (some k) = nI k := rfl
theorem sp_X9_richestFrom {a p n : Nat} (ha : 2 < a ∧ a < 7) (hn : σ a 0 = nI n) (hn6 : n ≤ 6) (hp : p < n) (K : Q (oI (rich (σ a) p n)) σ) : Mi E mX9_richestFrom [.ref (ad E 19 a), .int (nI p)] σ Q := by
  refine Mw_of (L0 := [some (.ref (ad E 19 a)), some (.int (nI p)), none, none]) pn_X9 rfl rfl (Nat.le_of_ble_eq_true rfl) ?_
  refine r_bipush (-9) dX9_richestFrom_0 rfl ?_
  refine r_istore_n_2 dX9_richestFrom_2 rfl ?_
  refine r_iconst (0) dX9_richestFrom_3 rfl ?_
  refine r_istore_n_3 dX9_richestFrom_4 rfl ?_
  have LOOP : ∀ k, k ≤ n → GW E (ZM E 2 fun v σ' => ∃ r, v = some (.int r) ∧ Q r σ') mX9_richestFrom 5 [some (.ref (ad E 19 a)), some (.int (nI p)), some (.int (oI (rich (σ a) p k))), some (.int (nI k))] [] σ := by
    refine down ?_ ?_
    · refine r_iload_n dX9_richestFrom_5 rfl ?_
      refine r_aload_n dX9_richestFrom_6 rfl ?_
      refine r_iconst (0) dX9_richestFrom_7 rfl ?_
      refine ld_19 (t := 0)  (by omega) (by omega) dX9_richestFrom_8 ?_
      rw [hn]
      refine r_icmp_ge_N 56 dX9_richestFrom_9 rfl (by omega) (by omega) (fun h9 => ?_) (fun h9 => ?_)
      · refine r_iload_n dX9_richestFrom_56 rfl ?_
        refine r_ireturn rfl (by first | rfl | exact nar_bi _ | assumption) dX9_richestFrom_57 ⟨_, rfl, ?_⟩
        exact K
      · exfalso; omega
    · intro k hk ih
      cases hf : rich (σ a) p k with
      | none =>
        rw [rich_none hf] at ih
        rw [oI_none]
        refine r_iload_n dX9_richestFrom_5 rfl ?_
        refine r_aload_n dX9_richestFrom_6 rfl ?_
        refine r_iconst (0) dX9_richestFrom_7 rfl ?_
        refine ld_19 (t := 0)  (by omega) (by omega) dX9_richestFrom_8 ?_
        rw [hn]
        refine r_icmp_ge_N 56 dX9_richestFrom_9 rfl (by omega) (by omega) (fun h9 => ?_) (fun h9 => ?_)
        · exfalso; omega
        · refine r_aload_n dX9_richestFrom_12 rfl ?_
          refine r_iload_n dX9_richestFrom_13 rfl ?_
          refine r_iload_n dX9_richestFrom_14 rfl ?_
          refine cS_i3 fX9_wanted lkX9_48 rfl dX9_richestFrom_15 (sp_X9_wanted ha (by omega) (by omega) ?_)
          refine r_if_eq 50 dX9_richestFrom_18 rfl (fun h18 => ?_) (fun h18 => ?_)
          · refine r_inc1_3 dX9_richestFrom_50 rfl ?_
            refine r_goto 5 dX9_richestFrom_53 rfl ?_
            rw [if_neg (by simp [h18])] at ih
            exact ih
          · refine r_iload_n dX9_richestFrom_21 rfl ?_
            refine r_if_lt 48 dX9_richestFrom_22 rfl (fun h22 => ?_) (fun h22 => ?_)
            · refine r_iload_n dX9_richestFrom_48 rfl ?_
              refine r_istore_n_2 dX9_richestFrom_49 rfl ?_
              refine r_inc1_3 dX9_richestFrom_50 rfl ?_
              refine r_goto 5 dX9_richestFrom_53 rfl ?_
              rw [if_pos h18] at ih
              exact ih
            · exact absurd (by decide) h22
      | some f =>
        have hfk := rich_lt _ _ _ _ hf
        rw [rich_some hf] at ih
        rw [oI_some]
        refine r_iload_n dX9_richestFrom_5 rfl ?_
        refine r_aload_n dX9_richestFrom_6 rfl ?_
        refine r_iconst (0) dX9_richestFrom_7 rfl ?_
        refine ld_19 (t := 0)  (by omega) (by omega) dX9_richestFrom_8 ?_
        rw [hn]
        refine r_icmp_ge_N 56 dX9_richestFrom_9 rfl (by omega) (by omega) (fun h9 => ?_) (fun h9 => ?_)
        · exfalso; omega
        · refine r_aload_n dX9_richestFrom_12 rfl ?_
          refine r_iload_n dX9_richestFrom_13 rfl ?_
          refine r_iload_n dX9_richestFrom_14 rfl ?_
          refine cS_i3 fX9_wanted lkX9_48 rfl dX9_richestFrom_15 (sp_X9_wanted ha (by omega) (by omega) ?_)
          refine r_if_eq 50 dX9_richestFrom_18 rfl (fun h18 => ?_) (fun h18 => ?_)
          · refine r_inc1_3 dX9_richestFrom_50 rfl ?_
            refine r_goto 5 dX9_richestFrom_53 rfl ?_
            rw [if_neg (by simp [h18])] at ih
            exact ih
          · refine r_iload_n dX9_richestFrom_21 rfl ?_
            refine r_if_lt 48 dX9_richestFrom_22 rfl (fun h22 => ?_) (fun h22 => ?_)
            · exact absurd h22 (nI_pos (by omega))
            · refine r_aload_n dX9_richestFrom_25 rfl ?_
              refine r_iload_n dX9_richestFrom_26 rfl ?_
              refine r_iconst (2) dX9_richestFrom_27 rfl ?_
              refine cS_i2 fX9_of lkX9_44 rfl dX9_richestFrom_28 (sp_of2  ?_)
              refine ld_19  (by omega) (by omega) dX9_richestFrom_31 ?_
              refine cS_i1 fX9_bits lkX9_52 rfl dX9_richestFrom_32 (sp_X9_bits  ?_)
              refine r_aload_n dX9_richestFrom_35 rfl ?_
              refine r_iload_n dX9_richestFrom_36 rfl ?_
              refine r_iconst (2) dX9_richestFrom_37 rfl ?_
              refine cS_i2 fX9_of lkX9_44 rfl dX9_richestFrom_38 (sp_of2  ?_)
              refine ld_19  (by omega) (by omega) dX9_richestFrom_41 ?_
              refine cS_i1 fX9_bits lkX9_52 rfl dX9_richestFrom_42 (sp_X9_bits  ?_)
              refine r_icmp_le 50 dX9_richestFrom_45 rfl (fun h45 => ?_) (fun h45 => ?_)
              · refine r_inc1_3 dX9_richestFrom_50 rfl ?_
                refine r_goto 5 dX9_richestFrom_53 rfl ?_
                rw [if_neg (fun q => absurd q.2 (Int32.not_lt.mpr h45))] at ih
                exact ih
              · refine r_iload_n dX9_richestFrom_48 rfl ?_
                refine r_istore_n_2 dX9_richestFrom_49 rfl ?_
                refine r_inc1_3 dX9_richestFrom_50 rfl ?_
                refine r_goto 5 dX9_richestFrom_53 rfl ?_
                rw [if_pos ⟨h18, Int32.not_le.mp h45⟩] at ih
                exact ih
  exact LOOP 0 (by omega)
end MODEL2
