/-! ===== the kinds of workers ===== -/
section KINDS
variable {E : EnvT} {σ : Sg} {Q : Int32 → Sg → Prop} {Qv : Sg → Prop}
theorem sp_X7_dueAfter {a : Nat} {f : Int32} (K : Q (f / 3 + 1) σ) : Mi E mX7_dueAfter [.ref a, .int f] σ Q := by
  refine Mw_of (L0 := [some (.ref a), some (.int f)]) pn_X7 rfl rfl (Nat.le_of_ble_eq_true rfl) ?_
  refine r_iload_n dX7_dueAfter_0 rfl ?_
  refine r_iconst (3) dX7_dueAfter_1 rfl ?_
  refine r_idiv dX7_dueAfter_2 (by decide) ?_
  refine r_iconst (1) dX7_dueAfter_3 rfl ?_
  refine r_iadd dX7_dueAfter_4 ?_
  refine r_ireturn rfl (by first | rfl | exact nar_bi _ | assumption) dX7_dueAfter_5 ⟨_, rfl, ?_⟩
  exact K
theorem sp_X0_dueAfter {i : Nat} {f : Int32} (hi : i < 3) (K : Q (f / 3 + 1 + 1) σ) : Mi E mX0_dueAfter [.ref (ad E 5 i), .int f] σ Q := by
  refine Mw_of (L0 := [some (.ref (ad E 5 i)), some (.int f)]) pn_X0 rfl rfl (Nat.le_of_ble_eq_true rfl) ?_
  refine r_aload_n dX0_dueAfter_0 rfl ?_
  refine r_iload_n dX0_dueAfter_1 rfl ?_
  refine su_due (ci := 0) rfl rfl (rcv_pl (ci := 0) (pl_c 5 (by decide) (by decide) i hi) rfl rfl) rfl dX0_dueAfter_2 (sp_X7_dueAfter ?_)
  refine r_iconst (1) dX0_dueAfter_5 rfl ?_
  refine r_iadd dX0_dueAfter_6 ?_
  refine r_ireturn rfl (by first | rfl | exact nar_bi _ | assumption) dX0_dueAfter_7 ⟨_, rfl, ?_⟩
  exact K
theorem sp_X4_dueAfter {a : Nat} {f : Int32} (K : Q 0 σ) : Mi E mX4_dueAfter [.ref a, .int f] σ Q := by
  refine Mw_of (L0 := [some (.ref a), some (.int f)]) pn_X4 rfl rfl (Nat.le_of_ble_eq_true rfl) ?_
  refine r_iconst (0) dX4_dueAfter_0 rfl ?_
  refine r_ireturn rfl (by first | rfl | exact nar_bi _ | assumption) dX4_dueAfter_1 ⟨_, rfl, ?_⟩
  exact K
theorem sp_X2_dueAfter {a : Nat} {f : Int32} (K : Q 1 σ) : Mi E mX2_dueAfter [.ref a, .int f] σ Q := by
  refine Mw_of (L0 := [some (.ref a), some (.int f)]) pn_X2 rfl rfl (Nat.le_of_ble_eq_true rfl) ?_
  refine r_iconst (1) dX2_dueAfter_0 rfl ?_
  refine r_ireturn rfl (by first | rfl | exact nar_bi _ | assumption) dX2_dueAfter_1 ⟨_, rfl, ?_⟩
  exact K
theorem add_e {p k n : Nat} (hp : p < n) (hk : k < n) (hn : n ≤ 6) : (nI p + nI k) - (nI p + nI k) / nI n * nI n = nI ((p + k) % n) := by
  rw [nI_add, pk_rem (by omega) (by omega) (by omega)]
theorem sub_e {p k n : Nat} (hp : p < n) (hk : k < n) (h1 : 1 ≤ k) (hn : n ≤ 6) : (nI p - nI k + nI n) - (nI p - nI k + nI n) / nI n * nI n = nI ((p + n * k - k) % n) := by
  have e : nI p - nI k + nI n = nI (p + n - k) := by
    rw [show nI p - nI k + nI n = nI p + nI n - nI k by grind, nI_add, pk_sub (by omega)]
  rw [e, pk_rem (by omega) (by omega) (by omega)]
  congr 1
  obtain ⟨j, rfl⟩ : ∃ j, k = j + 1 := ⟨k - 1, by omega⟩
  rw [show p + n * (j + 1) - (j + 1) = p + n - (j + 1) + n * j by rw [Nat.mul_add, Nat.mul_one]; omega, Nat.add_mul_mod_self_left]
theorem sp_X7_choosePayer {a i p n : Nat} (hi : i < 3) (hn : σ i 0 = nI n) (hn6 : n ≤ 6) (hp : p < n) (K : Q (oI (rndW (σ i) n p)) σ) : Mi E mX7_choosePayer [.ref a, .ref (ad E 1 i), .int (nI p)] σ Q := by
  refine Mw_of (L0 := [some (.ref a), some (.ref (ad E 1 i)), some (.int (nI p)), none, none]) pn_X7 rfl rfl (Nat.le_of_ble_eq_true rfl) ?_
  refine r_iconst (1) dX7_choosePayer_0 rfl ?_
  refine r_istore_n_3 dX7_choosePayer_1 rfl ?_
  have LOOP : ∀ k, k ≤ n → 1 ≤ k → fnd (fun k => !(wnt (σ i) p ((p + k) % n) == 0)) 1 (n - 1) = fnd (fun k => !(wnt (σ i) p ((p + k) % n) == 0)) k (n - k) → ∀ y, GW E (ZM E 1 fun v σ' => ∃ r, v = some (.int r) ∧ Q r σ') mX7_choosePayer 2 [some (.ref a), some (.ref (ad E 1 i)), some (.int (nI p)), some (.int (nI k)), y] [] σ := by
    refine down ?_ ?_
    · intro h1 hf y
      refine r_iload_n dX7_choosePayer_2 rfl ?_
      refine r_aload_n dX7_choosePayer_3 rfl ?_
      refine getX7_9 (by omega) rfl dX7_choosePayer_4 ?_
      rw [hn]
      refine r_icmp_ge_N 39 dX7_choosePayer_7 rfl (by omega) (by omega) (fun h7 => ?_) (fun h7 => ?_)
      · refine r_bipush (-9) dX7_choosePayer_39 rfl ?_
        refine r_ireturn rfl (by first | rfl | exact nar_bi _ | assumption) dX7_choosePayer_41 ⟨_, rfl, ?_⟩
        exact qof K (by unfold rndW; rw [hf, Nat.sub_self]; rfl) rfl
      · exfalso; omega
    · intro k hk ih h1 hf y
      have hm : (p + k) % n < n := Nat.mod_lt _ (by omega)
      refine r_iload_n dX7_choosePayer_2 rfl ?_
      refine r_aload_n dX7_choosePayer_3 rfl ?_
      refine getX7_9 (by omega) rfl dX7_choosePayer_4 ?_
      rw [hn]
      refine r_icmp_ge_N 39 dX7_choosePayer_7 rfl (by omega) (by omega) (fun h7 => ?_) (fun h7 => ?_)
      · exfalso; omega
      · refine r_iload_n dX7_choosePayer_10 rfl ?_
        refine r_iload_n dX7_choosePayer_11 rfl ?_
        refine r_iadd dX7_choosePayer_12 ?_
        refine r_aload_n dX7_choosePayer_13 rfl ?_
        refine getX7_9 (by omega) rfl dX7_choosePayer_14 ?_
        rw [hn]
        refine r_irem dX7_choosePayer_17 (nI_ne0 (by omega) (by omega)) ?_
        rw [add_e hp hk hn6]
        refine r_istore_4 dX7_choosePayer_18 rfl ?_
        refine r_aload_n dX7_choosePayer_20 rfl ?_
        refine r_iload dX7_choosePayer_21 rfl ?_
        refine r_iload_n dX7_choosePayer_23 rfl ?_
        refine cVN_i2 fX1_offered (rcv_1 (by omega)) lkX7_15 rfl dX7_choosePayer_24 (sp_X1_offered hi (by omega) (by omega) ?_)
        refine r_if_eq 33 dX7_choosePayer_27 rfl (fun h27 => ?_) (fun h27 => ?_)
        · refine r_inc1_3 dX7_choosePayer_33 rfl ?_
          refine r_goto 2 dX7_choosePayer_36 rfl ?_
          refine ih (by omega) ?_ _
          rw [hf, show n - k = (n - (k + 1)) + 1 by omega, fnd, if_neg (by simp [h27])]
        · refine r_iload dX7_choosePayer_30 rfl ?_
          refine r_ireturn rfl (by first | rfl | exact nar_bi _ | assumption) dX7_choosePayer_32 ⟨_, rfl, ?_⟩
          exact qof K (by unfold rndW; rw [hf, show n - k = (n - (k + 1)) + 1 by omega, fnd, if_pos (by simp [h27])]; rfl) rfl
  exact LOOP 1 (by omega) (by omega) rfl _
theorem sp_X0_choosePayer {a i p n : Nat} (hi : i < 3) (hn : σ i 0 = nI n) (hn6 : n ≤ 6) (hp : p < n) (K : Q (oI (rndB (σ i) n p)) σ) : Mi E mX0_choosePayer [.ref a, .ref (ad E 1 i), .int (nI p)] σ Q := by
  refine Mw_of (L0 := [some (.ref a), some (.ref (ad E 1 i)), some (.int (nI p)), none, none]) pn_X0 rfl rfl (Nat.le_of_ble_eq_true rfl) ?_
  refine r_iconst (1) dX0_choosePayer_0 rfl ?_
  refine r_istore_n_3 dX0_choosePayer_1 rfl ?_
  have LOOP : ∀ k, k ≤ n → 1 ≤ k → fnd (fun k => !(wnt (σ i) p ((p + n * k - k) % n) == 0)) 1 (n - 1) = fnd (fun k => !(wnt (σ i) p ((p + n * k - k) % n) == 0)) k (n - k) → ∀ y, GW E (ZM E 1 fun v σ' => ∃ r, v = some (.int r) ∧ Q r σ') mX0_choosePayer 2 [some (.ref a), some (.ref (ad E 1 i)), some (.int (nI p)), some (.int (nI k)), y] [] σ := by
    refine down ?_ ?_
    · intro h1 hf y
      refine r_iload_n dX0_choosePayer_2 rfl ?_
      refine r_aload_n dX0_choosePayer_3 rfl ?_
      refine getX0_13 (by omega) rfl dX0_choosePayer_4 ?_
      rw [hn]
      refine r_icmp_ge_N 44 dX0_choosePayer_7 rfl (by omega) (by omega) (fun h7 => ?_) (fun h7 => ?_)
      · refine r_bipush (-9) dX0_choosePayer_44 rfl ?_
        refine r_ireturn rfl (by first | rfl | exact nar_bi _ | assumption) dX0_choosePayer_46 ⟨_, rfl, ?_⟩
        exact qof K (by unfold rndB; rw [hf, Nat.sub_self]; rfl) rfl
      · exfalso; omega
    · intro k hk ih h1 hf y
      have hm : (p + n * k - k) % n < n := Nat.mod_lt _ (by omega)
      refine r_iload_n dX0_choosePayer_2 rfl ?_
      refine r_aload_n dX0_choosePayer_3 rfl ?_
      refine getX0_13 (by omega) rfl dX0_choosePayer_4 ?_
      rw [hn]
      refine r_icmp_ge_N 44 dX0_choosePayer_7 rfl (by omega) (by omega) (fun h7 => ?_) (fun h7 => ?_)
      · exfalso; omega
      · refine r_iload_n dX0_choosePayer_10 rfl ?_
        refine r_iload_n dX0_choosePayer_11 rfl ?_
        refine r_isub dX0_choosePayer_12 ?_
        refine r_aload_n dX0_choosePayer_13 rfl ?_
        refine getX0_13 (by omega) rfl dX0_choosePayer_14 ?_
        rw [hn]
        refine r_iadd dX0_choosePayer_17 ?_
        refine r_aload_n dX0_choosePayer_18 rfl ?_
        refine getX0_13 (by omega) rfl dX0_choosePayer_19 ?_
        rw [hn]
        refine r_irem dX0_choosePayer_22 (nI_ne0 (by omega) (by omega)) ?_
        rw [sub_e hp hk h1 hn6]
        refine r_istore_4 dX0_choosePayer_23 rfl ?_
        refine r_aload_n dX0_choosePayer_25 rfl ?_
        refine r_iload dX0_choosePayer_26 rfl ?_
        refine r_iload_n dX0_choosePayer_28 rfl ?_
        refine cVN_i2 fX1_offered (rcv_1 (by omega)) lkX0_19 rfl dX0_choosePayer_29 (sp_X1_offered hi (by omega) (by omega) ?_)
        refine r_if_eq 38 dX0_choosePayer_32 rfl (fun h32 => ?_) (fun h32 => ?_)
        · refine r_inc1_3 dX0_choosePayer_38 rfl ?_
          refine r_goto 2 dX0_choosePayer_41 rfl ?_
          refine ih (by omega) ?_ _
          rw [hf, show n - k = (n - (k + 1)) + 1 by omega, fnd, if_neg (by simp [h32])]
        · refine r_iload dX0_choosePayer_35 rfl ?_
          refine r_ireturn rfl (by first | rfl | exact nar_bi _ | assumption) dX0_choosePayer_37 ⟨_, rfl, ?_⟩
          exact qof K (by unfold rndB; rw [hf, show n - k = (n - (k + 1)) + 1 by omega, fnd, if_pos (by simp [h32])]; rfl) rfl
  exact LOOP 1 (by omega) (by omega) rfl _
theorem sp_X2_choosePayer {a i p n : Nat} (hi : i < 3) (hn : σ i 0 = nI n) (hn6 : n ≤ 6) (hp : p < n) (K : Q (oI (lst (σ i) n p)) σ) : Mi E mX2_choosePayer [.ref a, .ref (ad E 1 i), .int (nI p)] σ Q := by
  refine Mw_of (L0 := [some (.ref a), some (.ref (ad E 1 i)), some (.int (nI p)), none]) pn_X2 rfl rfl (Nat.le_of_ble_eq_true rfl) ?_
  refine r_iconst (0) dX2_choosePayer_0 rfl ?_
  refine r_istore_n_3 dX2_choosePayer_1 rfl ?_
  have LOOP : ∀ k, k ≤ n → lst (σ i) n p = fnd (fun o => !(wnt (σ i) p o == 0)) k (n - k) → GW E (ZM E 1 fun v σ' => ∃ r, v = some (.int r) ∧ Q r σ') mX2_choosePayer 2 [some (.ref a), some (.ref (ad E 1 i)), some (.int (nI p)), some (.int (nI k))] [] σ := by
    refine down ?_ ?_
    · intro hf
      refine r_iload_n dX2_choosePayer_2 rfl ?_
      refine r_aload_n dX2_choosePayer_3 rfl ?_
      refine getX2_9 (by omega) rfl dX2_choosePayer_4 ?_
      rw [hn]
      refine r_icmp_ge_N 27 dX2_choosePayer_7 rfl (by omega) (by omega) (fun h7 => ?_) (fun h7 => ?_)
      · refine r_bipush (-9) dX2_choosePayer_27 rfl ?_
        refine r_ireturn rfl (by first | rfl | exact nar_bi _ | assumption) dX2_choosePayer_29 ⟨_, rfl, ?_⟩
        exact qof K (by rw [hf, Nat.sub_self]; rfl) rfl
      · exfalso; omega
    · intro k hk ih hf
      refine r_iload_n dX2_choosePayer_2 rfl ?_
      refine r_aload_n dX2_choosePayer_3 rfl ?_
      refine getX2_9 (by omega) rfl dX2_choosePayer_4 ?_
      rw [hn]
      refine r_icmp_ge_N 27 dX2_choosePayer_7 rfl (by omega) (by omega) (fun h7 => ?_) (fun h7 => ?_)
      · exfalso; omega
      · refine r_aload_n dX2_choosePayer_10 rfl ?_
        refine r_iload_n dX2_choosePayer_11 rfl ?_
        refine r_iload_n dX2_choosePayer_12 rfl ?_
        refine cVN_i2 fX1_offered (rcv_1 (by omega)) lkX2_15 rfl dX2_choosePayer_13 (sp_X1_offered hi (by omega) (by omega) ?_)
        refine r_if_eq 21 dX2_choosePayer_16 rfl (fun h16 => ?_) (fun h16 => ?_)
        · refine r_inc1_3 dX2_choosePayer_21 rfl ?_
          refine r_goto 2 dX2_choosePayer_24 rfl ?_
          refine ih ?_
          rw [hf, show n - k = (n - (k + 1)) + 1 by omega, fnd, if_neg (by simp [h16])]
        · refine r_iload_n dX2_choosePayer_19 rfl ?_
          refine r_ireturn rfl (by first | rfl | exact nar_bi _ | assumption) dX2_choosePayer_20 ⟨_, rfl, ?_⟩
          exact qof K (by rw [hf, show n - k = (n - (k + 1)) + 1 by omega, fnd, if_pos (by simp [h16])]; rfl) rfl
  exact LOOP 0 (by omega) rfl
/-- the most that the best has -/
def mostO (r : Row) (o : Option Nat) : Int32 := match o with
  | none => 0
  | some f => bsum (r (5 + 5 * f)) 7
theorem bsum_pos : ∀ m, m < 128 → m ≠ 0 → 0 < bsum (nI m) 7 := by decide +kernel
theorem bsum_nn : ∀ m, m < 128 → 0 ≤ bsum (nI m) 7 := by decide +kernel
theorem wnt_pos {r : Row} {p o : Nat} (h7 : R7 (r (5 + 5 * o))) (h : wnt r p o ≠ 0) : 0 < bsum (r (5 + 5 * o)) 7 := by
  obtain ⟨m, hm, e⟩ := R7_ex h7
  rw [e]
  refine bsum_pos m hm (fun h0 => h ?_)
  unfold wnt
  split
  · rfl
  · rw [e, h0]
    exact Int32.zero_and
theorem sp_X3_choosePayer {a i p n : Nat} (hi : i < 3) (hn : σ i 0 = nI n) (hn6 : n ≤ 6) (hp : p < n) (h7 : ∀ o, o < 6 → R7 (σ i (5 + 5 * o))) (K : Q (oI (rich (σ i) p n)) σ) : Mi E mX3_choosePayer [.ref a, .ref (ad E 1 i), .int (nI p)] σ Q := by
  refine Mw_of (L0 := [some (.ref a), some (.ref (ad E 1 i)), some (.int (nI p)), none, none, none, none]) pn_X3 rfl rfl (Nat.le_of_ble_eq_true rfl) ?_
  refine r_bipush (-9) dX3_choosePayer_0 rfl ?_
  refine r_istore_n_3 dX3_choosePayer_2 rfl ?_
  refine r_iconst (0) dX3_choosePayer_3 rfl ?_
  refine r_istore_4 dX3_choosePayer_4 rfl ?_
  refine r_iconst (0) dX3_choosePayer_6 rfl ?_
  refine r_istore_5 dX3_choosePayer_7 rfl ?_
  have LOOP : ∀ k, k ≤ n → ∀ y, GW E (ZM E 1 fun v σ' => ∃ r, v = some (.int r) ∧ Q r σ') mX3_choosePayer 9 [some (.ref a), some (.ref (ad E 1 i)), some (.int (nI p)), some (.int (oI (rich (σ i) p k))), some (.int (mostO (σ i) (rich (σ i) p k))), some (.int (nI k)), y] [] σ := by
    refine down ?_ ?_
    · intro y
      refine r_iload dX3_choosePayer_9 rfl ?_
      refine r_aload_n dX3_choosePayer_11 rfl ?_
      refine getX3_9 (by omega) rfl dX3_choosePayer_12 ?_
      rw [hn]
      refine r_icmp_ge_N 60 dX3_choosePayer_15 rfl (by omega) (by omega) (fun h15 => ?_) (fun h15 => ?_)
      · refine r_iload_n dX3_choosePayer_60 rfl ?_
        refine r_ireturn rfl (by first | rfl | exact nar_bi _ | assumption) dX3_choosePayer_61 ⟨_, rfl, ?_⟩
        exact K
      · exfalso; omega
    · intro k hk ih y
      obtain ⟨m, hm, em⟩ := R7_ex (h7 k (by omega))
      have h7k := h7 k (by omega)
      refine r_iload dX3_choosePayer_9 rfl ?_
      refine r_aload_n dX3_choosePayer_11 rfl ?_
      refine getX3_9 (by omega) rfl dX3_choosePayer_12 ?_
      rw [hn]
      refine r_icmp_ge_N 60 dX3_choosePayer_15 rfl (by omega) (by omega) (fun h15 => ?_) (fun h15 => ?_)
      · exfalso; omega
      · refine r_aload_n dX3_choosePayer_18 rfl ?_
        refine getX3_15 (by omega) rfl dX3_choosePayer_19 ?_
        refine r_iload dX3_choosePayer_22 rfl ?_
        refine ld_11  (by omega) (by omega) dX3_choosePayer_24 ?_
        rw [em]
        refine cS_i1 fJ6_bitCount_0f7a4 lkX3_19 rfl dX3_choosePayer_25 (sp_J6_bitCount_0f7a4 hm ?_)
        rw [← em]
        refine r_istore_6 dX3_choosePayer_28 rfl ?_
        refine r_iload dX3_choosePayer_30 rfl ?_
        refine r_iload dX3_choosePayer_32 rfl ?_
        refine r_icmp_le 54 dX3_choosePayer_34 rfl (fun h34 => ?_) (fun h34 => ?_)
        · have e : rich (σ i) p (k + 1) = rich (σ i) p k := by
            cases hf : rich (σ i) p k with
            | none =>
              rw [rich_none hf, if_neg (fun q => ?_)]
              rw [hf] at h34
              exact absurd (wnt_pos h7k q) (Int32.not_lt.mpr h34)
            | some f =>
              rw [rich_some hf, if_neg (fun q => ?_)]
              rw [hf] at h34
              exact absurd q.2 (Int32.not_lt.mpr h34)
          rw [e] at ih
          refine r_inc1_5 dX3_choosePayer_54 rfl ?_
          refine r_goto 9 dX3_choosePayer_57 rfl ?_
          exact ih _
        · have h34 := Int32.not_le.mp h34
          refine r_aload_n dX3_choosePayer_37 rfl ?_
          refine r_iload dX3_choosePayer_38 rfl ?_
          refine r_iload_n dX3_choosePayer_40 rfl ?_
          refine cVN_i2 fX1_offered (rcv_1 (by omega)) lkX3_25 rfl dX3_choosePayer_41 (sp_X1_offered hi (by omega) (by omega) ?_)
          refine r_if_eq 54 dX3_choosePayer_44 rfl (fun h44 => ?_) (fun h44 => ?_)
          · have e : rich (σ i) p (k + 1) = rich (σ i) p k := by
              cases hf : rich (σ i) p k with
              | none => rw [rich_none hf, if_neg (fun q => q h44)]
              | some f => rw [rich_some hf, if_neg (fun q => q.1 h44)]
            rw [e] at ih
            refine r_inc1_5 dX3_choosePayer_54 rfl ?_
            refine r_goto 9 dX3_choosePayer_57 rfl ?_
            exact ih _
          · have e : rich (σ i) p (k + 1) = some k := by
              cases hf : rich (σ i) p k with
              | none => rw [rich_none hf, if_pos h44]
              | some f => rw [hf] at h34; rw [rich_some hf, if_pos ⟨h44, h34⟩]
            rw [e] at ih
            refine r_iload dX3_choosePayer_47 rfl ?_
            refine r_istore_n_3 dX3_choosePayer_49 rfl ?_
            refine r_iload dX3_choosePayer_50 rfl ?_
            refine r_istore_4 dX3_choosePayer_52 rfl ?_
            refine r_inc1_5 dX3_choosePayer_54 rfl ?_
            refine r_goto 9 dX3_choosePayer_57 rfl ?_
            exact ih _
  exact LOOP 0 (by omega) _
theorem sp_X7_chooseWeekday {a m : Nat} (hm : m < 128) (h0 : m ≠ 0) (K : Q (oI (whc false (nI m) 7)) σ) : Mi E mX7_chooseWeekday [.ref a, .int (nI m)] σ Q := by
  refine Mw_of (L0 := [some (.ref a), some (.int (nI m))]) pn_X7 rfl rfl (Nat.le_of_ble_eq_true rfl) ?_
  refine r_iload_n dX7_chooseWeekday_0 rfl ?_
  refine cS_i1 fJ6_numberOfTrailingZeros_0f7a4 lkX7_19 rfl dX7_chooseWeekday_1 (sp_J6_numberOfTrailingZeros_0f7a4 hm h0 ?_)
  refine r_ireturn rfl (by first | rfl | exact nar_bi _ | assumption) dX7_chooseWeekday_4 ⟨_, rfl, ?_⟩
  exact K
theorem sp_X6_chooseWeekday {a m : Nat} (hm : m < 128) (h0 : m ≠ 0) (K : Q (oI (whc true (nI m) 7)) σ) : Mi E mX6_chooseWeekday [.ref a, .int (nI m)] σ Q := by
  refine Mw_of (L0 := [some (.ref a), some (.int (nI m))]) pn_X6 rfl rfl (Nat.le_of_ble_eq_true rfl) ?_
  refine r_bipush (31) dX6_chooseWeekday_0 rfl ?_
  refine r_iload_n dX6_chooseWeekday_2 rfl ?_
  refine cS_i1 fJ6_numberOfLeadingZeros_0f7a4 lkX6_7 rfl dX6_chooseWeekday_3 (sp_J6_numberOfLeadingZeros_0f7a4 hm h0 ?_)
  refine r_isub dX6_chooseWeekday_6 ?_
  refine r_ireturn rfl (by first | rfl | exact nar_bi _ | assumption) dX6_chooseWeekday_7 ⟨_, rfl, ?_⟩
  exact qof K (by grind) rfl
end KINDS
