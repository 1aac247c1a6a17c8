/-! ===== the twin's statics ===== -/
section MODEL1
variable {E : EnvT} {σ : Sg} {Q : Int32 → Sg → Prop} {Qv : Sg → Prop}
theorem sp_X9_isIn {x lo hi : Int32} (K : Q (bi (decide (lo ≤ x ∧ x ≤ hi))) σ) : Mi E mX9_isIn [.int x, .int lo, .int hi] σ Q := by
  refine Mw_of (L0 := [some (.int x), some (.int lo), some (.int hi)]) pn_X9 rfl rfl (Nat.le_of_ble_eq_true rfl) ?_
  refine r_iload_n dX9_isIn_0 rfl ?_
  refine r_iload_n dX9_isIn_1 rfl ?_
  refine r_icmp_lt 14 dX9_isIn_2 rfl (fun h2 => ?_) (fun h2 => ?_)
  · refine r_iconst (0) dX9_isIn_14 rfl ?_
    refine r_ireturn rfl (by first | rfl | exact nar_bi _ | assumption) dX9_isIn_15 ⟨_, rfl, ?_⟩
    exact qof K (by simp only [bi, decide_eq_true_eq]; first | exact (if_pos ⟨Int32.not_lt.mp h2, Int32.not_lt.mp h7⟩).symm | exact (if_neg (fun q => absurd q.1 (Int32.not_le.mpr h2))).symm | exact (if_neg (fun q => absurd q.2 (Int32.not_le.mpr h7))).symm) rfl
  · refine r_iload_n dX9_isIn_5 rfl ?_
    refine r_iload_n dX9_isIn_6 rfl ?_
    refine r_icmp_gt 14 dX9_isIn_7 rfl (fun h7 => ?_) (fun h7 => ?_)
    · refine r_iconst (0) dX9_isIn_14 rfl ?_
      refine r_ireturn rfl (by first | rfl | exact nar_bi _ | assumption) dX9_isIn_15 ⟨_, rfl, ?_⟩
      exact qof K (by simp only [bi, decide_eq_true_eq]; first | exact (if_pos ⟨Int32.not_lt.mp h2, Int32.not_lt.mp h7⟩).symm | exact (if_neg (fun q => absurd q.1 (Int32.not_le.mpr h2))).symm | exact (if_neg (fun q => absurd q.2 (Int32.not_le.mpr h7))).symm) rfl
    · refine r_iconst (1) dX9_isIn_10 rfl ?_
      refine r_goto 15 dX9_isIn_11 rfl ?_
      refine r_ireturn rfl (by first | rfl | exact nar_bi _ | assumption) dX9_isIn_15 ⟨_, rfl, ?_⟩
      exact qof K (by simp only [bi, decide_eq_true_eq]; first | exact (if_pos ⟨Int32.not_lt.mp h2, Int32.not_lt.mp h7⟩).symm | exact (if_neg (fun q => absurd q.1 (Int32.not_le.mpr h2))).symm | exact (if_neg (fun q => absurd q.2 (Int32.not_le.mpr h7))).symm) rfl
theorem sp_X9_least {a b : Int32} (K : Q (least a b) σ) : Mi E mX9_least [.int a, .int b] σ Q := by
  refine Mw_of (L0 := [some (.int a), some (.int b)]) pn_X9 rfl rfl (Nat.le_of_ble_eq_true rfl) ?_
  refine r_iload_n dX9_least_0 rfl ?_
  refine r_iload_n dX9_least_1 rfl ?_
  refine r_icmp_ge 9 dX9_least_2 rfl (fun h2 => ?_) (fun h2 => ?_)
  · refine r_iload_n dX9_least_9 rfl ?_
    refine r_ireturn rfl (by first | rfl | exact nar_bi _ | assumption) dX9_least_10 ⟨_, rfl, ?_⟩
    exact qof K (by unfold least; first | exact (if_pos (Int32.not_le.mp h2)).symm | exact (if_neg (Int32.not_lt.mpr h2)).symm) rfl
  · refine r_iload_n dX9_least_5 rfl ?_
    refine r_goto 10 dX9_least_6 rfl ?_
    refine r_ireturn rfl (by first | rfl | exact nar_bi _ | assumption) dX9_least_10 ⟨_, rfl, ?_⟩
    exact qof K (by unfold least; first | exact (if_pos (Int32.not_le.mp h2)).symm | exact (if_neg (Int32.not_lt.mpr h2)).symm) rfl
theorem of_e (p w : Nat) : (3 : Int32) + 5 * nI p + nI w = nI (3 + w + 5 * p) := by
  rw [show (5 : Int32) = nI 5 from rfl, show (3 : Int32) = nI 3 from rfl, pk_mul, nI_add, nI_add]
  congr 1
  omega
theorem sp_X9_of {p w : Nat} (K : Q (nI (3 + w + 5 * p)) σ) : Mi E mX9_of [.int (nI p), .int (nI w)] σ Q := by
  refine Mw_of (L0 := [some (.int (nI p)), some (.int (nI w))]) pn_X9 rfl rfl (Nat.le_of_ble_eq_true rfl) ?_
  refine r_iconst (3) dX9_of_0 rfl ?_
  refine r_iconst (5) dX9_of_1 rfl ?_
  refine r_iload_n dX9_of_2 rfl ?_
  refine r_imul dX9_of_3 ?_
  refine r_iadd dX9_of_4 ?_
  refine r_iload_n dX9_of_5 rfl ?_
  refine r_iadd dX9_of_6 ?_
  refine r_ireturn rfl (by first | rfl | exact nar_bi _ | assumption) dX9_of_7 ⟨_, rfl, ?_⟩
  exact qof K (of_e p w) rfl
theorem sp_of0 {p : Nat} (K : Q (nI (3 + 5 * p)) σ) : Mi E mX9_of [.int (nI p), .int 0] σ Q := by
  refine Mw_of (L0 := [some (.int (nI p)), some (.int 0)]) pn_X9 rfl rfl (Nat.le_of_ble_eq_true rfl) ?_
  refine r_iconst (3) dX9_of_0 rfl ?_
  refine r_iconst (5) dX9_of_1 rfl ?_
  refine r_iload_n dX9_of_2 rfl ?_
  refine r_imul dX9_of_3 ?_
  refine r_iadd dX9_of_4 ?_
  refine r_iload_n dX9_of_5 rfl ?_
  refine r_iadd dX9_of_6 ?_
  refine r_ireturn rfl (by first | rfl | exact nar_bi _ | assumption) dX9_of_7 ⟨_, rfl, ?_⟩
  exact qof K (of_e p 0) rfl
theorem sp_of1 {p : Nat} (K : Q (nI (4 + 5 * p)) σ) : Mi E mX9_of [.int (nI p), .int 1] σ Q := by
  refine Mw_of (L0 := [some (.int (nI p)), some (.int 1)]) pn_X9 rfl rfl (Nat.le_of_ble_eq_true rfl) ?_
  refine r_iconst (3) dX9_of_0 rfl ?_
  refine r_iconst (5) dX9_of_1 rfl ?_
  refine r_iload_n dX9_of_2 rfl ?_
  refine r_imul dX9_of_3 ?_
  refine r_iadd dX9_of_4 ?_
  refine r_iload_n dX9_of_5 rfl ?_
  refine r_iadd dX9_of_6 ?_
  refine r_ireturn rfl (by first | rfl | exact nar_bi _ | assumption) dX9_of_7 ⟨_, rfl, ?_⟩
  exact qof K (of_e p 1) rfl
theorem sp_of2 {p : Nat} (K : Q (nI (5 + 5 * p)) σ) : Mi E mX9_of [.int (nI p), .int 2] σ Q := by
  refine Mw_of (L0 := [some (.int (nI p)), some (.int 2)]) pn_X9 rfl rfl (Nat.le_of_ble_eq_true rfl) ?_
  refine r_iconst (3) dX9_of_0 rfl ?_
  refine r_iconst (5) dX9_of_1 rfl ?_
  refine r_iload_n dX9_of_2 rfl ?_
  refine r_imul dX9_of_3 ?_
  refine r_iadd dX9_of_4 ?_
  refine r_iload_n dX9_of_5 rfl ?_
  refine r_iadd dX9_of_6 ?_
  refine r_ireturn rfl (by first | rfl | exact nar_bi _ | assumption) dX9_of_7 ⟨_, rfl, ?_⟩
  exact qof K (of_e p 2) rfl
theorem sp_of3 {p : Nat} (K : Q (nI (6 + 5 * p)) σ) : Mi E mX9_of [.int (nI p), .int 3] σ Q := by
  refine Mw_of (L0 := [some (.int (nI p)), some (.int 3)]) pn_X9 rfl rfl (Nat.le_of_ble_eq_true rfl) ?_
  refine r_iconst (3) dX9_of_0 rfl ?_
  refine r_iconst (5) dX9_of_1 rfl ?_
  refine r_iload_n dX9_of_2 rfl ?_
  refine r_imul dX9_of_3 ?_
  refine r_iadd dX9_of_4 ?_
  refine r_iload_n dX9_of_5 rfl ?_
  refine r_iadd dX9_of_6 ?_
  refine r_ireturn rfl (by first | rfl | exact nar_bi _ | assumption) dX9_of_7 ⟨_, rfl, ?_⟩
  exact qof K (of_e p 3) rfl
theorem sp_of4 {p : Nat} (K : Q (nI (7 + 5 * p)) σ) : Mi E mX9_of [.int (nI p), .int 4] σ Q := by
  refine Mw_of (L0 := [some (.int (nI p)), some (.int 4)]) pn_X9 rfl rfl (Nat.le_of_ble_eq_true rfl) ?_
  refine r_iconst (3) dX9_of_0 rfl ?_
  refine r_iconst (5) dX9_of_1 rfl ?_
  refine r_iload_n dX9_of_2 rfl ?_
  refine r_imul dX9_of_3 ?_
  refine r_iadd dX9_of_4 ?_
  refine r_iload_n dX9_of_5 rfl ?_
  refine r_iadd dX9_of_6 ?_
  refine r_ireturn rfl (by first | rfl | exact nar_bi _ | assumption) dX9_of_7 ⟨_, rfl, ?_⟩
  exact qof K (of_e p 4) rfl
theorem sp_X9_isWeekday {x : Int32} (K : Q (bi (decide (0 ≤ x ∧ x ≤ 6))) σ) : Mi E mX9_isWeekday [.int x] σ Q := by
  refine Mw_of (L0 := [some (.int x)]) pn_X9 rfl rfl (Nat.le_of_ble_eq_true rfl) ?_
  refine r_iload_n dX9_isWeekday_0 rfl ?_
  refine r_iconst (0) dX9_isWeekday_1 rfl ?_
  refine r_bipush (6) dX9_isWeekday_2 rfl ?_
  refine cS_i3 fX9_isIn lkX9_40 rfl dX9_isWeekday_4 (sp_X9_isIn  ?_)
  refine r_ireturn rfl (by first | rfl | exact nar_bi _ | assumption) dX9_isWeekday_7 ⟨_, rfl, ?_⟩
  exact K
theorem and1 (x : Int32) : x &&& 1 = 0 ∨ x &&& 1 = 1 := by
  obtain ⟨j, hj, e⟩ := pk_andE x (m := 1) 1 (by decide)
  rw [e]
  have : j = 0 ∨ j = 1 := by omega
  rcases this with rfl | rfl
  · exact Or.inl rfl
  · exact Or.inr rfl
theorem tb_one (x k : Int32) : tb x k = decide ((x >>> (k &&& 31)) &&& 1 = 1) := by
  unfold tb
  rcases and1 (x >>> (k &&& 31)) with h | h <;> rw [h] <;> rfl
theorem sp_X9_has {x k : Int32} (K : Q (bi (tb x k)) σ) : Mi E mX9_has [.int x, .int k] σ Q := by
  refine Mw_of (L0 := [some (.int x), some (.int k)]) pn_X9 rfl rfl (Nat.le_of_ble_eq_true rfl) ?_
  refine r_iload_n dX9_has_0 rfl ?_
  refine r_iload_n dX9_has_1 rfl ?_
  refine r_ishr dX9_has_2 ?_
  refine r_iconst (1) dX9_has_3 rfl ?_
  refine r_iand dX9_has_4 ?_
  refine r_iconst (1) dX9_has_5 rfl ?_
  refine r_icmp_ne 13 dX9_has_6 rfl (fun h6 => ?_) (fun h6 => ?_)
  · refine r_iconst (0) dX9_has_13 rfl ?_
    refine r_ireturn rfl (by first | rfl | exact nar_bi _ | assumption) dX9_has_14 ⟨_, rfl, ?_⟩
    exact qof K (by rw [tb_one]; simp only [bi, decide_eq_true_eq]; first | exact (if_pos h6).symm | exact (if_neg h6).symm) rfl
  · refine r_iconst (1) dX9_has_9 rfl ?_
    refine r_goto 14 dX9_has_10 rfl ?_
    refine r_ireturn rfl (by first | rfl | exact nar_bi _ | assumption) dX9_has_14 ⟨_, rfl, ?_⟩
    exact qof K (by rw [tb_one]; simp only [bi, decide_eq_true_eq]; first | exact (if_pos h6).symm | exact (if_neg h6).symm) rfl
theorem sp_X9_bits {x : Int32} (K : Q (bsum x 7) σ) : Mi E mX9_bits [.int x] σ Q := by
  refine Mw_of (L0 := [some (.int x), none, none]) pn_X9 rfl rfl (Nat.le_of_ble_eq_true rfl) ?_
  refine r_iconst (0) dX9_bits_0 rfl ?_
  refine r_istore_n_1 dX9_bits_1 rfl ?_
  refine r_iconst (0) dX9_bits_2 rfl ?_
  refine r_istore_n_2 dX9_bits_3 rfl ?_
  have LOOP : ∀ k, k ≤ 7 → GW E (ZM E 0 fun v σ' => ∃ r, v = some (.int r) ∧ Q r σ') mX9_bits 4 [some (.int x), some (.int (bsum x k)), some (.int (nI k))] [] σ := by
    refine down ?_ ?_
    · refine r_iload_n dX9_bits_4 rfl ?_
      refine r_bipush (7) dX9_bits_5 rfl ?_
      refine r_icmp_ge_N (b := 7) 24 dX9_bits_7 rfl (by omega) (by omega) (fun h7 => ?_) (fun h7 => ?_)
      · refine r_iload_n dX9_bits_24 rfl ?_
        refine r_ireturn rfl (by first | rfl | exact nar_bi _ | assumption) dX9_bits_25 ⟨_, rfl, ?_⟩
        exact K
      · exfalso; omega
    · intro k hk ih
      refine r_iload_n dX9_bits_4 rfl ?_
      refine r_bipush (7) dX9_bits_5 rfl ?_
      refine r_icmp_ge_N (b := 7) 24 dX9_bits_7 rfl (by omega) (by omega) (fun h7 => ?_) (fun h7 => ?_)
      · exfalso; omega
      · refine r_iload_n dX9_bits_10 rfl ?_
        refine r_iload_n dX9_bits_11 rfl ?_
        refine r_iload_n dX9_bits_12 rfl ?_
        refine r_ishr dX9_bits_13 ?_
        refine r_iconst (1) dX9_bits_14 rfl ?_
        refine r_iand dX9_bits_15 ?_
        refine r_iadd dX9_bits_16 ?_
        refine r_istore_n_1 dX9_bits_17 rfl ?_
        refine r_inc1_2 dX9_bits_18 rfl ?_
        refine r_goto 4 dX9_bits_21 rfl ?_
        exact ih
  exact LOOP 0 (by omega)
theorem sp_X9_copies {a b : Nat} (ha : 2 < a ∧ a < 7) (hb : 2 < b ∧ b < 7) (hab : a ≠ b) (K : Qv (va_up σ b (σ a))) : Mv E mX9_copies [.ref (ad E 19 a), .ref (ad E 19 b)] σ Qv := by
  refine Mw_of (L0 := [some (.ref (ad E 19 a)), some (.ref (ad E 19 b)), none]) pn_X9 rfl rfl (Nat.le_of_ble_eq_true rfl) ?_
  refine r_iconst (0) dX9_copies_0 rfl ?_
  refine r_istore_n_2 dX9_copies_1 rfl ?_
  have LOOP : ∀ k, k ≤ 33 → GW E (ZM E 0 fun v σ' => v = none ∧ Qv σ') mX9_copies 2 [some (.ref (ad E 19 a)), some (.ref (ad E 19 b)), some (.int (nI k))] [] (va_up σ b (fun j => if j < k then σ a j else σ b j)) := by
    refine down ?_ ?_
    · refine r_iload_n dX9_copies_2 rfl ?_
      refine r_bipush (33) dX9_copies_3 rfl ?_
      refine r_icmp_ge_N (b := 33) 20 dX9_copies_5 rfl (by omega) (by omega) (fun h5 => ?_) (fun h5 => ?_)
      · refine r_eqv (va_up σ b (σ a)) (fun x j hj => ?_) ?_
        · by_cases hx : x = b
          · rw [hx] at hj ⊢
            rw [up_at, up_at, if_pos]
            have : b = 3 ∨ b = 4 ∨ b = 5 ∨ b = 6 := by omega
            rcases this with rfl | rfl | rfl | rfl <;> exact hj
          · rw [up_ne hx, up_ne hx]
        · refine r_return rfl dX9_copies_20 ⟨rfl, ?_⟩
          exact K
      · exfalso; omega
    · intro k hk ih
      refine r_iload_n dX9_copies_2 rfl ?_
      refine r_bipush (33) dX9_copies_3 rfl ?_
      refine r_icmp_ge_N (b := 33) 20 dX9_copies_5 rfl (by omega) (by omega) (fun h5 => ?_) (fun h5 => ?_)
      · exfalso; omega
      · refine r_aload_n dX9_copies_8 rfl ?_
        refine r_iload_n dX9_copies_9 rfl ?_
        refine r_aload_n dX9_copies_10 rfl ?_
        refine r_iload_n dX9_copies_11 rfl ?_
        refine ld_19  (by omega) (by omega) dX9_copies_12 ?_
        refine st_19  (by omega) (by omega) dX9_copies_13 ?_
        refine r_inc1_2 dX9_copies_14 rfl ?_
        refine r_goto 2 dX9_copies_17 rfl ?_
        rw [s2_up, up_ne (by omega)]
        refine cast ?_ ih
        congr 2
        funext j
        unfold upd
        by_cases hj : j = k
        · subst hj
          rw [if_pos rfl, if_pos (by omega)]
        · rw [if_neg hj]
          dsimp only
          by_cases h2 : j < k
          · rw [if_pos h2, if_pos (by omega)]
          · rw [if_neg h2, if_neg (by omega)]
  refine cast ?_ (LOOP 0 (by omega))
  congr 1
  simp only [Nat.not_lt_zero, if_false]
  exact up_same
end MODEL1
