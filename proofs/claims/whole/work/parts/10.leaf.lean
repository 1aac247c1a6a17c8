/-! ===== leaves: statics, small readers ===== -/
section LEAF
variable {E : EnvT} {σ : Sg} {Q : Int32 → Sg → Prop}
/-- a bit of a set -/
def tb (x k : Int32) : Bool := !((x >>> (k &&& 31)) &&& 1 == 0)
theorem sp_X8_hasBit {x k : Int32} (K : Q (bi (tb x k)) σ) : Mi E mX8_hasBit [.int x, .int k] σ Q := by
  refine Mw_of (L0 := [some (.int x), some (.int k)]) pn_X8 rfl rfl (Nat.le_of_ble_eq_true rfl) ?_
  refine r_iload_n dX8_hasBit_0 rfl ?_
  refine r_iload_n dX8_hasBit_1 rfl ?_
  refine r_ishr dX8_hasBit_2 ?_
  refine r_iconst (1) dX8_hasBit_3 rfl ?_
  refine r_iand dX8_hasBit_4 ?_
  refine r_if_eq 12 dX8_hasBit_5 rfl (fun h5 => ?_) (fun h5 => ?_)
  · refine r_iconst (0) dX8_hasBit_12 rfl ?_
    refine r_ireturn rfl (by first | rfl | exact nar_bi _ | assumption) dX8_hasBit_13 ⟨_, rfl, ?_⟩
    exact qof K (by simp_all [tb, bi]) rfl
  · refine r_iconst (1) dX8_hasBit_8 rfl ?_
    refine r_goto 13 dX8_hasBit_9 rfl ?_
    refine r_ireturn rfl (by first | rfl | exact nar_bi _ | assumption) dX8_hasBit_13 ⟨_, rfl, ?_⟩
    exact qof K (by simp_all [tb, bi]) rfl
theorem sp_X8_isEither {x : Int32} (K : Q (bi (x == 0 || x == 1)) σ) : Mi E mX8_isEither [.int x] σ Q := by
  refine Mw_of (L0 := [some (.int x)]) pn_X8 rfl rfl (Nat.le_of_ble_eq_true rfl) ?_
  refine r_iload_n dX8_isEither_0 rfl ?_
  refine r_if_eq 9 dX8_isEither_1 rfl (fun h1 => ?_) (fun h1 => ?_)
  · refine r_iconst (1) dX8_isEither_9 rfl ?_
    refine r_goto 14 dX8_isEither_10 rfl ?_
    refine r_ireturn rfl (by first | rfl | exact nar_bi _ | assumption) dX8_isEither_14 ⟨_, rfl, ?_⟩
    exact qof K (by simp_all [bi]) rfl
  · refine r_iload_n dX8_isEither_4 rfl ?_
    refine r_iconst (1) dX8_isEither_5 rfl ?_
    refine r_icmp_ne 13 dX8_isEither_6 rfl (fun h6 => ?_) (fun h6 => ?_)
    · refine r_iconst (0) dX8_isEither_13 rfl ?_
      refine r_ireturn rfl (by first | rfl | exact nar_bi _ | assumption) dX8_isEither_14 ⟨_, rfl, ?_⟩
      exact qof K (by simp_all [bi]) rfl
    · refine r_iconst (1) dX8_isEither_9 rfl ?_
      refine r_goto 14 dX8_isEither_10 rfl ?_
      refine r_ireturn rfl (by first | rfl | exact nar_bi _ | assumption) dX8_isEither_14 ⟨_, rfl, ?_⟩
      exact qof K (by simp_all [bi]) rfl
theorem sp_X8_isWeekday {x : Int32} (K : Q (bi (decide (0 ≤ x ∧ x < 7))) σ) : Mi E mX8_isWeekday [.int x] σ Q := by
  refine Mw_of (L0 := [some (.int x)]) pn_X8 rfl rfl (Nat.le_of_ble_eq_true rfl) ?_
  refine r_iload_n dX8_isWeekday_0 rfl ?_
  refine r_if_lt 14 dX8_isWeekday_1 rfl (fun h1 => ?_) (fun h1 => ?_)
  · refine r_iconst (0) dX8_isWeekday_14 rfl ?_
    refine r_ireturn rfl (by first | rfl | exact nar_bi _ | assumption) dX8_isWeekday_15 ⟨_, rfl, ?_⟩
    exact qof K (by simp only [bi, decide_eq_true_eq]; first | exact (if_pos ⟨Int32.not_lt.mp h1, Int32.not_le.mp h7⟩).symm | exact (if_neg (fun q => absurd q.1 (Int32.not_le.mpr h1))).symm | exact (if_neg (fun q => absurd q.2 (Int32.not_lt.mpr h7))).symm) rfl
  · refine r_iload_n dX8_isWeekday_4 rfl ?_
    refine r_bipush (7) dX8_isWeekday_5 rfl ?_
    refine r_icmp_ge 14 dX8_isWeekday_7 rfl (fun h7 => ?_) (fun h7 => ?_)
    · refine r_iconst (0) dX8_isWeekday_14 rfl ?_
      refine r_ireturn rfl (by first | rfl | exact nar_bi _ | assumption) dX8_isWeekday_15 ⟨_, rfl, ?_⟩
      exact qof K (by simp only [bi, decide_eq_true_eq]; first | exact (if_pos ⟨Int32.not_lt.mp h1, Int32.not_le.mp h7⟩).symm | exact (if_neg (fun q => absurd q.1 (Int32.not_le.mpr h1))).symm | exact (if_neg (fun q => absurd q.2 (Int32.not_lt.mpr h7))).symm) rfl
    · refine r_iconst (1) dX8_isWeekday_10 rfl ?_
      refine r_goto 15 dX8_isWeekday_11 rfl ?_
      refine r_ireturn rfl (by first | rfl | exact nar_bi _ | assumption) dX8_isWeekday_15 ⟨_, rfl, ?_⟩
      exact qof K (by simp only [bi, decide_eq_true_eq]; first | exact (if_pos ⟨Int32.not_lt.mp h1, Int32.not_le.mp h7⟩).symm | exact (if_neg (fun q => absurd q.1 (Int32.not_le.mpr h1))).symm | exact (if_neg (fun q => absurd q.2 (Int32.not_lt.mpr h7))).symm) rfl
def outs (x lo hi : Int32) : Int32 := if x < lo then -4 else if hi < x then -6 else 0
theorem sp_X8_outside {x lo hi : Int32} (K : Q (outs x lo hi) σ) : Mi E mX8_outside [.int x, .int lo, .int hi] σ Q := by
  refine Mw_of (L0 := [some (.int x), some (.int lo), some (.int hi)]) pn_X8 rfl rfl (Nat.le_of_ble_eq_true rfl) ?_
  refine r_iload_n dX8_outside_0 rfl ?_
  refine r_iload_n dX8_outside_1 rfl ?_
  refine r_icmp_ge 8 dX8_outside_2 rfl (fun h2 => ?_) (fun h2 => ?_)
  · refine r_iload_n dX8_outside_8 rfl ?_
    refine r_iload_n dX8_outside_9 rfl ?_
    refine r_icmp_le 18 dX8_outside_10 rfl (fun h10 => ?_) (fun h10 => ?_)
    · refine r_iconst (0) dX8_outside_18 rfl ?_
      refine r_ireturn rfl (by first | rfl | exact nar_bi _ | assumption) dX8_outside_19 ⟨_, rfl, ?_⟩
      exact qof K (by unfold outs; first | exact (if_pos (Int32.not_le.mp h2)).symm | exact ((if_neg (Int32.not_lt.mpr h2)).trans (if_pos (Int32.not_le.mp h10))).symm | exact ((if_neg (Int32.not_lt.mpr h2)).trans (if_neg (Int32.not_lt.mpr h10))).symm) rfl
    · refine r_bipush (-6) dX8_outside_13 rfl ?_
      refine r_goto 19 dX8_outside_15 rfl ?_
      refine r_ireturn rfl (by first | rfl | exact nar_bi _ | assumption) dX8_outside_19 ⟨_, rfl, ?_⟩
      exact qof K (by unfold outs; first | exact (if_pos (Int32.not_le.mp h2)).symm | exact ((if_neg (Int32.not_lt.mpr h2)).trans (if_pos (Int32.not_le.mp h10))).symm | exact ((if_neg (Int32.not_lt.mpr h2)).trans (if_neg (Int32.not_lt.mpr h10))).symm) rfl
  · refine r_bipush (-4) dX8_outside_5 rfl ?_
    refine r_ireturn rfl (by first | rfl | exact nar_bi _ | assumption) dX8_outside_7 ⟨_, rfl, ?_⟩
    exact qof K (by unfold outs; first | exact (if_pos (Int32.not_le.mp h2)).symm | exact ((if_neg (Int32.not_lt.mpr h2)).trans (if_pos (Int32.not_le.mp h10))).symm | exact ((if_neg (Int32.not_lt.mpr h2)).trans (if_neg (Int32.not_lt.mpr h10))).symm) rfl
theorem sp_X1_isOff {i p : Nat} {k : Int32} (hi : i < 3) (hp : p < 6) (K : Q (bi (tb (σ i (5 + 5 * p)) k)) σ) : Mi E mX1_isOff [.ref (ad E 1 i), .int (nI p), .int k] σ Q := by
  refine Mw_of (L0 := [some (.ref (ad E 1 i)), some (.int (nI p)), some (.int k)]) pn_X1 rfl rfl (Nat.le_of_ble_eq_true rfl) ?_
  refine r_aload_n dX1_isOff_0 rfl ?_
  refine getX1_40 (by omega) rfl dX1_isOff_1 ?_
  refine r_iload_n dX1_isOff_4 rfl ?_
  refine ld_11 (by omega) (by omega) dX1_isOff_5 ?_
  refine r_iload_n dX1_isOff_6 rfl ?_
  refine cSN_i2 fX8_hasBit lkX1_69 rfl dX1_isOff_7 (sp_X8_hasBit  ?_)
  refine r_ireturn rfl (by first | rfl | exact nar_bi _ | assumption) dX1_isOff_10 ⟨_, rfl, ?_⟩
  exact K
end LEAF
