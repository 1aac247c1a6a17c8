/-! ===== the crew: copies, readers, hands ===== -/
section CREW1
variable {E : EnvT} {σ : Sg} {Q : Int32 → Sg → Prop} {Qv : Sg → Prop} {Qr : Nat → Sg → Prop}
theorem cpk_o {w : Nat} {o i x : Nat} (h : x ≠ i) : cpk w σ o i x = σ x := up_ne h
theorem bec_row {o i x : Nat} (hoi : o ≠ i) (h3 : 3 ≤ x) (h33 : x < 33) : cpk 7 (cpk 6 (cpk 5 (cpk 4 (cpk 3 σ o i) o i) o i) o i) o i i x = σ o x := by
  rcases (by omega : x % 5 = 3 ∨ x % 5 = 4 ∨ x % 5 = 0 ∨ x % 5 = 1 ∨ x % 5 = 2) with h | h | h | h | h <;> simp [cpk, up_at, up_ne hoi, h, h3, h33]
theorem sp_X1_become {i o : Nat} (hi : i < 3) (ho : o < 3) (hoi : o ≠ i) (K : Qv (va_up σ i (σ o))) : Mv E mX1_become [.ref (ad E 1 i), .ref (ad E 1 o)] σ Qv := by
  refine Mw_of (L0 := [some (.ref (ad E 1 i)), some (.ref (ad E 1 o))]) pn_X1 rfl rfl (Nat.le_of_ble_eq_true rfl) ?_
  refine r_aload_n dX1_become_0 rfl ?_
  refine getX1_33 (by omega) rfl dX1_become_1 ?_
  refine r_iconst (0) dX1_become_4 rfl ?_
  refine r_aload_n dX1_become_5 rfl ?_
  refine getX1_33 (by omega) rfl dX1_become_6 ?_
  refine r_iconst (0) dX1_become_9 rfl ?_
  refine r_bipush (6) dX1_become_10 rfl ?_
  refine acp_9 (by omega) (by omega) rfl rfl dX1_become_12 ?_
  refine r_aload_n dX1_become_15 rfl ?_
  refine getX1_37 (by omega) rfl dX1_become_16 ?_
  refine r_iconst (0) dX1_become_19 rfl ?_
  refine r_aload_n dX1_become_20 rfl ?_
  refine getX1_37 (by omega) rfl dX1_become_21 ?_
  refine r_iconst (0) dX1_become_24 rfl ?_
  refine r_bipush (6) dX1_become_25 rfl ?_
  refine acp_10 (by omega) (by omega) rfl rfl dX1_become_27 ?_
  refine r_aload_n dX1_become_30 rfl ?_
  refine getX1_40 (by omega) rfl dX1_become_31 ?_
  refine r_iconst (0) dX1_become_34 rfl ?_
  refine r_aload_n dX1_become_35 rfl ?_
  refine getX1_40 (by omega) rfl dX1_become_36 ?_
  refine r_iconst (0) dX1_become_39 rfl ?_
  refine r_bipush (6) dX1_become_40 rfl ?_
  refine acp_11 (by omega) (by omega) rfl rfl dX1_become_42 ?_
  refine r_aload_n dX1_become_45 rfl ?_
  refine getX1_43 (by omega) rfl dX1_become_46 ?_
  refine r_iconst (0) dX1_become_49 rfl ?_
  refine r_aload_n dX1_become_50 rfl ?_
  refine getX1_43 (by omega) rfl dX1_become_51 ?_
  refine r_iconst (0) dX1_become_54 rfl ?_
  refine r_bipush (6) dX1_become_55 rfl ?_
  refine acp_12 (by omega) (by omega) rfl rfl dX1_become_57 ?_
  refine r_aload_n dX1_become_60 rfl ?_
  refine getX1_46 (by omega) rfl dX1_become_61 ?_
  refine r_iconst (0) dX1_become_64 rfl ?_
  refine r_aload_n dX1_become_65 rfl ?_
  refine getX1_46 (by omega) rfl dX1_become_66 ?_
  refine r_iconst (0) dX1_become_69 rfl ?_
  refine r_bipush (6) dX1_become_70 rfl ?_
  refine acp_13 (by omega) (by omega) rfl rfl dX1_become_72 ?_
  refine r_aload_n dX1_become_75 rfl ?_
  refine r_aload_n dX1_become_76 rfl ?_
  refine getX1_49 (by omega) rfl dX1_become_77 ?_
  refine putX1_49 (by omega) rfl dX1_become_80 ?_
  refine r_aload_n dX1_become_83 rfl ?_
  refine r_aload_n dX1_become_84 rfl ?_
  refine getX1_53 (by omega) rfl dX1_become_85 ?_
  refine putX1_53 (by omega) rfl dX1_become_88 ?_
  refine r_aload_n dX1_become_91 rfl ?_
  refine r_aload_n dX1_become_92 rfl ?_
  refine getX1_56 (by omega) rfl dX1_become_93 ?_
  refine putX1_56 (by omega) rfl dX1_become_96 ?_
  refine r_eqv (va_up σ i (σ o)) (fun a j hj => ?_) ?_
  · by_cases ha : a = i
    · rw [ha] at hj ⊢
      have hj : j < 33 := by
        have : i = 0 ∨ i = 1 ∨ i = 2 := by omega
        rcases this with h | h | h <;> rw [h] at hj <;> exact hj
      rw [up_at]
      unfold s2
      rw [up_at]
      unfold upd
      by_cases h1 : j = 1
      · rw [if_pos h1, up_ne hoi, up_ne hoi, cpk_o hoi, cpk_o hoi, cpk_o hoi, cpk_o hoi, cpk_o hoi, h1]
      · rw [if_neg h1, up_at]
        by_cases h2 : j = 2
        · rw [if_pos h2, up_ne hoi, cpk_o hoi, cpk_o hoi, cpk_o hoi, cpk_o hoi, cpk_o hoi, h2]
        · rw [if_neg h2, up_at]
          by_cases h0 : j = 0
          · rw [if_pos h0, cpk_o hoi, cpk_o hoi, cpk_o hoi, cpk_o hoi, cpk_o hoi, h0]
          · rw [if_neg h0]
            exact bec_row hoi (by omega) hj
    · unfold s2
      rw [up_ne ha, up_ne ha, up_ne ha, up_ne ha, cpk_o ha, cpk_o ha, cpk_o ha, cpk_o ha, cpk_o ha]
  · refine r_return rfl dX1_become_99 ⟨rfl, ?_⟩
    exact K
/-- one of the workers -/
def hasW (p : Int32) (n : Nat) : Bool := decide (0 ≤ p ∧ p < nI n)
theorem hasW_ex {p : Int32} {n : Nat} (h : hasW p n = true) (hn : n ≤ 6) : ∃ q, q < n ∧ p = nI q := by
  unfold hasW at h
  have h := of_decide_eq_true h
  obtain ⟨j, hj, rfl⟩ := nI_of (Int32.not_lt.mpr h.1)
  exact ⟨j, (nI_ltI hj (by omega)).mp h.2, rfl⟩
theorem hasW_N {q n : Nat} (hq : q < n) (hn : n ≤ 6) : hasW (nI q) n = true := by
  unfold hasW
  exact decide_eq_true ⟨nI_pos' (by omega), (nI_ltI (by omega) (by omega)).mpr hq⟩
theorem sp_X1_has {i n : Nat} {p : Int32} (hi : i < 3) (hn : σ i 0 = nI n) (K : Q (bi (hasW p n)) σ) : Mi E mX1_has [.ref (ad E 1 i), .int p] σ Q := by
  refine Mw_of (L0 := [some (.ref (ad E 1 i)), some (.int p)]) pn_X1 rfl rfl (Nat.le_of_ble_eq_true rfl) ?_
  refine r_iload_n dX1_has_0 rfl ?_
  refine r_if_lt 16 dX1_has_1 rfl (fun h1 => ?_) (fun h1 => ?_)
  · refine r_iconst (0) dX1_has_16 rfl ?_
    refine r_ireturn rfl (by first | rfl | exact nar_bi _ | assumption) dX1_has_17 ⟨_, rfl, ?_⟩
    exact qof K (by simp only [bi, hasW, decide_eq_true_eq]; first | exact (if_pos ⟨Int32.not_lt.mp h1, Int32.not_le.mp h9⟩).symm | exact (if_neg (fun q => absurd q.1 (Int32.not_le.mpr h1))).symm | exact (if_neg (fun q => absurd q.2 (Int32.not_lt.mpr h9))).symm) rfl
  · refine r_iload_n dX1_has_4 rfl ?_
    refine r_aload_n dX1_has_5 rfl ?_
    refine getX1_49 (by omega) rfl dX1_has_6 ?_
    rw [hn]
    refine r_icmp_ge 16 dX1_has_9 rfl (fun h9 => ?_) (fun h9 => ?_)
    · refine r_iconst (0) dX1_has_16 rfl ?_
      refine r_ireturn rfl (by first | rfl | exact nar_bi _ | assumption) dX1_has_17 ⟨_, rfl, ?_⟩
      exact qof K (by simp only [bi, hasW, decide_eq_true_eq]; first | exact (if_pos ⟨Int32.not_lt.mp h1, Int32.not_le.mp h9⟩).symm | exact (if_neg (fun q => absurd q.1 (Int32.not_le.mpr h1))).symm | exact (if_neg (fun q => absurd q.2 (Int32.not_lt.mpr h9))).symm) rfl
    · refine r_iconst (1) dX1_has_12 rfl ?_
      refine r_goto 17 dX1_has_13 rfl ?_
      refine r_ireturn rfl (by first | rfl | exact nar_bi _ | assumption) dX1_has_17 ⟨_, rfl, ?_⟩
      exact qof K (by simp only [bi, hasW, decide_eq_true_eq]; first | exact (if_pos ⟨Int32.not_lt.mp h1, Int32.not_le.mp h9⟩).symm | exact (if_neg (fun q => absurd q.1 (Int32.not_le.mpr h1))).symm | exact (if_neg (fun q => absurd q.2 (Int32.not_lt.mpr h9))).symm) rfl
theorem sp_X1_weekday {i : Nat} (hi : i < 3) (K : Q (irm (σ i 1) 7) σ) : Mi E mX1_weekday [.ref (ad E 1 i)] σ Q := by
  refine Mw_of (L0 := [some (.ref (ad E 1 i))]) pn_X1 rfl rfl (Nat.le_of_ble_eq_true rfl) ?_
  refine r_aload_n dX1_weekday_0 rfl ?_
  refine getX1_56 (by omega) rfl dX1_weekday_1 ?_
  refine r_bipush (7) dX1_weekday_4 rfl ?_
  refine r_irem dX1_weekday_6 (by decide) ?_
  refine r_ireturn rfl (by first | rfl | exact nar_bi _ | assumption) dX1_weekday_7 ⟨_, rfl, ?_⟩
  exact K
theorem sp_X1_change {i p : Nat} {w : Int32} (hi : i < 3) (hp : p < 6) (K : Qv (va_up σ i (upd (σ i) (5 + 5 * p) (σ i (5 + 5 * p) ^^^ (1 <<< (w &&& 31)))))) : Mv E mX1_change [.ref (ad E 1 i), .int (nI p), .int w] σ Qv := by
  refine Mw_of (L0 := [some (.ref (ad E 1 i)), some (.int (nI p)), some (.int w)]) pn_X1 rfl rfl (Nat.le_of_ble_eq_true rfl) ?_
  refine r_aload_n dX1_change_0 rfl ?_
  refine getX1_40 (by omega) rfl dX1_change_1 ?_
  refine r_iload_n dX1_change_4 rfl ?_
  refine r_dup2 dX1_change_5 rfl rfl ?_
  refine ld_11  (by omega) (by omega) dX1_change_6 ?_
  refine r_iconst (1) dX1_change_7 rfl ?_
  refine r_iload_n dX1_change_8 rfl ?_
  refine r_ishl dX1_change_9 ?_
  refine r_ixor dX1_change_10 ?_
  refine st_11  (by omega) (by omega) dX1_change_11 ?_
  refine r_return rfl dX1_change_12 ⟨rfl, ?_⟩
  exact K
theorem sp_X1_canHand {i g t : Nat} {w : Int32} (hi : i < 3) (hg : g < 6) (ht : t < 6) (K : Q (bi (tb (σ i (5 + 5 * g)) w && !tb (σ i (5 + 5 * t)) w)) σ) : Mi E mX1_canHand [.ref (ad E 1 i), .int (nI g), .int (nI t), .int w] σ Q := by
  refine Mw_of (L0 := [some (.ref (ad E 1 i)), some (.int (nI g)), some (.int (nI t)), some (.int w)]) pn_X1 rfl rfl (Nat.le_of_ble_eq_true rfl) ?_
  refine r_aload_n dX1_canHand_0 rfl ?_
  refine r_iload_n dX1_canHand_1 rfl ?_
  refine r_iload_n dX1_canHand_2 rfl ?_
  refine cV_i2 fX1_isOff (rcv_1 (by omega)) lkX1_73 rfl dX1_canHand_3 (sp_X1_isOff hi hg ?_)
  refine r_if_eq 22 dX1_canHand_6 rfl (fun h6 => ?_) (fun h6 => ?_)
  · refine r_iconst (0) dX1_canHand_22 rfl ?_
    refine r_ireturn rfl (by first | rfl | exact nar_bi _ | assumption) dX1_canHand_23 ⟨_, rfl, ?_⟩
    exact qof K (by first | (rw [(bi_eq0 _).mp h6]; rfl) | (rw [tb_of h6, tb_of h15]; rfl) | (rw [tb_of h6, (bi_eq0 _).mp h15]; rfl)) rfl
  · refine r_aload_n dX1_canHand_9 rfl ?_
    refine r_iload_n dX1_canHand_10 rfl ?_
    refine r_iload_n dX1_canHand_11 rfl ?_
    refine cV_i2 fX1_isOff (rcv_1 (by omega)) lkX1_73 rfl dX1_canHand_12 (sp_X1_isOff hi ht ?_)
    refine r_if_ne 22 dX1_canHand_15 rfl (fun h15 => ?_) (fun h15 => ?_)
    · refine r_iconst (0) dX1_canHand_22 rfl ?_
      refine r_ireturn rfl (by first | rfl | exact nar_bi _ | assumption) dX1_canHand_23 ⟨_, rfl, ?_⟩
      exact qof K (by first | (rw [(bi_eq0 _).mp h6]; rfl) | (rw [tb_of h6, tb_of h15]; rfl) | (rw [tb_of h6, (bi_eq0 _).mp h15]; rfl)) rfl
    · refine r_iconst (1) dX1_canHand_18 rfl ?_
      refine r_goto 23 dX1_canHand_19 rfl ?_
      refine r_ireturn rfl (by first | rfl | exact nar_bi _ | assumption) dX1_canHand_23 ⟨_, rfl, ?_⟩
      exact qof K (by first | (rw [(bi_eq0 _).mp h6]; rfl) | (rw [tb_of h6, tb_of h15]; rfl) | (rw [tb_of h6, (bi_eq0 _).mp h15]; rfl)) rfl
def hndR (r : Row) (g t : Nat) (w : Int32) : Row :=
  let r1 := upd r (5 + 5 * g) (r (5 + 5 * g) ^^^ (1 <<< (w &&& 31)))
  upd r1 (5 + 5 * t) (r1 (5 + 5 * t) ^^^ (1 <<< (w &&& 31)))
theorem sp_X1_hand {i g t : Nat} {w : Int32} (hi : i < 3) (hg : g < 6) (ht : t < 6) (K : Qv (va_up σ i (hndR (σ i) g t w))) : Mv E mX1_hand [.ref (ad E 1 i), .int (nI g), .int (nI t), .int w] σ Qv := by
  refine Mw_of (L0 := [some (.ref (ad E 1 i)), some (.int (nI g)), some (.int (nI t)), some (.int w)]) pn_X1 rfl rfl (Nat.le_of_ble_eq_true rfl) ?_
  refine r_aload_n dX1_hand_0 rfl ?_
  refine r_iload_n dX1_hand_1 rfl ?_
  refine r_iload_n dX1_hand_2 rfl ?_
  refine cV_v2 fX1_change (rcv_1 (by omega)) lkX1_76 rfl dX1_hand_3 (sp_X1_change hi hg ?_)
  refine r_aload_n dX1_hand_6 rfl ?_
  refine r_iload_n dX1_hand_7 rfl ?_
  refine r_iload_n dX1_hand_8 rfl ?_
  refine cV_v2 fX1_change (rcv_1 (by omega)) lkX1_76 rfl dX1_hand_9 (sp_X1_change hi ht ?_)
  refine r_return rfl dX1_hand_12 ⟨rfl, ?_⟩
  exact qofv K (by simp only [up_at, up_up, hndR])
def addO (r : Row) (ws wd : Int32) : Nat → Row
  | 0 => r
  | p + 1 => if tb ws (nI p) then upd (addO r ws wd p) (5 + 5 * p) (addO r ws wd p (5 + 5 * p) ||| wd) else addO r ws wd p
theorem addO_0 {r : Row} {ws wd : Int32} : ∀ k, addO r ws wd k 0 = r 0
  | 0 => rfl
  | k + 1 => by
    unfold addO
    split
    · unfold upd
      rw [if_neg (by omega), addO_0 k]
    · exact addO_0 k
theorem sp_X1_addOff {i n : Nat} {ws wd : Int32} (hi : i < 3) (hn : σ i 0 = nI n) (hn6 : n ≤ 6) (K : Qv (va_up σ i (addO (σ i) ws wd n))) : Mv E mX1_addOff [.ref (ad E 1 i), .int ws, .int wd] σ Qv := by
  refine Mw_of (L0 := [some (.ref (ad E 1 i)), some (.int ws), some (.int wd), none]) pn_X1 rfl rfl (Nat.le_of_ble_eq_true rfl) ?_
  refine r_iconst (0) dX1_addOff_0 rfl ?_
  refine r_istore_n_3 dX1_addOff_1 rfl ?_
  have LOOP : ∀ k, k ≤ n → GW E (ZM E 1 fun v σ' => v = none ∧ Qv σ') mX1_addOff 2 [some (.ref (ad E 1 i)), some (.int ws), some (.int wd), some (.int (nI k))] [] (va_up σ i (addO (σ i) ws wd k)) := by
    refine down ?_ ?_
    · refine r_iload_n dX1_addOff_2 rfl ?_
      refine r_aload_n dX1_addOff_3 rfl ?_
      refine getX1_49 (by omega) rfl dX1_addOff_4 ?_
      rw [up_at, addO_0, hn]
      refine r_icmp_ge_N 34 dX1_addOff_7 rfl (by omega) (by omega) (fun h7 => ?_) (fun h7 => ?_)
      · refine r_return rfl dX1_addOff_34 ⟨rfl, ?_⟩
        exact K
      · exfalso; omega
    · intro k hk ih
      rw [addO] at ih
      refine r_iload_n dX1_addOff_2 rfl ?_
      refine r_aload_n dX1_addOff_3 rfl ?_
      refine getX1_49 (by omega) rfl dX1_addOff_4 ?_
      rw [up_at, addO_0, hn]
      refine r_icmp_ge_N 34 dX1_addOff_7 rfl (by omega) (by omega) (fun h7 => ?_) (fun h7 => ?_)
      · exfalso; omega
      · refine r_iload_n dX1_addOff_10 rfl ?_
        refine r_iload_n dX1_addOff_11 rfl ?_
        refine cSN_i2 fX8_hasBit lkX1_69 rfl dX1_addOff_12 (sp_X8_hasBit  ?_)
        refine r_if_eq 28 dX1_addOff_15 rfl (fun h15 => ?_) (fun h15 => ?_)
        · rw [(bi_eq0 _).mp h15] at ih
          simp only [Bool.false_eq_true, if_false] at ih
          refine r_inc1_3 dX1_addOff_28 rfl ?_
          refine r_goto 2 dX1_addOff_31 rfl ?_
          exact ih
        · rw [tb_of h15] at ih
          simp only [if_true] at ih
          refine r_aload_n dX1_addOff_18 rfl ?_
          refine getX1_40 (by omega) rfl dX1_addOff_19 ?_
          refine r_iload_n dX1_addOff_22 rfl ?_
          refine r_dup2 dX1_addOff_23 rfl rfl ?_
          refine ld_11  (by omega) (by omega) dX1_addOff_24 ?_
          refine r_iload_n dX1_addOff_25 rfl ?_
          refine r_ior dX1_addOff_26 ?_
          refine st_11  (by omega) (by omega) dX1_addOff_27 ?_
          refine r_inc1_3 dX1_addOff_28 rfl ?_
          refine r_goto 2 dX1_addOff_31 rfl ?_
          rw [s2_up, up_at]
          exact ih
  refine r_sub ?_ (LOOP 0 (by omega))
  exact up_same.symm
theorem and_xn (x : Int32) : x &&& (x ^^^ (-1)) = 0 := by
  apply Int32.toBitVec_inj.mp
  apply BitVec.eq_of_getLsbD_eq
  intro i hi
  rw [Int32.toBitVec_and, Int32.toBitVec_xor, BitVec.getLsbD_and, BitVec.getLsbD_xor, show (-1 : Int32).toBitVec = BitVec.allOnes 32 from rfl, BitVec.getLsbD_allOnes]
  cases x.toBitVec.getLsbD i <;> simp [hi]
theorem offd_e (r : Row) (p o : Nat) : r (5 + 5 * o) &&& (r (5 + 5 * p) ^^^ (-1)) = wnt r p o := by
  unfold wnt
  by_cases h : p = o
  · rw [if_pos h, h]; exact and_xn _
  · rw [if_neg h]
theorem sp_X1_offered {i o p : Nat} (hi : i < 3) (ho : o < 6) (hp : p < 6) (K : Q (wnt (σ i) p o) σ) : Mi E mX1_offered [.ref (ad E 1 i), .int (nI o), .int (nI p)] σ Q := by
  refine Mw_of (L0 := [some (.ref (ad E 1 i)), some (.int (nI o)), some (.int (nI p))]) pn_X1 rfl rfl (Nat.le_of_ble_eq_true rfl) ?_
  refine r_aload_n dX1_offered_0 rfl ?_
  refine getX1_40 (by omega) rfl dX1_offered_1 ?_
  refine r_iload_n dX1_offered_4 rfl ?_
  refine ld_11  (by omega) (by omega) dX1_offered_5 ?_
  refine r_aload_n dX1_offered_6 rfl ?_
  refine getX1_40 (by omega) rfl dX1_offered_7 ?_
  refine r_iload_n dX1_offered_10 rfl ?_
  refine ld_11  (by omega) (by omega) dX1_offered_11 ?_
  refine r_iconst (-1) dX1_offered_12 rfl ?_
  refine r_ixor dX1_offered_13 ?_
  refine r_iand dX1_offered_14 ?_
  refine r_ireturn rfl (by first | rfl | exact nar_bi _ | assumption) dX1_offered_15 ⟨_, rfl, ?_⟩
  exact qof K (offd_e (σ i) p o) rfl
theorem sp_X1_ruleOf {i p q : Nat} (hi : i < 3) (hp : p < 6) (hq : q < 6) (hk : σ i (3 + 5 * p) = nI q) (K : Qr (ad E (3 + q) i) σ) : Mr E mX1_ruleOf [.ref (ad E 1 i), .int (nI p)] σ Qr := by
  refine Mw_of (L0 := [some (.ref (ad E 1 i)), some (.int (nI p))]) pn_X1 rfl rfl (Nat.le_of_ble_eq_true rfl) ?_
  refine r_aload_n dX1_ruleOf_0 rfl ?_
  refine getX1_27 (by omega) rfl dX1_ruleOf_1 ?_
  refine r_aload_n dX1_ruleOf_4 rfl ?_
  refine getX1_33 (by omega) rfl dX1_ruleOf_5 ?_
  refine r_iload_n dX1_ruleOf_8 rfl ?_
  refine ld_9  (by omega) (by omega) dX1_ruleOf_9 ?_
  rw [hk]
  refine r_aald (pl_c 2 (by decide) (by decide) i hi) rfl (vp_in_nI hq (by decide)) (a := ad E (3 + q) i) (by rw [nI_clamp (by omega)]) dX1_ruleOf_10 ?_
  refine r_areturn rfl dX1_ruleOf_11 ⟨_, rfl, ?_⟩
  exact K
theorem sp_X1_whoIsIn {i n : Nat} {d : Int32} (hi : i < 3) (hn : σ i 0 = nI n) (hn6 : n ≤ 6) (K : Q (inO (σ i) d n) σ) : Mi E mX1_whoIsIn [.ref (ad E 1 i), .int d] σ Q := by
  refine Mw_of (L0 := [some (.ref (ad E 1 i)), some (.int d), none, none]) pn_X1 rfl rfl (Nat.le_of_ble_eq_true rfl) ?_
  refine r_iconst (0) dX1_whoIsIn_0 rfl ?_
  refine r_istore_n_2 dX1_whoIsIn_1 rfl ?_
  refine r_iconst (0) dX1_whoIsIn_2 rfl ?_
  refine r_istore_n_3 dX1_whoIsIn_3 rfl ?_
  have LOOP : ∀ k, k ≤ n → GW E (ZM E 2 fun v σ' => ∃ r, v = some (.int r) ∧ Q r σ') mX1_whoIsIn 4 [some (.ref (ad E 1 i)), some (.int d), some (.int (inO (σ i) d k)), some (.int (nI k))] [] σ := by
    refine down ?_ ?_
    · refine r_iload_n dX1_whoIsIn_4 rfl ?_
      refine r_aload_n dX1_whoIsIn_5 rfl ?_
      refine getX1_49 (by omega) rfl dX1_whoIsIn_6 ?_
      rw [hn]
      refine r_icmp_ge_N 33 dX1_whoIsIn_9 rfl (by omega) (by omega) (fun h9 => ?_) (fun h9 => ?_)
      · refine r_iload_n dX1_whoIsIn_33 rfl ?_
        refine r_ireturn rfl (by first | rfl | exact nar_bi _ | assumption) dX1_whoIsIn_34 ⟨_, rfl, ?_⟩
        exact K
      · exfalso; omega
    · intro k hk ih
      rw [inO] at ih
      refine r_iload_n dX1_whoIsIn_4 rfl ?_
      refine r_aload_n dX1_whoIsIn_5 rfl ?_
      refine getX1_49 (by omega) rfl dX1_whoIsIn_6 ?_
      rw [hn]
      refine r_icmp_ge_N 33 dX1_whoIsIn_9 rfl (by omega) (by omega) (fun h9 => ?_) (fun h9 => ?_)
      · exfalso; omega
      · refine r_aload_n dX1_whoIsIn_12 rfl ?_
        refine r_iload_n dX1_whoIsIn_13 rfl ?_
        refine r_iload_n dX1_whoIsIn_14 rfl ?_
        refine cV_i2 fX1_isOff (rcv_1 (by omega)) lkX1_73 rfl dX1_whoIsIn_15 (sp_X1_isOff hi (by omega) ?_)
        refine r_if_ne 27 dX1_whoIsIn_18 rfl (fun h18 => ?_) (fun h18 => ?_)
        · rw [tb_of h18] at ih
          simp only [if_true, Int32.or_zero] at ih
          refine r_inc1_3 dX1_whoIsIn_27 rfl ?_
          refine r_goto 4 dX1_whoIsIn_30 rfl ?_
          exact ih
        · rw [(bi_eq0 _).mp h18] at ih
          simp only [Bool.false_eq_true, if_false] at ih
          refine r_iload_n dX1_whoIsIn_21 rfl ?_
          refine r_iconst (1) dX1_whoIsIn_22 rfl ?_
          refine r_iload_n dX1_whoIsIn_23 rfl ?_
          refine r_ishl dX1_whoIsIn_24 ?_
          refine r_ior dX1_whoIsIn_25 ?_
          refine r_istore_n_2 dX1_whoIsIn_26 rfl ?_
          refine r_inc1_3 dX1_whoIsIn_27 rfl ?_
          refine r_goto 4 dX1_whoIsIn_30 rfl ?_
          exact ih
  exact LOOP 0 (by omega)
def fel (r : Row) : Nat → Int32
  | 0 => 0
  | p + 1 => if r (6 + 5 * p) < 20 then fel r p else fel r p ||| (1 : Int32) <<< (nI p &&& 31)
theorem sp_X1_whoFell {i n : Nat} (hi : i < 3) (hn : σ i 0 = nI n) (hn6 : n ≤ 6) (K : Q (fel (σ i) n) σ) : Mi E mX1_whoFell [.ref (ad E 1 i)] σ Q := by
  refine Mw_of (L0 := [some (.ref (ad E 1 i)), none, none]) pn_X1 rfl rfl (Nat.le_of_ble_eq_true rfl) ?_
  refine r_iconst (0) dX1_whoFell_0 rfl ?_
  refine r_istore_n_1 dX1_whoFell_1 rfl ?_
  refine r_iconst (0) dX1_whoFell_2 rfl ?_
  refine r_istore_n_2 dX1_whoFell_3 rfl ?_
  have LOOP : ∀ k, k ≤ n → GW E (ZM E 0 fun v σ' => ∃ r, v = some (.int r) ∧ Q r σ') mX1_whoFell 4 [some (.ref (ad E 1 i)), some (.int (fel (σ i) k)), some (.int (nI k))] [] σ := by
    refine down ?_ ?_
    · refine r_iload_n dX1_whoFell_4 rfl ?_
      refine r_aload_n dX1_whoFell_5 rfl ?_
      refine getX1_49 (by omega) rfl dX1_whoFell_6 ?_
      rw [hn]
      refine r_icmp_ge_N 35 dX1_whoFell_9 rfl (by omega) (by omega) (fun h9 => ?_) (fun h9 => ?_)
      · refine r_iload_n dX1_whoFell_35 rfl ?_
        refine r_ireturn rfl (by first | rfl | exact nar_bi _ | assumption) dX1_whoFell_36 ⟨_, rfl, ?_⟩
        exact K
      · exfalso; omega
    · intro k hk ih
      rw [fel] at ih
      refine r_iload_n dX1_whoFell_4 rfl ?_
      refine r_aload_n dX1_whoFell_5 rfl ?_
      refine getX1_49 (by omega) rfl dX1_whoFell_6 ?_
      rw [hn]
      refine r_icmp_ge_N 35 dX1_whoFell_9 rfl (by omega) (by omega) (fun h9 => ?_) (fun h9 => ?_)
      · exfalso; omega
      · refine r_aload_n dX1_whoFell_12 rfl ?_
        refine getX1_43 (by omega) rfl dX1_whoFell_13 ?_
        refine r_iload_n dX1_whoFell_16 rfl ?_
        refine ld_12  (by omega) (by omega) dX1_whoFell_17 ?_
        refine r_bipush (20) dX1_whoFell_18 rfl ?_
        refine r_icmp_lt 29 dX1_whoFell_20 rfl (fun h20 => ?_) (fun h20 => ?_)
        · rw [if_pos h20] at ih
          refine r_inc1_2 dX1_whoFell_29 rfl ?_
          refine r_goto 4 dX1_whoFell_32 rfl ?_
          exact ih
        · rw [if_neg h20] at ih
          refine r_iload_n dX1_whoFell_23 rfl ?_
          refine r_iconst (1) dX1_whoFell_24 rfl ?_
          refine r_iload_n dX1_whoFell_25 rfl ?_
          refine r_ishl dX1_whoFell_26 ?_
          refine r_ior dX1_whoFell_27 ?_
          refine r_istore_n_1 dX1_whoFell_28 rfl ?_
          refine r_inc1_2 dX1_whoFell_29 rfl ?_
          refine r_goto 4 dX1_whoFell_32 rfl ?_
          exact ih
  exact LOOP 0 (by omega)
theorem sp_X1_allTired {i n : Nat} (hi : i < 3) (hn : σ i 0 = nI n) (hn6 : n ≤ 6) (K : Q (sumT (σ i) n) σ) : Mi E mX1_allTired [.ref (ad E 1 i)] σ Q := by
  refine Mw_of (L0 := [some (.ref (ad E 1 i)), none, none]) pn_X1 rfl rfl (Nat.le_of_ble_eq_true rfl) ?_
  refine r_iconst (0) dX1_allTired_0 rfl ?_
  refine r_istore_n_1 dX1_allTired_1 rfl ?_
  refine r_iconst (0) dX1_allTired_2 rfl ?_
  refine r_istore_n_2 dX1_allTired_3 rfl ?_
  have LOOP : ∀ k, k ≤ n → GW E (ZM E 0 fun v σ' => ∃ r, v = some (.int r) ∧ Q r σ') mX1_allTired 4 [some (.ref (ad E 1 i)), some (.int (sumT (σ i) k)), some (.int (nI k))] [] σ := by
    refine down ?_ ?_
    · refine r_iload_n dX1_allTired_4 rfl ?_
      refine r_aload_n dX1_allTired_5 rfl ?_
      refine getX1_49 (by omega) rfl dX1_allTired_6 ?_
      rw [hn]
      refine r_icmp_ge_N 27 dX1_allTired_9 rfl (by omega) (by omega) (fun h9 => ?_) (fun h9 => ?_)
      · refine r_iload_n dX1_allTired_27 rfl ?_
        refine r_ireturn rfl (by first | rfl | exact nar_bi _ | assumption) dX1_allTired_28 ⟨_, rfl, ?_⟩
        exact K
      · exfalso; omega
    · intro k hk ih
      refine r_iload_n dX1_allTired_4 rfl ?_
      refine r_aload_n dX1_allTired_5 rfl ?_
      refine getX1_49 (by omega) rfl dX1_allTired_6 ?_
      rw [hn]
      refine r_icmp_ge_N 27 dX1_allTired_9 rfl (by omega) (by omega) (fun h9 => ?_) (fun h9 => ?_)
      · exfalso; omega
      · refine r_iload_n dX1_allTired_12 rfl ?_
        refine r_aload_n dX1_allTired_13 rfl ?_
        refine getX1_43 (by omega) rfl dX1_allTired_14 ?_
        refine r_iload_n dX1_allTired_17 rfl ?_
        refine ld_12  (by omega) (by omega) dX1_allTired_18 ?_
        refine r_iadd dX1_allTired_19 ?_
        refine r_istore_n_1 dX1_allTired_20 rfl ?_
        refine r_inc1_2 dX1_allTired_21 rfl ?_
        refine r_goto 4 dX1_allTired_24 rfl ?_
        exact ih
  exact LOOP 0 (by omega)
end CREW1
