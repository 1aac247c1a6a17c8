/-! ===== the crew: meetings, strikes, the richest, hiring ===== -/
section CREW2
variable {E : EnvT} {σ : Sg} {Q : Int32 → Sg → Prop} {Qv : Sg → Prop}
def mtg (r : Row) (a b : Nat) : Int32 := (127 &&& (r (5 + 5 * a) ^^^ (-1))) &&& (r (5 + 5 * b) ^^^ (-1))
theorem mtg_e (x y : Int32) : ((x ||| y) ^^^ (-1)) &&& 127 = (127 &&& (x ^^^ (-1))) &&& (y ^^^ (-1)) := b_ext (fun i hi => by
  rw [b_and, b_and, b_and, bt_not _ hi, bt_not _ hi, bt_not _ hi, b_or]
  cases bt x i <;> cases bt y i <;> cases bt 127 i <;> rfl)
theorem sp_X1_meetings {i a b : Nat} (hi : i < 3) (ha : a < 6) (hb : b < 6) (K : Q (mtg (σ i) a b) σ) : Mi E mX1_meetings [.ref (ad E 1 i), .int (nI a), .int (nI b)] σ Q := by
  refine Mw_of (L0 := [some (.ref (ad E 1 i)), some (.int (nI a)), some (.int (nI b))]) pn_X1 rfl rfl (Nat.le_of_ble_eq_true rfl) ?_
  refine r_aload_n dX1_meetings_0 rfl ?_
  refine getX1_40 (by omega) rfl dX1_meetings_1 ?_
  refine r_iload_n dX1_meetings_4 rfl ?_
  refine ld_11  (by omega) (by omega) dX1_meetings_5 ?_
  refine r_aload_n dX1_meetings_6 rfl ?_
  refine getX1_40 (by omega) rfl dX1_meetings_7 ?_
  refine r_iload_n dX1_meetings_10 rfl ?_
  refine ld_11  (by omega) (by omega) dX1_meetings_11 ?_
  refine r_ior dX1_meetings_12 ?_
  refine r_iconst (-1) dX1_meetings_13 rfl ?_
  refine r_ixor dX1_meetings_14 ?_
  refine r_bipush (127) dX1_meetings_15 rfl ?_
  refine r_iand dX1_meetings_17 ?_
  refine r_ireturn rfl (by first | rfl | exact nar_bi _ | assumption) dX1_meetings_18 ⟨_, rfl, ?_⟩
  exact qof K (mtg_e _ _) rfl
theorem inO_R7 {r : Row} {d : Int32} : ∀ k, k ≤ 6 → R7 (inO r d k)
  | 0, _ => R7_0
  | k + 1, hk => by
    unfold inO
    refine R7_or (inO_R7 k (by omega)) ?_
    split
    · exact R7_0
    · exact R7_sl (by omega)
def offO (r : Row) (n : Nat) (d : Int32) : Int32 := nI n - bsum (inO r d n) 7
theorem sp_X1_offOn {i n : Nat} {d : Int32} (hi : i < 3) (hn : σ i 0 = nI n) (hn6 : n ≤ 6) (K : Q (offO (σ i) n d) σ) : Mi E mX1_offOn [.ref (ad E 1 i), .int d] σ Q := by
  obtain ⟨m, hm, em⟩ := R7_ex (inO_R7 (r := σ i) (d := d) n hn6)
  refine Mw_of (L0 := [some (.ref (ad E 1 i)), some (.int d)]) pn_X1 rfl rfl (Nat.le_of_ble_eq_true rfl) ?_
  refine r_aload_n dX1_offOn_0 rfl ?_
  refine getX1_49 (by omega) rfl dX1_offOn_1 ?_
  rw [hn]
  refine r_aload_n dX1_offOn_4 rfl ?_
  refine r_iload_n dX1_offOn_5 rfl ?_
  refine cV_i1 fX1_whoIsIn (rcv_1 (by omega)) lkX1_115 rfl dX1_offOn_6 (sp_X1_whoIsIn hi hn hn6 ?_)
  rw [em]
  refine cS_i1 fJ6_bitCount_0f7a4 lkX1_118 rfl dX1_offOn_9 (sp_J6_bitCount_0f7a4 hm ?_)
  rw [← em]
  refine r_isub dX1_offOn_12 ?_
  refine r_ireturn rfl (by first | rfl | exact nar_bi _ | assumption) dX1_offOn_13 ⟨_, rfl, ?_⟩
  exact K
def stk (r : Row) (n : Nat) : Nat → Nat
  | 0 => 0
  | d + 1 => if offO r n (nI (stk r n d)) < offO r n (nI d) then d else stk r n d
theorem stk_lt {r : Row} {n : Nat} : ∀ d, stk r n d ≤ d
  | 0 => Nat.le_refl 0
  | d + 1 => by
    unfold stk
    split
    · omega
    · have := stk_lt (r := r) (n := n) d
      omega
theorem stk_1 {r : Row} {n : Nat} : stk r n 1 = 0 := by
  unfold stk
  rw [if_neg (by rw [stk]; exact Int32.lt_irrefl)]
  rfl
theorem sp_X1_strikeDay {i n : Nat} (hi : i < 3) (hn : σ i 0 = nI n) (hn6 : n ≤ 6) (K : Q (nI (stk (σ i) n 7)) σ) : Mi E mX1_strikeDay [.ref (ad E 1 i)] σ Q := by
  refine Mw_of (L0 := [some (.ref (ad E 1 i)), none, none]) pn_X1 rfl rfl (Nat.le_of_ble_eq_true rfl) ?_
  refine r_iconst (0) dX1_strikeDay_0 rfl ?_
  refine r_istore_n_1 dX1_strikeDay_1 rfl ?_
  refine r_iconst (1) dX1_strikeDay_2 rfl ?_
  refine r_istore_n_2 dX1_strikeDay_3 rfl ?_
  have LOOP : ∀ k, k ≤ 7 → GW E (ZM E 4 fun v σ' => ∃ r, v = some (.int r) ∧ Q r σ') mX1_strikeDay 4 [some (.ref (ad E 1 i)), some (.int (nI (stk (σ i) n k))), some (.int (nI k))] [] σ := by
    refine down ?_ ?_
    · refine r_iload_n dX1_strikeDay_4 rfl ?_
      refine r_bipush (7) dX1_strikeDay_5 rfl ?_
      refine r_icmp_ge_N (b := 7) 31 dX1_strikeDay_7 rfl (by omega) (by omega) (fun h7 => ?_) (fun h7 => ?_)
      · refine r_iload_n dX1_strikeDay_31 rfl ?_
        refine r_ireturn rfl (by first | rfl | exact nar_bi _ | assumption) dX1_strikeDay_32 ⟨_, rfl, ?_⟩
        exact K
      · exfalso; omega
    · intro k hk ih
      rw [stk] at ih
      refine r_iload_n dX1_strikeDay_4 rfl ?_
      refine r_bipush (7) dX1_strikeDay_5 rfl ?_
      refine r_icmp_ge_N (b := 7) 31 dX1_strikeDay_7 rfl (by omega) (by omega) (fun h7 => ?_) (fun h7 => ?_)
      · exfalso; omega
      · refine r_aload_n dX1_strikeDay_10 rfl ?_
        refine r_iload_n dX1_strikeDay_11 rfl ?_
        refine cV_i1 fX1_offOn (rcv_1 (by omega)) lkX1_123 rfl dX1_strikeDay_12 (sp_X1_offOn hi hn hn6 ?_)
        refine r_aload_n dX1_strikeDay_15 rfl ?_
        refine r_iload_n dX1_strikeDay_16 rfl ?_
        refine cV_i1 fX1_offOn (rcv_1 (by omega)) lkX1_123 rfl dX1_strikeDay_17 (sp_X1_offOn hi hn hn6 ?_)
        refine r_icmp_le 25 dX1_strikeDay_20 rfl (fun h20 => ?_) (fun h20 => ?_)
        · rw [if_neg (Int32.not_lt.mpr h20)] at ih
          refine r_inc1_2 dX1_strikeDay_25 rfl ?_
          refine r_goto 4 dX1_strikeDay_28 rfl ?_
          exact ih
        · rw [if_pos (Int32.not_le.mp h20)] at ih
          refine r_iload_n dX1_strikeDay_23 rfl ?_
          refine r_istore_n_1 dX1_strikeDay_24 rfl ?_
          refine r_inc1_2 dX1_strikeDay_25 rfl ?_
          refine r_goto 4 dX1_strikeDay_28 rfl ?_
          exact ih
  have := LOOP 1 (by omega)
  rw [stk_1] at this
  exact this
def cva (r : Row) : Nat → Int32
  | 0 => 127
  | p + 1 => cva r p &&& r (5 + 5 * p)
theorem sp_X1_coveredByNobody {i n : Nat} (hi : i < 3) (hn : σ i 0 = nI n) (hn6 : n ≤ 6) (K : Q (cva (σ i) n) σ) : Mi E mX1_coveredByNobody [.ref (ad E 1 i)] σ Q := by
  refine Mw_of (L0 := [some (.ref (ad E 1 i)), none, none]) pn_X1 rfl rfl (Nat.le_of_ble_eq_true rfl) ?_
  refine r_bipush (127) dX1_coveredByNobody_0 rfl ?_
  refine r_istore_n_1 dX1_coveredByNobody_2 rfl ?_
  refine r_iconst (0) dX1_coveredByNobody_3 rfl ?_
  refine r_istore_n_2 dX1_coveredByNobody_4 rfl ?_
  have LOOP : ∀ k, k ≤ n → GW E (ZM E 0 fun v σ' => ∃ r, v = some (.int r) ∧ Q r σ') mX1_coveredByNobody 5 [some (.ref (ad E 1 i)), some (.int (cva (σ i) k)), some (.int (nI k))] [] σ := by
    refine down ?_ ?_
    · refine r_iload_n dX1_coveredByNobody_5 rfl ?_
      refine r_aload_n dX1_coveredByNobody_6 rfl ?_
      refine getX1_49 (by omega) rfl dX1_coveredByNobody_7 ?_
      rw [hn]
      refine r_icmp_ge_N 28 dX1_coveredByNobody_10 rfl (by omega) (by omega) (fun h10 => ?_) (fun h10 => ?_)
      · refine r_iload_n dX1_coveredByNobody_28 rfl ?_
        refine r_ireturn rfl (by first | rfl | exact nar_bi _ | assumption) dX1_coveredByNobody_29 ⟨_, rfl, ?_⟩
        exact K
      · exfalso; omega
    · intro k hk ih
      refine r_iload_n dX1_coveredByNobody_5 rfl ?_
      refine r_aload_n dX1_coveredByNobody_6 rfl ?_
      refine getX1_49 (by omega) rfl dX1_coveredByNobody_7 ?_
      rw [hn]
      refine r_icmp_ge_N 28 dX1_coveredByNobody_10 rfl (by omega) (by omega) (fun h10 => ?_) (fun h10 => ?_)
      · exfalso; omega
      · refine r_iload_n dX1_coveredByNobody_13 rfl ?_
        refine r_aload_n dX1_coveredByNobody_14 rfl ?_
        refine getX1_40 (by omega) rfl dX1_coveredByNobody_15 ?_
        refine r_iload_n dX1_coveredByNobody_18 rfl ?_
        refine ld_11  (by omega) (by omega) dX1_coveredByNobody_19 ?_
        refine r_iand dX1_coveredByNobody_20 ?_
        refine r_istore_n_1 dX1_coveredByNobody_21 rfl ?_
        refine r_inc1_2 dX1_coveredByNobody_22 rfl ?_
        refine r_goto 5 dX1_coveredByNobody_25 rfl ?_
        exact ih
  exact LOOP 0 (by omega)
def rst (r : Row) : Nat → Option Nat
  | 0 => none
  | k + 1 => match rst r k with
    | none => some k
    | some f => if bsum (r (5 + 5 * f)) 7 < bsum (r (5 + 5 * k)) 7 then some k else some f
theorem rst_lt {r : Row} : ∀ k f, rst r k = some f → f < k
  | 0, f, h => by cases h
  | k + 1, f, h => by
    unfold rst at h
    cases hr : rst r k with
    | none => rw [hr] at h; cases h; omega
    | some g =>
      have := rst_lt k g hr
      rw [hr] at h
      dsimp only at h
      split at h <;> cases h <;> omega
def mostR (r : Row) (o : Option Nat) : Int32 := match o with
  | none => -1
  | some f => bsum (r (5 + 5 * f)) 7
theorem sp_X1_richest {i n : Nat} (hi : i < 3) (hn : σ i 0 = nI n) (hn6 : n ≤ 6) (h7 : ∀ o, o < 6 → R7 (σ i (5 + 5 * o))) (K : Q (oI (rst (σ i) n)) σ) : Mi E mX1_richest [.ref (ad E 1 i)] σ Q := by
  refine Mw_of (L0 := [some (.ref (ad E 1 i)), none, none, none, none]) pn_X1 rfl rfl (Nat.le_of_ble_eq_true rfl) ?_
  refine r_bipush (-9) dX1_richest_0 rfl ?_
  refine r_istore_n_1 dX1_richest_2 rfl ?_
  refine r_iconst (-1) dX1_richest_3 rfl ?_
  refine r_istore_n_2 dX1_richest_4 rfl ?_
  refine r_iconst (0) dX1_richest_5 rfl ?_
  refine r_istore_n_3 dX1_richest_6 rfl ?_
  have LOOP : ∀ k, k ≤ n → ∀ y, GW E (ZM E 1 fun v σ' => ∃ r, v = some (.int r) ∧ Q r σ') mX1_richest 7 [some (.ref (ad E 1 i)), some (.int (oI (rst (σ i) k))), some (.int (mostR (σ i) (rst (σ i) k))), some (.int (nI k)), y] [] σ := by
    refine down ?_ ?_
    · intro y
      refine r_iload_n dX1_richest_7 rfl ?_
      refine r_aload_n dX1_richest_8 rfl ?_
      refine getX1_49 (by omega) rfl dX1_richest_9 ?_
      rw [hn]
      refine r_icmp_ge_N 51 dX1_richest_12 rfl (by omega) (by omega) (fun h12 => ?_) (fun h12 => ?_)
      · refine r_iload_n dX1_richest_51 rfl ?_
        refine r_ireturn rfl (by first | rfl | exact nar_bi _ | assumption) dX1_richest_52 ⟨_, rfl, ?_⟩
        exact K
      · exfalso; omega
    · intro k hk ih y
      obtain ⟨m, hm, em⟩ := R7_ex (h7 k (by omega))
      have hb0 : 0 ≤ bsum (σ i (5 + 5 * k)) 7 := by rw [em]; exact bsum_nn m hm
      rw [rst] at ih
      refine r_iload_n dX1_richest_7 rfl ?_
      refine r_aload_n dX1_richest_8 rfl ?_
      refine getX1_49 (by omega) rfl dX1_richest_9 ?_
      rw [hn]
      refine r_icmp_ge_N 51 dX1_richest_12 rfl (by omega) (by omega) (fun h12 => ?_) (fun h12 => ?_)
      · exfalso; omega
      · refine r_aload_n dX1_richest_15 rfl ?_
        refine getX1_40 (by omega) rfl dX1_richest_16 ?_
        refine r_iload_n dX1_richest_19 rfl ?_
        refine ld_11  (by omega) (by omega) dX1_richest_20 ?_
        rw [em]
        refine cS_i1 fJ6_bitCount_0f7a4 lkX1_118 rfl dX1_richest_21 (sp_J6_bitCount_0f7a4 hm ?_)
        rw [← em]
        refine r_istore_4 dX1_richest_24 rfl ?_
        refine r_iload dX1_richest_26 rfl ?_
        refine r_iload_n dX1_richest_28 rfl ?_
        refine r_icmp_le 36 dX1_richest_29 rfl (fun h29 => ?_) (fun h29 => ?_)
        · cases hr : rst (σ i) k with
          | none =>
            rw [hr] at h29
            exact absurd (Int32.le_trans hb0 h29) (show ¬ (0 : Int32) ≤ -1 by decide)
          | some f =>
            rw [hr] at h29 ih
            dsimp only at ih
            have h29 : bsum (σ i (5 + 5 * k)) 7 ≤ bsum (σ i (5 + 5 * f)) 7 := h29
            rw [if_neg (Int32.not_lt.mpr h29)] at ih
            refine r_iload_n dX1_richest_36 rfl ?_
            refine r_istore_n_1 dX1_richest_37 rfl ?_
            refine r_iload_n dX1_richest_38 rfl ?_
            refine r_iload dX1_richest_39 rfl ?_
            refine r_mmax lkX1_80 wm_max1 wm_init wm_max2 rfl dX1_richest_41 ?_
            rw [show mostR (σ i) (some f) = bsum (σ i (5 + 5 * f)) 7 from rfl, if_neg (Int32.not_lt.mpr h29)]
            refine r_istore_n_2 dX1_richest_44 rfl ?_
            refine r_inc1_3 dX1_richest_45 rfl ?_
            refine r_goto 7 dX1_richest_48 rfl ?_
            exact ih _
        · have h29 := Int32.not_le.mp h29
          cases hr : rst (σ i) k with
          | none =>
            rw [hr] at h29 ih
            refine r_iload_n dX1_richest_32 rfl ?_
            refine r_goto 37 dX1_richest_33 rfl ?_
            refine r_istore_n_1 dX1_richest_37 rfl ?_
            refine r_iload_n dX1_richest_38 rfl ?_
            refine r_iload dX1_richest_39 rfl ?_
            refine r_mmax lkX1_80 wm_max1 wm_init wm_max2 rfl dX1_richest_41 ?_
            rw [if_pos h29]
            refine r_istore_n_2 dX1_richest_44 rfl ?_
            refine r_inc1_3 dX1_richest_45 rfl ?_
            refine r_goto 7 dX1_richest_48 rfl ?_
            exact ih _
          | some f =>
            rw [hr] at h29 ih
            dsimp only at ih
            have h29 : bsum (σ i (5 + 5 * f)) 7 < bsum (σ i (5 + 5 * k)) 7 := h29
            rw [if_pos h29] at ih
            refine r_iload_n dX1_richest_32 rfl ?_
            refine r_goto 37 dX1_richest_33 rfl ?_
            refine r_istore_n_1 dX1_richest_37 rfl ?_
            refine r_iload_n dX1_richest_38 rfl ?_
            refine r_iload dX1_richest_39 rfl ?_
            refine r_mmax lkX1_80 wm_max1 wm_init wm_max2 rfl dX1_richest_41 ?_
            rw [show mostR (σ i) (some f) = bsum (σ i (5 + 5 * f)) 7 from rfl, if_pos h29]
            refine r_istore_n_2 dX1_richest_44 rfl ?_
            refine r_inc1_3 dX1_richest_45 rfl ?_
            refine r_goto 7 dX1_richest_48 rfl ?_
            exact ih _
  exact LOOP 0 (by omega) _
def sumB (r : Row) : Nat → Int32
  | 0 => 0
  | p + 1 => sumB r p + bsum (r (5 + 5 * p)) 7
theorem sp_X1_allOff {i n : Nat} (hi : i < 3) (hn : σ i 0 = nI n) (hn6 : n ≤ 6) (h7 : ∀ o, o < 6 → R7 (σ i (5 + 5 * o))) (K : Q (sumB (σ i) n) σ) : Mi E mX1_allOff [.ref (ad E 1 i)] σ Q := by
  refine Mw_of (L0 := [some (.ref (ad E 1 i)), none, none]) pn_X1 rfl rfl (Nat.le_of_ble_eq_true rfl) ?_
  refine r_iconst (0) dX1_allOff_0 rfl ?_
  refine r_istore_n_1 dX1_allOff_1 rfl ?_
  refine r_iconst (0) dX1_allOff_2 rfl ?_
  refine r_istore_n_2 dX1_allOff_3 rfl ?_
  have LOOP : ∀ k, k ≤ n → GW E (ZM E 1 fun v σ' => ∃ r, v = some (.int r) ∧ Q r σ') mX1_allOff 4 [some (.ref (ad E 1 i)), some (.int (sumB (σ i) k)), some (.int (nI k))] [] σ := by
    refine down ?_ ?_
    · refine r_iload_n dX1_allOff_4 rfl ?_
      refine r_aload_n dX1_allOff_5 rfl ?_
      refine getX1_49 (by omega) rfl dX1_allOff_6 ?_
      rw [hn]
      refine r_icmp_ge_N 30 dX1_allOff_9 rfl (by omega) (by omega) (fun h9 => ?_) (fun h9 => ?_)
      · refine r_iload_n dX1_allOff_30 rfl ?_
        refine r_ireturn rfl (by first | rfl | exact nar_bi _ | assumption) dX1_allOff_31 ⟨_, rfl, ?_⟩
        exact K
      · exfalso; omega
    · intro k hk ih
      obtain ⟨m, hm, em⟩ := R7_ex (h7 k (by omega))
      refine r_iload_n dX1_allOff_4 rfl ?_
      refine r_aload_n dX1_allOff_5 rfl ?_
      refine getX1_49 (by omega) rfl dX1_allOff_6 ?_
      rw [hn]
      refine r_icmp_ge_N 30 dX1_allOff_9 rfl (by omega) (by omega) (fun h9 => ?_) (fun h9 => ?_)
      · exfalso; omega
      · refine r_iload_n dX1_allOff_12 rfl ?_
        refine r_aload_n dX1_allOff_13 rfl ?_
        refine getX1_40 (by omega) rfl dX1_allOff_14 ?_
        refine r_iload_n dX1_allOff_17 rfl ?_
        refine ld_11  (by omega) (by omega) dX1_allOff_18 ?_
        rw [em]
        refine cS_i1 fJ6_bitCount_0f7a4 lkX1_118 rfl dX1_allOff_19 (sp_J6_bitCount_0f7a4 hm ?_)
        rw [← em]
        refine r_iadd dX1_allOff_22 ?_
        refine r_istore_n_1 dX1_allOff_23 rfl ?_
        refine r_inc1_2 dX1_allOff_24 rfl ?_
        refine r_goto 4 dX1_allOff_27 rfl ?_
        exact ih
  exact LOOP 0 (by omega)
theorem sp_X1_hasRoom {i n : Nat} (hi : i < 3) (hn : σ i 0 = nI n) (hn6 : n ≤ 6) (K : Q (bi (decide (n < 6))) σ) : Mi E mX1_hasRoom [.ref (ad E 1 i)] σ Q := by
  refine Mw_of (L0 := [some (.ref (ad E 1 i))]) pn_X1 rfl rfl (Nat.le_of_ble_eq_true rfl) ?_
  refine r_aload_n dX1_hasRoom_0 rfl ?_
  refine getX1_49 (by omega) rfl dX1_hasRoom_1 ?_
  rw [hn]
  refine r_bipush (6) dX1_hasRoom_4 rfl ?_
  refine r_icmp_ge_N (b := 6) 13 dX1_hasRoom_6 rfl (by omega) (by omega) (fun h6 => ?_) (fun h6 => ?_)
  · refine r_iconst (0) dX1_hasRoom_13 rfl ?_
    refine r_ireturn rfl (by first | rfl | exact nar_bi _ | assumption) dX1_hasRoom_14 ⟨_, rfl, ?_⟩
    exact qof K (by rw [decide_eq_false (by omega)]; rfl) rfl
  · refine r_iconst (1) dX1_hasRoom_9 rfl ?_
    refine r_goto 14 dX1_hasRoom_10 rfl ?_
    refine r_ireturn rfl (by first | rfl | exact nar_bi _ | assumption) dX1_hasRoom_14 ⟨_, rfl, ?_⟩
    exact qof K (by rw [decide_eq_true h6]; rfl) rfl
def hireR (r : Row) (n : Nat) (k f o : Int32) : Row := upd (upd (upd (upd (upd (upd r (3 + 5 * n) k) (4 + 5 * n) f) (5 + 5 * n) o) (6 + 5 * n) 0) (7 + 5 * n) 0) 0 (nI (n + 1))
theorem sp_X1_hire {i n : Nat} {k f o : Int32} (hi : i < 3) (hn : σ i 0 = nI n) (hn6 : n < 6) (K : Qv (va_up σ i (hireR (σ i) n k f o))) : Mv E mX1_hire [.ref (ad E 1 i), .int k, .int f, .int o] σ Qv := by
  refine Mw_of (L0 := [some (.ref (ad E 1 i)), some (.int k), some (.int f), some (.int o)]) pn_X1 rfl rfl (Nat.le_of_ble_eq_true rfl) ?_
  refine r_aload_n dX1_hire_0 rfl ?_
  refine cV_i0 fX1_hasRoom (rcv_1 (by omega)) lkX1_65 rfl dX1_hire_1 (sp_X1_hasRoom hi hn (by omega) ?_)
  refine r_if_eq 67 dX1_hire_4 rfl (fun h4 => ?_) (fun h4 => ?_)
  · exact absurd h4 (by rw [decide_eq_true hn6]; decide)
  · have e : ∀ (τ : Sg) a v, 3 ≤ a → τ i 0 = nI n → s2 τ i a v i 0 = nI n := fun τ a v ha h => by rw [s2_ne (Or.inr (by omega)), h]
    refine r_aload_n dX1_hire_7 rfl ?_
    refine getX1_33 (by omega) rfl dX1_hire_8 ?_
    refine r_aload_n dX1_hire_11 rfl ?_
    refine getX1_49 (by omega) rfl dX1_hire_12 ?_
    rw [hn]
    refine r_iload_n dX1_hire_15 rfl ?_
    refine st_9  (by omega) (by omega) dX1_hire_16 ?_
    refine r_aload_n dX1_hire_17 rfl ?_
    refine getX1_37 (by omega) rfl dX1_hire_18 ?_
    refine r_aload_n dX1_hire_21 rfl ?_
    refine getX1_49 (by omega) rfl dX1_hire_22 ?_
    rw [e _ _ _ (by omega) hn]
    refine r_iload_n dX1_hire_25 rfl ?_
    refine st_10  (by omega) (by omega) dX1_hire_26 ?_
    refine r_aload_n dX1_hire_27 rfl ?_
    refine getX1_40 (by omega) rfl dX1_hire_28 ?_
    refine r_aload_n dX1_hire_31 rfl ?_
    refine getX1_49 (by omega) rfl dX1_hire_32 ?_
    rw [e _ _ _ (by omega) (e _ _ _ (by omega) hn)]
    refine r_iload_n dX1_hire_35 rfl ?_
    refine st_11  (by omega) (by omega) dX1_hire_36 ?_
    refine r_aload_n dX1_hire_37 rfl ?_
    refine getX1_43 (by omega) rfl dX1_hire_38 ?_
    refine r_aload_n dX1_hire_41 rfl ?_
    refine getX1_49 (by omega) rfl dX1_hire_42 ?_
    rw [e _ _ _ (by omega) (e _ _ _ (by omega) (e _ _ _ (by omega) hn))]
    refine r_iconst (0) dX1_hire_45 rfl ?_
    refine st_12  (by omega) (by omega) dX1_hire_46 ?_
    refine r_aload_n dX1_hire_47 rfl ?_
    refine getX1_46 (by omega) rfl dX1_hire_48 ?_
    refine r_aload_n dX1_hire_51 rfl ?_
    refine getX1_49 (by omega) rfl dX1_hire_52 ?_
    rw [e _ _ _ (by omega) (e _ _ _ (by omega) (e _ _ _ (by omega) (e _ _ _ (by omega) hn)))]
    refine r_iconst (0) dX1_hire_55 rfl ?_
    refine st_13  (by omega) (by omega) dX1_hire_56 ?_
    refine r_aload_n dX1_hire_57 rfl ?_
    refine r_dup dX1_hire_58 rfl ?_
    refine getX1_49 (by omega) rfl dX1_hire_59 ?_
    rw [e _ _ _ (by omega) (e _ _ _ (by omega) (e _ _ _ (by omega) (e _ _ _ (by omega) (e _ _ _ (by omega) hn))))]
    refine r_iconst (1) dX1_hire_62 rfl ?_
    refine r_iadd dX1_hire_63 ?_
    rw [nI_1]
    refine putX1_49 (by omega) rfl dX1_hire_64 ?_
    refine r_return rfl dX1_hire_67 ⟨rfl, ?_⟩
    exact qofv K (by simp only [s2, up_at, up_up, hireR])
end CREW2
