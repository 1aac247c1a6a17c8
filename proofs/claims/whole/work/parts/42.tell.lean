/-! ===== the telling, the class's ===== -/
section TELL
variable {E : EnvT} {σ : Sg} {Q : Int32 → Sg → Prop} {Qv : Sg → Prop} {Qr : Nat → Sg → Prop}
/-- the letters that have come -/
def LT (σ : Sg) (c : Nat → Nat) (N : Nat) : Prop := (∀ j, σ 7 j = nI (c j)) ∧ (∀ j, c j < 256) ∧ σ 10 2 = nI N ∧ N ≤ 96
theorem LT_up {c : Nat → Nat} {N i : Nat} {r : Row} (h : LT σ c N) (hi : i < 7) : LT (va_up σ i r) c N := by
  unfold LT
  rw [up_ne (by omega), up_ne (by omega)]
  exact h
def ltr (c : Nat → Nat) (N p : Nat) : Nat := if p < N then c p else 0
theorem ltr_lt {c : Nat → Nat} {N p : Nat} (h : ∀ j, c j < 256) : ltr c N p < 256 := by
  unfold ltr
  split
  · exact h p
  · omega
def shp (x : Nat) : Nat := if x = 119 then 0 else if x = 111 ∨ x = 100 then 1 else if x = 116 ∨ x = 120 then 2 else 3
theorem shp_lt (x : Nat) : shp x < 4 := by unfold shp; split; omega; split; omega; split <;> omega
theorem lk1 : ∀ x, x < 256 → Op.lookupswitch.offset [(100, 53), (111, 53), (116, 56), (119, 50), (120, 56)] 59 (nI x).toInt = if x = 119 then 50 else if x = 111 ∨ x = 100 then 53 else if x = 116 ∨ x = 120 then 56 else 59 := by decide +kernel
theorem sp_X5_isFull {N : Nat} (hN : σ 10 2 = nI N) (h96 : N ≤ 96) (K : Q (bi (decide (96 ≤ N))) σ) : Mi E mX5_isFull [.ref (ad E 14 0)] σ Q := by
  refine Mw_of (L0 := [some (.ref (ad E 14 0))]) pn_X5 rfl rfl (Nat.le_of_ble_eq_true rfl) ?_
  refine r_aload_n dX5_isFull_0 rfl ?_
  refine getX5_15 rfl dX5_isFull_1 ?_
  rw [hN]
  refine r_bipush (96) dX5_isFull_4 rfl ?_
  refine r_icmp_lt_N (b := 96) 13 dX5_isFull_6 rfl (by omega) (by omega) (fun h6 => ?_) (fun h6 => ?_)
  · refine r_iconst (0) dX5_isFull_13 rfl ?_
    refine r_ireturn rfl (by first | rfl | exact nar_bi _ | assumption) dX5_isFull_14 ⟨_, rfl, ?_⟩
    rw [decide_eq_false (by omega)] at K
    exact K
  · refine r_iconst (1) dX5_isFull_9 rfl ?_
    refine r_goto 14 dX5_isFull_10 rfl ?_
    refine r_ireturn rfl (by first | rfl | exact nar_bi _ | assumption) dX5_isFull_14 ⟨_, rfl, ?_⟩
    rw [decide_eq_true h6] at K
    exact K
theorem vnc {x : Nat} (hx : x < 256) : vp_nar .char (nI x) = nI x := by
  unfold vp_nar
  rw [(pk_charN (q := x) (by omega)).1]
theorem sp_X5_add {N x : Nat} (hN : σ 10 2 = nI N) (h96 : N < 96) (hx : x < 256) (K : Qv (s2 (s2 σ 7 N (nI x)) 10 2 (nI (N + 1)))) : Mv E mX5_add [.ref (ad E 14 0), .int (nI x)] σ Qv := by
  refine Mw_of (L0 := [some (.ref (ad E 14 0)), some (.int (nI x))]) pn_X5 rfl rfl (Nat.le_of_ble_eq_true rfl) ?_
  refine r_aload_n dX5_add_0 rfl ?_
  refine cV_i0 fX5_isFull rcv_14 lkX5_19 rfl dX5_add_1 (sp_X5_isFull hN (by omega) ?_)
  refine r_if_ne 27 dX5_add_4 rfl (fun h4 => ?_) (fun h4 => ?_)
  · rw [decide_eq_false (by omega)] at h4
    exact absurd rfl h4
  · have e : (s2 σ 7 N (nI x)) 10 2 = nI N := by unfold s2; rw [up_ne (by omega)]; exact hN
    refine r_aload_n dX5_add_7 rfl ?_
    refine getX5_9 rfl dX5_add_8 ?_
    refine r_aload_n dX5_add_11 rfl ?_
    refine getX5_15 rfl dX5_add_12 ?_
    rw [hN]
    refine r_iload_n dX5_add_15 rfl ?_
    refine st_15  (by omega) dX5_add_16 ?_
    rw [vnc hx]
    refine r_aload_n dX5_add_17 rfl ?_
    refine r_dup dX5_add_18 rfl ?_
    refine getX5_15 rfl dX5_add_19 ?_
    rw [e]
    refine r_iconst (1) dX5_add_22 rfl ?_
    refine r_iadd dX5_add_23 ?_
    rw [nI_1]
    refine putX5_15 rfl dX5_add_24 ?_
    refine r_return rfl dX5_add_27 ⟨rfl, ?_⟩
    exact K
theorem sp_X5_forget (K : Qv (s2 σ 10 2 0)) : Mv E mX5_forget [.ref (ad E 14 0)] σ Qv := by
  refine Mw_of (L0 := [some (.ref (ad E 14 0))]) pn_X5 rfl rfl (Nat.le_of_ble_eq_true rfl) ?_
  refine r_aload_n dX5_forget_0 rfl ?_
  refine r_iconst (0) dX5_forget_1 rfl ?_
  refine putX5_15 rfl dX5_forget_2 ?_
  refine r_return rfl dX5_forget_5 ⟨rfl, ?_⟩
  exact K
theorem sp_X5_shapeAt {c : Nat → Nat} {N p : Nat} (hL : LT σ c N) (hp : p < 1000) (K : Qr (sK E (shp (ltr c N p))) σ) : Mr E mX5_shapeAt [.ref (ad E 14 0), .int (nI p)] σ Qr := by
  obtain ⟨l1, l2, l3, l4⟩ := hL
  have key : ∀ x, x < 256 → ltr c N p = x → GW E (ZM E 0 fun v σ' => ∃ r, v = some (.ref r) ∧ Qr r σ') mX5_shapeAt 18 [some (.ref (ad E 14 0)), some (.int (nI p))] [.int (nI x)] σ := by
    intro x hx ex
    rw [ex] at K
    have e := lk1 x hx
    unfold shp at K
    by_cases h1 : x = 119
    · rw [if_pos h1] at e K
      refine r_lookup 50 68 dX5_shapeAt_18 (by decide) e rfl ?_
      refine r_ldcS (i := 0) (by omega) rfl dX5_shapeAt_68 ?_
      refine r_areturn rfl dX5_shapeAt_70 ⟨_, rfl, ?_⟩
      exact K
    · rw [if_neg h1] at e K
      by_cases h2 : x = 111 ∨ x = 100
      · rw [if_pos h2] at e K
        refine r_lookup 53 71 dX5_shapeAt_18 (by decide) e rfl ?_
        refine r_ldcS (i := 1) (by omega) rfl dX5_shapeAt_71 ?_
        refine r_areturn rfl dX5_shapeAt_73 ⟨_, rfl, ?_⟩
        exact K
      · rw [if_neg h2] at e K
        by_cases h3 : x = 116 ∨ x = 120
        · rw [if_pos h3] at e K
          refine r_lookup 56 74 dX5_shapeAt_18 (by decide) e rfl ?_
          refine r_ldcS (i := 2) (by omega) rfl dX5_shapeAt_74 ?_
          refine r_areturn rfl dX5_shapeAt_76 ⟨_, rfl, ?_⟩
          exact K
        · rw [if_neg h3] at e K
          refine r_lookup 59 77 dX5_shapeAt_18 (by decide) e rfl ?_
          refine r_ldcS (i := 3) (by omega) rfl dX5_shapeAt_77 ?_
          refine r_areturn rfl dX5_shapeAt_79 ⟨_, rfl, ?_⟩
          exact K
  refine Mw_of (L0 := [some (.ref (ad E 14 0)), some (.int (nI p))]) pn_X5 rfl rfl (Nat.le_of_ble_eq_true rfl) ?_
  refine r_iload_n dX5_shapeAt_0 rfl ?_
  refine r_aload_n dX5_shapeAt_1 rfl ?_
  refine getX5_15 rfl dX5_shapeAt_2 ?_
  rw [l3]
  refine r_icmp_ge_N 17 dX5_shapeAt_5 rfl (by omega) (by omega) (fun h5 => ?_) (fun h5 => ?_)
  · refine r_iconst (0) dX5_shapeAt_17 rfl ?_
    exact key 0 (by omega) (by unfold ltr; rw [if_neg (by omega)])
  · refine r_aload_n dX5_shapeAt_8 rfl ?_
    refine getX5_9 rfl dX5_shapeAt_9 ?_
    refine r_iload_n dX5_shapeAt_12 rfl ?_
    refine ld_15  (by omega) dX5_shapeAt_13 ?_
    rw [l1]
    refine r_goto 18 dX5_shapeAt_14 rfl ?_
    exact key (c p) (l2 p) (by unfold ltr; rw [if_pos h5])
/-- is a letter as the shape's -/
def okn (s : Int32) (x : Nat) : Bool := if s = 107 then (kd x).isSome else if s = 48 then decide (48 ≤ x ∧ x ≤ 57) else decide (nI x = s)
theorem kdI_neg {x : Nat} : kdI x < 0 ↔ (kd x).isSome = false := by
  unfold kdI
  cases h : kd x with
  | none => exact ⟨fun _ => rfl, fun _ => by decide⟩
  | some k =>
    have := fnd_lt _ _ _ h
    exact ⟨fun q => absurd q (nI_pos (by omega)), fun q => by cases q⟩
theorem sp_X5_isAs {s : Int32} {x : Nat} (hx : x < 256) (K : Q (bi (okn s x)) σ) : Mi E mX5_isAs [.int s, .int (nI x)] σ Q := by
  unfold okn at K
  refine Mw_of (L0 := [some (.int s), some (.int (nI x))]) pn_X5 rfl rfl (Nat.le_of_ble_eq_true rfl) ?_
  refine r_iload_n dX5_isAs_0 rfl ?_
  refine r_bipush (107) dX5_isAs_1 rfl ?_
  refine r_icmp_ne 21 dX5_isAs_3 rfl (fun h3 => ?_) (fun h3 => ?_)
  · rw [if_neg h3] at K
    refine r_iload_n dX5_isAs_21 rfl ?_
    refine r_bipush (48) dX5_isAs_22 rfl ?_
    refine r_icmp_ne 45 dX5_isAs_24 rfl (fun h24 => ?_) (fun h24 => ?_)
    · rw [if_neg h24] at K
      refine r_iload_n dX5_isAs_45 rfl ?_
      refine r_iload_n dX5_isAs_46 rfl ?_
      refine r_icmp_ne 54 dX5_isAs_47 rfl (fun h47 => ?_) (fun h47 => ?_)
      · refine r_iconst (0) dX5_isAs_54 rfl ?_
        refine r_ireturn rfl (by first | rfl | exact nar_bi _ | assumption) dX5_isAs_55 ⟨_, rfl, ?_⟩
        rw [decide_eq_false h47] at K
        exact K
      · refine r_iconst (1) dX5_isAs_50 rfl ?_
        refine r_goto 55 dX5_isAs_51 rfl ?_
        refine r_ireturn rfl (by first | rfl | exact nar_bi _ | assumption) dX5_isAs_55 ⟨_, rfl, ?_⟩
        rw [decide_eq_true h47] at K
        exact K
    · rw [if_pos h24] at K
      refine r_iload_n dX5_isAs_27 rfl ?_
      refine r_bipush (48) dX5_isAs_28 rfl ?_
      refine r_icmp_lt_N (b := 48) 43 dX5_isAs_30 rfl (by omega) (by omega) (fun h30 => ?_) (fun h30 => ?_)
      · refine r_iconst (0) dX5_isAs_43 rfl ?_
        refine r_ireturn rfl (by first | rfl | exact nar_bi _ | assumption) dX5_isAs_44 ⟨_, rfl, ?_⟩
        rw [decide_eq_false (by omega)] at K
        exact K
      · refine r_iload_n dX5_isAs_33 rfl ?_
        refine r_bipush (57) dX5_isAs_34 rfl ?_
        refine r_icmp_gt_N (b := 57) 43 dX5_isAs_36 rfl (by omega) (by omega) (fun h36 => ?_) (fun h36 => ?_)
        · refine r_iconst (0) dX5_isAs_43 rfl ?_
          refine r_ireturn rfl (by first | rfl | exact nar_bi _ | assumption) dX5_isAs_44 ⟨_, rfl, ?_⟩
          rw [decide_eq_false (by omega)] at K
          exact K
        · refine r_iconst (1) dX5_isAs_39 rfl ?_
          refine r_goto 44 dX5_isAs_40 rfl ?_
          refine r_ireturn rfl (by first | rfl | exact nar_bi _ | assumption) dX5_isAs_44 ⟨_, rfl, ?_⟩
          rw [decide_eq_true (by omega)] at K
          exact K
  · rw [if_pos h3] at K
    refine r_ldcS (i := 4) (by omega) rfl dX5_isAs_6 ?_
    refine r_iload_n dX5_isAs_8 rfl ?_
    refine cV_i1 fJ0_indexOf_0f7a4 (rcv_str (by omega)) lkX5_54 rfl dX5_isAs_9 (sp_J0_indexOf_0f7a4 hx ?_)
    refine r_if_lt 19 dX5_isAs_12 rfl (fun h12 => ?_) (fun h12 => ?_)
    · rw [kdI_neg.mp h12] at K
      refine r_iconst (0) dX5_isAs_19 rfl ?_
      refine r_ireturn rfl (by first | rfl | exact nar_bi _ | assumption) dX5_isAs_20 ⟨_, rfl, ?_⟩
      exact K
    · have : (kd x).isSome = true := by
        cases h : (kd x).isSome with
        | true => rfl
        | false => exact absurd (kdI_neg.mpr h) h12
      rw [this] at K
      refine r_iconst (1) dX5_isAs_15 rfl ?_
      refine r_goto 20 dX5_isAs_16 rfl ?_
      refine r_ireturn rfl (by first | rfl | exact nar_bi _ | assumption) dX5_isAs_20 ⟨_, rfl, ?_⟩
      exact K
def dgt (c : Nat → Nat) (N j : Nat) : Prop := j < N ∧ 48 ≤ c j ∧ c j ≤ 57
def num (c : Nat → Nat) (p : Nat) : Nat → Nat
  | 0 => 0
  | k + 1 => 10 * num c p k + (c (p + k) - 48)
theorem num_lt {c : Nat → Nat} {N p : Nat} : ∀ d, (∀ i, i < d → dgt c N (p + i)) → num c p d < 10 ^ d
  | 0, _ => by show 0 < 1; omega
  | d + 1, h => by
    have ih := num_lt d (fun i hi => h i (by omega))
    obtain ⟨-, h2, h3⟩ := h d (by omega)
    rw [num, Nat.pow_succ]
    omega
theorem dig_e {v x : Nat} (hx : 48 ≤ x) : (10 : Int32) * nI v + nI x - 48 = nI (10 * v + (x - 48)) := by
  rw [show (10 : Int32) = nI 10 from rfl, pk_mul, nI_add, show (48 : Int32) = nI 48 from rfl, pk_sub (by omega)]
  congr 1
  omega
theorem sp_X5_number {c : Nat → Nat} {N p d : Nat} (hL : LT σ c N) (hd : d ≤ 3) (hg : ∀ i, i < d → dgt c N (p + i)) (hp : p < 1000) (K : Q (nI (num c p d)) σ) : Mi E mX5_number [.ref (ad E 14 0), .int (nI p), .int (nI d)] σ Q := by
  obtain ⟨l1, l2, l3, l4⟩ := hL
  refine Mw_of (L0 := [some (.ref (ad E 14 0)), some (.int (nI p)), some (.int (nI d)), none, none]) pn_X5 rfl rfl (Nat.le_of_ble_eq_true rfl) ?_
  refine r_iconst (0) dX5_number_0 rfl ?_
  refine r_istore_n_3 dX5_number_1 rfl ?_
  refine r_iload_n dX5_number_2 rfl ?_
  refine r_istore_4 dX5_number_3 rfl ?_
  have LOOP : ∀ k, k ≤ d → GW E (ZM E 0 fun v σ' => ∃ r, v = some (.int r) ∧ Q r σ') mX5_number 5 [some (.ref (ad E 14 0)), some (.int (nI p)), some (.int (nI d)), some (.int (nI (num c p k))), some (.int (nI (p + k)))] [] σ := by
    refine down ?_ ?_
    · refine r_iload dX5_number_5 rfl ?_
      refine r_iload_n dX5_number_7 rfl ?_
      refine r_iload_n dX5_number_8 rfl ?_
      refine r_iadd dX5_number_9 ?_
      rw [nI_add]
      refine r_icmp_ge_N 44 dX5_number_10 rfl (by omega) (by omega) (fun h10 => ?_) (fun h10 => ?_)
      · refine r_iload_n dX5_number_44 rfl ?_
        refine r_ireturn rfl (by first | rfl | exact nar_bi _ | assumption) dX5_number_45 ⟨_, rfl, ?_⟩
        exact K
      · exfalso; omega
    · intro k hk ih
      obtain ⟨g1, g2, g3⟩ := hg k hk
      refine r_iload dX5_number_5 rfl ?_
      refine r_iload_n dX5_number_7 rfl ?_
      refine r_iload_n dX5_number_8 rfl ?_
      refine r_iadd dX5_number_9 ?_
      rw [nI_add]
      refine r_icmp_ge_N 44 dX5_number_10 rfl (by omega) (by omega) (fun h10 => ?_) (fun h10 => ?_)
      · exfalso; omega
      · refine r_iload dX5_number_13 rfl ?_
        refine r_aload_n dX5_number_15 rfl ?_
        refine getX5_15 rfl dX5_number_16 ?_
        rw [l3]
        refine r_icmp_ge_N 44 dX5_number_19 rfl (by omega) (by omega) (fun h19 => ?_) (fun h19 => ?_)
        · exfalso; omega
        · refine r_bipush (10) dX5_number_22 rfl ?_
          refine r_iload_n dX5_number_24 rfl ?_
          refine r_imul dX5_number_25 ?_
          refine r_aload_n dX5_number_26 rfl ?_
          refine getX5_9 rfl dX5_number_27 ?_
          refine r_iload dX5_number_30 rfl ?_
          refine ld_15  (by omega) dX5_number_32 ?_
          rw [l1]
          refine r_iadd dX5_number_33 ?_
          refine r_bipush (48) dX5_number_34 rfl ?_
          refine r_isub dX5_number_36 ?_
          rw [dig_e g2]
          refine r_istore_n_3 dX5_number_37 rfl ?_
          refine r_inc1_4 dX5_number_38 rfl ?_
          refine r_goto 5 dX5_number_41 rfl ?_
          exact ih
  exact LOOP 0 (by omega)
/-- the text at p is as its first letter's shape -/
def TX (c : Nat → Nat) (N p : Nat) : Prop := p < N ∧ ∀ k, k < sln (shp (c p)) → p + 1 + k < N ∧ okn (sby (shp (c p)) k) (c (p + 1 + k)) = true
theorem TX_d {c : Nat → Nat} {N p s k j : Nat} (h : TX c N p) (hs : shp (c p) = s) (hk : k < sln s) (h48 : sby s k = 48) (hj : p + 1 + k = j) : dgt c N j := by
  have := h.2 k (by rw [hs]; exact hk)
  rw [hs, h48] at this
  unfold okn at this
  rw [if_neg (by decide), if_pos rfl, decide_eq_true_eq, hj] at this
  exact ⟨this.1, this.2.1, this.2.2⟩
theorem TX_k {c : Nat → Nat} {N p : Nat} (h : TX c N p) (hs : shp (c p) = 0) : p + 1 < N ∧ (kd (c (p + 1))).isSome = true := by
  have := h.2 0 (by rw [hs]; decide)
  rw [hs, show sby 0 0 = 107 from rfl] at this
  unfold okn at this
  rw [if_pos rfl] at this
  exact this
abbrev RN : Type := Option (Row × Nat)
def stW (c : Nat → Nat) (p : Nat) (r : Row) (n : Nat) : RN := if num c (p + 3) 3 ≤ 127 ∧ n < 6 then some (hireR r n (oI (kd (c (p + 1)))) (nI (num c (p + 2) 1)) (nI (num c (p + 3) 3)), n + 1) else none
def stO (c : Nat → Nat) (p : Nat) (r : Row) (n : Nat) : RN := if num c (p + 1) 1 < n ∧ num c (p + 2) 1 < 7 then some (frR r (num c (p + 1) 1) (nI (num c (p + 2) 1)), n) else none
def stT (c : Nat → Nat) (p : Nat) (r : Row) (n : Nat) : RN := if num c (p + 1) 1 < n ∧ num c (p + 2) 2 ≤ 30 then some (upd r (6 + 5 * num c (p + 1) 1) (nI (num c (p + 2) 2)), n) else none
def stX (c : Nat → Nat) (p : Nat) (r : Row) (n : Nat) : RN := if (num c (p + 1) 1 < n ∧ num c (p + 2) 1 < n ∧ num c (p + 1) 1 ≠ num c (p + 2) 1 ∧ num c (p + 3) 1 < 7) ∧ (tb (r (5 + 5 * num c (p + 1) 1)) (nI (num c (p + 3) 1)) && !tb (r (5 + 5 * num c (p + 2) 1)) (nI (num c (p + 3) 1))) = true then some (mvd r (num c (p + 1) 1) (num c (p + 2) 1) (nI (num c (p + 3) 1)), n) else none
def stD (c : Nat → Nat) (p : Nat) (r : Row) (n : Nat) : RN := if 1 ≤ num c (p + 1) 2 ∧ num c (p + 1) 2 ≤ 60 ∧ r 1 + nI (num c (p + 1) 2) ≤ 999 then some (dayN 0 n r (num c (p + 1) 2), n) else none
def stm (c : Nat → Nat) (p : Nat) (r : Row) (n : Nat) : RN := if c p = 119 then stW c p r n else if c p = 111 then stO c p r n else if c p = 116 then stT c p r n else if c p = 120 then stX c p r n else if c p = 100 then stD c p r n else none
theorem hasW_i {a n : Nat} (ha : a < 1000) (hn : n ≤ 6) : hasW (nI a) n = decide (a < n) := by
  unfold hasW
  by_cases h : a < n
  · rw [decide_eq_true h, decide_eq_true]
    exact ⟨Int32.not_lt.mp (nI_pos (by omega)), (nI_ltI (by omega) (by omega)).mpr h⟩
  · rw [decide_eq_false h, decide_eq_false]
    exact fun q => h ((nI_ltI (by omega) (by omega)).mp q.2)
theorem isWd_i {a : Nat} (ha : a < 1000) : isWd (nI a) = decide (a < 7) := by
  unfold isWd
  by_cases h : a < 7
  · rw [decide_eq_true h, decide_eq_true]
    exact ⟨Int32.not_lt.mp (nI_pos (by omega)), (nI_ltI (b := 7) (by omega) (by omega)).mpr h⟩
  · rw [decide_eq_false h, decide_eq_false]
    exact fun q => h ((nI_ltI (b := 7) (by omega) (by omega)).mp q.2)
theorem num1 {c : Nat → Nat} {N p : Nat} (h : dgt c N p) : num c p 1 < 10 := num_lt (N := N) 1 (fun i hi => by rw [show i = 0 by omega]; exact h)
theorem num2 {c : Nat → Nat} {N p : Nat} (h0 : dgt c N p) (h1 : dgt c N (p + 1)) : num c p 2 < 100 := num_lt (N := N) 2 (fun i hi => by
  rcases (by omega : i = 0 ∨ i = 1) with rfl | rfl
  · exact h0
  · exact h1)
theorem num3 {c : Nat → Nat} {N p : Nat} (h0 : dgt c N p) (h1 : dgt c N (p + 1)) (h2 : dgt c N (p + 2)) : num c p 3 < 1000 := num_lt (N := N) 3 (fun i hi => by
  rcases (by omega : i = 0 ∨ i = 1 ∨ i = 2) with rfl | rfl | rfl
  · exact h0
  · exact h1
  · exact h2)
theorem sp_num1 {c : Nat → Nat} {N p : Nat} (hL : LT σ c N) (hp : p < 1000) (h0 : dgt c N p) (K : Q (nI (num c p 1)) σ) : Mi E mX5_number [.ref (ad E 14 0), .int (nI p), .int 1] σ Q := sp_X5_number (d := 1) hL (by omega) (fun i hi => by rw [show i = 0 by omega]; exact h0) hp K
theorem sp_num2 {c : Nat → Nat} {N p : Nat} (hL : LT σ c N) (hp : p < 1000) (h0 : dgt c N p) (h1 : dgt c N (p + 1)) (K : Q (nI (num c p 2)) σ) : Mi E mX5_number [.ref (ad E 14 0), .int (nI p), .int 2] σ Q := sp_X5_number (d := 2) hL (by omega) (fun i hi => by
  rcases (by omega : i = 0 ∨ i = 1) with rfl | rfl
  · exact h0
  · exact h1) hp K
theorem sp_num3 {c : Nat → Nat} {N p : Nat} (hL : LT σ c N) (hp : p < 1000) (h0 : dgt c N p) (h1 : dgt c N (p + 1)) (h2 : dgt c N (p + 2)) (K : Q (nI (num c p 3)) σ) : Mi E mX5_number [.ref (ad E 14 0), .int (nI p), .int 3] σ Q := sp_X5_number (d := 3) hL (by omega) (fun i hi => by
  rcases (by omega : i = 0 ∨ i = 1 ∨ i = 2) with rfl | rfl | rfl
  · exact h0
  · exact h1
  · exact h2) hp K
end TELL
