/-! ===== reading: the twin's ===== -/
section READ9
variable {E : EnvT} {σ : Sg} {Q : Int32 → Sg → Prop} {Qv : Sg → Prop} {Qr : Nat → Sg → Prop}
def LU (σ : Sg) (c : Nat → Nat) (N : Nat) : Prop := (∀ j, σ 11 j = nI (c j)) ∧ (∀ j, c j < 256) ∧ σ 15 1 = nI N ∧ N ≤ 96
/-- but the numbers and the place -/
def Sm (σ τ : Sg) : Prop := (∀ a, a ≠ 14 → a ≠ 15 → τ a = σ a) ∧ ∀ j, j ≠ 3 → τ 15 j = σ 15 j
theorem Sm_rf : Sm σ σ := ⟨fun _ _ _ => rfl, fun _ _ => rfl⟩
theorem Sm_tr {τ υ : Sg} (h : Sm σ τ) (g : Sm τ υ) : Sm σ υ := ⟨fun a h1 h2 => (g.1 a h1 h2).trans (h.1 a h1 h2), fun j hj => (g.2 j hj).trans (h.2 j hj)⟩
theorem Sm_p {v : Int32} : Sm σ (s2 σ 15 3 v) := by
  unfold s2
  exact ⟨fun a h1 h2 => up_ne h2, fun j hj => by rw [up_at, upd_ne hj]⟩
theorem Sm_n {q : Nat} {v : Int32} : Sm σ (s2 σ 14 q v) := by
  unfold s2
  exact ⟨fun a h1 h2 => up_ne h1, fun j hj => by rw [up_ne (by omega)]⟩
theorem LU_Sm {τ : Sg} {c : Nat → Nat} {N : Nat} (h : LU σ c N) (g : Sm σ τ) : LU τ c N := by
  unfold LU
  rw [g.1 11 (by omega) (by omega), g.2 1 (by omega)]
  exact h
theorem s2_p {v : Int32} : (s2 σ 15 3 v) 15 3 = v := by unfold s2; rw [up_at, upd_eq]
theorem s2_p14 {v : Int32} : (s2 σ 15 3 v) 14 = σ 14 := by unfold s2; rw [up_ne (by omega)]
theorem s2_n {q : Nat} {v : Int32} : (s2 σ 14 q v) 14 q = v := by unfold s2; rw [up_at, upd_eq]
theorem s2_nn {q j : Nat} {v : Int32} (h : j ≠ q) : (s2 σ 14 q v) 14 j = σ 14 j := by unfold s2; rw [up_at, upd_ne h]
theorem s2_n15 {q : Nat} {v : Int32} : (s2 σ 14 q v) 15 = σ 15 := by unfold s2; rw [up_ne (by omega)]
def hr (c : Nat → Nat) (N p : Nat) : Int32 := if p < N then nI (c p) else -1
theorem sp_X9_here {c : Nat → Nat} {N p : Nat} (hL : LU σ c N) (hp : σ 15 3 = nI p) (hpb : p < 1000) (K : Q (hr c N p) σ) : Mi E mX9_here [.ref (ad E 18 0)] σ Q := by
  obtain ⟨l1, l2, l3, l4⟩ := hL
  unfold hr at K
  refine Mw_of (L0 := [some (.ref (ad E 18 0))]) pn_X9 rfl rfl (Nat.le_of_ble_eq_true rfl) ?_
  refine r_aload_n dX9_here_0 rfl ?_
  refine getX9_96 rfl dX9_here_1 ?_
  rw [hp]
  refine r_aload_n dX9_here_4 rfl ?_
  refine getX9_92 rfl dX9_here_5 ?_
  rw [l3]
  refine r_icmp_ge_N 23 dX9_here_8 rfl (by omega) (by omega) (fun h8 => ?_) (fun h8 => ?_)
  · rw [if_neg (by omega)] at K
    refine r_iconst (-1) dX9_here_23 rfl ?_
    refine r_ireturn rfl (by first | rfl | exact nar_bi _ | assumption) dX9_here_24 ⟨_, rfl, ?_⟩
    exact K
  · rw [if_pos h8] at K
    refine r_aload_n dX9_here_11 rfl ?_
    refine getX9_22 rfl dX9_here_12 ?_
    refine r_aload_n dX9_here_15 rfl ?_
    refine getX9_96 rfl dX9_here_16 ?_
    rw [hp]
    refine ld_20  (by omega) dX9_here_19 ?_
    rw [l1]
    refine r_goto 24 dX9_here_20 rfl ?_
    refine r_ireturn rfl (by first | rfl | exact nar_bi _ | assumption) dX9_here_24 ⟨_, rfl, ?_⟩
    exact K
theorem lk3 : ∀ x, x < 256 → Op.lookupswitch.offset [(98, 63), (102, 69), (104, 61), (109, 67), (116, 65), (119, 59)] 71 (nI x).toInt = if x = 119 then 59 else if x = 104 then 61 else if x = 98 then 63 else if x = 116 then 65 else if x = 109 then 67 else if x = 102 then 69 else 71 := by decide +kernel
theorem kd_e : ∀ x, x < 256 → oI (kd x) = if x = 119 then 0 else if x = 104 then 1 else if x = 98 then 2 else if x = 116 then 3 else if x = 109 then 4 else if x = 102 then 5 else -9 := by decide +kernel
theorem sp_X9_kindBy {x : Nat} (hx : x < 256) (K : Q (oI (kd x)) σ) : Mi E mX9_kindBy [.int (nI x)] σ Q := by
  have e := lk3 x hx
  rw [kd_e x hx] at K
  refine Mw_of (L0 := [some (.int (nI x))]) pn_X9 rfl rfl (Nat.le_of_ble_eq_true rfl) ?_
  refine r_iload_n dX9_kindBy_0 rfl ?_
  by_cases h1 : x = 119
  · rw [if_pos h1] at e K
    refine r_lookup 59 60 dX9_kindBy_1 (by decide) e rfl ?_
    refine r_iconst (0) dX9_kindBy_60 rfl ?_
    refine r_ireturn rfl (by first | rfl | exact nar_bi _ | assumption) dX9_kindBy_61 ⟨_, rfl, ?_⟩
    exact K
  · rw [if_neg h1] at e K
    by_cases h2 : x = 104
    · rw [if_pos h2] at e K
      refine r_lookup 61 62 dX9_kindBy_1 (by decide) e rfl ?_
      refine r_iconst (1) dX9_kindBy_62 rfl ?_
      refine r_ireturn rfl (by first | rfl | exact nar_bi _ | assumption) dX9_kindBy_63 ⟨_, rfl, ?_⟩
      exact K
    · rw [if_neg h2] at e K
      by_cases h3 : x = 98
      · rw [if_pos h3] at e K
        refine r_lookup 63 64 dX9_kindBy_1 (by decide) e rfl ?_
        refine r_iconst (2) dX9_kindBy_64 rfl ?_
        refine r_ireturn rfl (by first | rfl | exact nar_bi _ | assumption) dX9_kindBy_65 ⟨_, rfl, ?_⟩
        exact K
      · rw [if_neg h3] at e K
        by_cases h4 : x = 116
        · rw [if_pos h4] at e K
          refine r_lookup 65 66 dX9_kindBy_1 (by decide) e rfl ?_
          refine r_iconst (3) dX9_kindBy_66 rfl ?_
          refine r_ireturn rfl (by first | rfl | exact nar_bi _ | assumption) dX9_kindBy_67 ⟨_, rfl, ?_⟩
          exact K
        · rw [if_neg h4] at e K
          by_cases h5 : x = 109
          · rw [if_pos h5] at e K
            refine r_lookup 67 68 dX9_kindBy_1 (by decide) e rfl ?_
            refine r_iconst (4) dX9_kindBy_68 rfl ?_
            refine r_ireturn rfl (by first | rfl | exact nar_bi _ | assumption) dX9_kindBy_69 ⟨_, rfl, ?_⟩
            exact K
          · rw [if_neg h5] at e K
            by_cases h6 : x = 102
            · rw [if_pos h6] at e K
              refine r_lookup 69 70 dX9_kindBy_1 (by decide) e rfl ?_
              refine r_iconst (5) dX9_kindBy_70 rfl ?_
              refine r_ireturn rfl (by first | rfl | exact nar_bi _ | assumption) dX9_kindBy_71 ⟨_, rfl, ?_⟩
              exact K
            · rw [if_neg h6] at e K
              refine r_lookup 71 72 dX9_kindBy_1 (by decide) e rfl ?_
              refine r_bipush (-9) dX9_kindBy_72 rfl ?_
              refine r_ireturn rfl (by first | rfl | exact nar_bi _ | assumption) dX9_kindBy_74 ⟨_, rfl, ?_⟩
              exact K
theorem sp_kindByM (K : Q (-9) σ) : Mi E mX9_kindBy [.int (-1)] σ Q := by
  refine Mw_of (L0 := [some (.int (-1))]) pn_X9 rfl rfl (Nat.le_of_ble_eq_true rfl) ?_
  refine r_iload_n dX9_kindBy_0 rfl ?_
  refine r_lookup 71 72 dX9_kindBy_1 (by decide) (by decide) rfl ?_
  refine r_bipush (-9) dX9_kindBy_72 rfl ?_
  refine r_ireturn rfl (by first | rfl | exact nar_bi _ | assumption) dX9_kindBy_74 ⟨_, rfl, ?_⟩
  exact K
def kdo (c : Nat → Nat) (N p : Nat) : Option Nat := if p < N then kd (c p) else none
theorem kdo_lt {c : Nat → Nat} {N p k : Nat} (h : kdo c N p = some k) : k < 6 := by
  unfold kdo at h
  split at h
  · have := fnd_lt _ _ _ h
    omega
  · cases h
theorem sp_kindBy2 {c : Nat → Nat} {N p : Nat} (hc : ∀ j, c j < 256) (K : Q (oI (kdo c N p)) σ) : Mi E mX9_kindBy [.int (hr c N p)] σ Q := by
  unfold hr
  unfold kdo at K
  by_cases h : p < N
  · rw [if_pos h] at K ⊢
    exact sp_X9_kindBy (hc p) K
  · rw [if_neg h] at K ⊢
    exact sp_kindByM K
theorem sp_X9_readsKind {c : Nat → Nat} {N p : Nat} (hL : LU σ c N) (hp : σ 15 3 = nI p) (hpb : p < 1000) (Ks : ∀ k τ, kdo c N p = some k → Sm σ τ → τ 15 3 = nI (p + 1) → τ 14 0 = nI k → Q 1 τ) (Kn : ∀ τ, kdo c N p = none → Sm σ τ → τ 15 3 = nI p → Q 0 τ) : Mi E mX9_readsKind [.ref (ad E 18 0)] σ Q := by
  obtain ⟨l1, l2, l3, l4⟩ := id hL
  refine Mw_of (L0 := [some (.ref (ad E 18 0))]) pn_X9 rfl rfl (Nat.le_of_ble_eq_true rfl) ?_
  refine r_aload_n dX9_readsKind_0 rfl ?_
  refine getX9_31 rfl dX9_readsKind_1 ?_
  refine r_iconst (0) dX9_readsKind_4 rfl ?_
  refine r_aload_n dX9_readsKind_5 rfl ?_
  refine cV_i0 fX9_here rcv_18 lkX9_99 rfl dX9_readsKind_6 (sp_X9_here hL hp hpb ?_)
  refine cS_i1 fX9_kindBy lkX9_103 rfl dX9_readsKind_9 (sp_kindBy2 l2 ?_)
  refine st_23 (t := 0)  (by omega) dX9_readsKind_12 ?_
  cases hk : kdo c N p with
  | none =>
    rw [oI_none]
    refine r_aload_n dX9_readsKind_13 rfl ?_
    refine r_dup dX9_readsKind_14 rfl ?_
    refine getX9_96 rfl dX9_readsKind_15 ?_
    rw [s2_n15, hp]
    refine r_aload_n dX9_readsKind_18 rfl ?_
    refine getX9_31 rfl dX9_readsKind_19 ?_
    refine r_iconst (0) dX9_readsKind_22 rfl ?_
    refine ld_23 (t := 0)  (by omega) dX9_readsKind_23 ?_
    rw [s2_n]
    refine r_if_ge 31 dX9_readsKind_24 rfl (fun h24 => ?_) (fun h24 => ?_)
    · exact absurd h24 (by decide)
    · refine r_iconst (0) dX9_readsKind_27 rfl ?_
      refine r_goto 32 dX9_readsKind_28 rfl ?_
      refine r_iadd dX9_readsKind_32 ?_
      refine putX9_96 rfl dX9_readsKind_33 ?_
      refine r_aload_n dX9_readsKind_36 rfl ?_
      refine getX9_31 rfl dX9_readsKind_37 ?_
      refine r_iconst (0) dX9_readsKind_40 rfl ?_
      refine ld_23 (t := 0)  (by omega) dX9_readsKind_41 ?_
      rw [show (s2 (s2 σ 14 0 (-9)) 15 3 (nI p + 0)) 14 0 = -9 from by rw [s2_p14, s2_n]]
      refine r_if_lt 49 dX9_readsKind_42 rfl (fun h42 => ?_) (fun h42 => ?_)
      · refine r_iconst (0) dX9_readsKind_49 rfl ?_
        refine r_ireturn rfl (by first | rfl | exact nar_bi _ | assumption) dX9_readsKind_50 ⟨_, rfl, ?_⟩
        exact Kn _ hk (Sm_tr Sm_n Sm_p) (by rw [s2_p]; exact Int32.add_zero _)
      · exact absurd (by decide) h42
  | some k =>
    have hk6 := kdo_lt hk
    rw [oI_some]
    refine r_aload_n dX9_readsKind_13 rfl ?_
    refine r_dup dX9_readsKind_14 rfl ?_
    refine getX9_96 rfl dX9_readsKind_15 ?_
    rw [s2_n15, hp]
    refine r_aload_n dX9_readsKind_18 rfl ?_
    refine getX9_31 rfl dX9_readsKind_19 ?_
    refine r_iconst (0) dX9_readsKind_22 rfl ?_
    refine ld_23 (t := 0)  (by omega) dX9_readsKind_23 ?_
    rw [s2_n]
    refine r_if_ge 31 dX9_readsKind_24 rfl (fun h24 => ?_) (fun h24 => ?_)
    · refine r_iconst (1) dX9_readsKind_31 rfl ?_
      refine r_iadd dX9_readsKind_32 ?_
      rw [nI_1]
      refine putX9_96 rfl dX9_readsKind_33 ?_
      refine r_aload_n dX9_readsKind_36 rfl ?_
      refine getX9_31 rfl dX9_readsKind_37 ?_
      refine r_iconst (0) dX9_readsKind_40 rfl ?_
      refine ld_23 (t := 0)  (by omega) dX9_readsKind_41 ?_
      rw [s2_p14, s2_n]
      refine r_if_lt 49 dX9_readsKind_42 rfl (fun h42 => ?_) (fun h42 => ?_)
      · exact absurd h42 (nI_pos (by omega))
      · refine r_iconst (1) dX9_readsKind_45 rfl ?_
        refine r_goto 50 dX9_readsKind_46 rfl ?_
        refine r_ireturn rfl (by first | rfl | exact nar_bi _ | assumption) dX9_readsKind_50 ⟨_, rfl, ?_⟩
        exact Ks k _ hk (Sm_tr Sm_n Sm_p) s2_p (by rw [s2_p14, s2_n])
    · exact absurd (Int32.not_lt.mp (nI_pos (n := k) (by omega))) h24
theorem hr_d {c : Nat → Nat} {N p : Nat} (hc : ∀ j, c j < 256) : (48 ≤ hr c N p ∧ hr c N p ≤ 57) ↔ dgt c N p := by
  unfold hr dgt
  by_cases h : p < N
  · have := hc p
    rw [if_pos h]
    constructor
    · rintro ⟨a, b⟩
      exact ⟨h, (nI_leI (a := 48) (by omega) (by omega)).mp a, (nI_leI (b := 57) (by omega) (by omega)).mp b⟩
    · rintro ⟨-, a, b⟩
      exact ⟨(nI_leI (a := 48) (by omega) (by omega)).mpr a, (nI_leI (b := 57) (by omega) (by omega)).mpr b⟩
  · rw [if_neg h]
    exact ⟨fun q => absurd q.1 (by decide), fun q => absurd q.1 h⟩
theorem sp_X9_readsNumber {c : Nat → Nat} {N p q d : Nat} (hL : LU σ c N) (hp : σ 15 3 = nI p) (hpb : p < 900) (hq : q < 3) (hd : d ≤ 3) (Ks : ∀ τ, (∀ i, i < d → dgt c N (p + i)) → Sm σ τ → τ 15 3 = nI (p + d) → τ 14 q = nI (num c p d) → (∀ j, j ≠ q → τ 14 j = σ 14 j) → Q 1 τ) (Kn : ∀ τ i, i < d → (∀ j, j < i → dgt c N (p + j)) → ¬ dgt c N (p + i) → Sm σ τ → τ 15 3 = nI (p + i) → Q 0 τ) : Mi E mX9_readsNumber [.ref (ad E 18 0), .int (nI q), .int (nI d)] σ Q := by
  obtain ⟨l1, l2, l3, l4⟩ := id hL
  refine Mw_of (L0 := [some (.ref (ad E 18 0)), some (.int (nI q)), some (.int (nI d)), none]) pn_X9 rfl rfl (Nat.le_of_ble_eq_true rfl) ?_
  refine r_aload_n dX9_readsNumber_0 rfl ?_
  refine getX9_31 rfl dX9_readsNumber_1 ?_
  refine r_iload_n dX9_readsNumber_4 rfl ?_
  refine r_iconst (0) dX9_readsNumber_5 rfl ?_
  refine st_23  (by omega) dX9_readsNumber_6 ?_
  refine r_iconst (0) dX9_readsNumber_7 rfl ?_
  refine r_istore_n_3 dX9_readsNumber_8 rfl ?_
  have LOOP : ∀ i, i ≤ d → ∀ τ, (∀ j, j < i → dgt c N (p + j)) → Sm σ τ → τ 15 3 = nI (p + i) → τ 14 q = nI (num c p i) → (∀ j, j ≠ q → τ 14 j = σ 14 j) → GW E (ZM E 1 fun v σ' => ∃ r, v = some (.int r) ∧ Q r σ') mX9_readsNumber 9 [some (.ref (ad E 18 0)), some (.int (nI q)), some (.int (nI d)), some (.int (nI i))] [] τ := by
    refine down ?_ ?_
    · intro τ h1 h2 h3 h4 h5
      refine r_iload_n dX9_readsNumber_9 rfl ?_
      refine r_iload_n dX9_readsNumber_10 rfl ?_
      refine r_icmp_ge_N 69 dX9_readsNumber_11 rfl (by omega) (by omega) (fun h11 => ?_) (fun h11 => ?_)
      · refine r_iconst (1) dX9_readsNumber_69 rfl ?_
        refine r_ireturn rfl (by first | rfl | exact nar_bi _ | assumption) dX9_readsNumber_70 ⟨_, rfl, ?_⟩
        exact Ks τ h1 h2 h3 h4 h5
      · exfalso; omega
    · intro i hi ih τ h1 h2 h3 h4 h5
      have hLt := LU_Sm hL h2
      refine r_iload_n dX9_readsNumber_9 rfl ?_
      refine r_iload_n dX9_readsNumber_10 rfl ?_
      refine r_icmp_ge_N 69 dX9_readsNumber_11 rfl (by omega) (by omega) (fun h11 => ?_) (fun h11 => ?_)
      · exfalso; omega
      · refine r_aload_n dX9_readsNumber_14 rfl ?_
        refine cV_i0 fX9_here rcv_18 lkX9_99 rfl dX9_readsNumber_15 (sp_X9_here hLt h3 (by omega) ?_)
        refine r_bipush (48) dX9_readsNumber_18 rfl ?_
        refine r_bipush (57) dX9_readsNumber_20 rfl ?_
        refine cS_i3 fX9_isIn lkX9_40 rfl dX9_readsNumber_22 (sp_X9_isIn  ?_)
        refine r_if_ne 30 dX9_readsNumber_25 rfl (fun h25 => ?_) (fun h25 => ?_)
        · have hg : dgt c N (p + i) := (hr_d l2).mp (of_decide_eq_true (tb_of h25))
          have eh : hr c N (p + i) = nI (c (p + i)) := if_pos hg.1
          refine r_aload_n dX9_readsNumber_30 rfl ?_
          refine getX9_31 rfl dX9_readsNumber_31 ?_
          refine r_iload_n dX9_readsNumber_34 rfl ?_
          refine r_bipush (10) dX9_readsNumber_35 rfl ?_
          refine r_aload_n dX9_readsNumber_37 rfl ?_
          refine getX9_31 rfl dX9_readsNumber_38 ?_
          refine r_iload_n dX9_readsNumber_41 rfl ?_
          refine ld_23  (by omega) dX9_readsNumber_42 ?_
          rw [h4]
          refine r_imul dX9_readsNumber_43 ?_
          refine r_aload_n dX9_readsNumber_44 rfl ?_
          refine cV_i0 fX9_here rcv_18 lkX9_99 rfl dX9_readsNumber_45 (sp_X9_here hLt h3 (by omega) ?_)
          rw [eh]
          refine r_iadd dX9_readsNumber_48 ?_
          refine r_bipush (48) dX9_readsNumber_49 rfl ?_
          refine r_isub dX9_readsNumber_51 ?_
          rw [dig_e hg.2.1]
          refine st_23  (by omega) dX9_readsNumber_52 ?_
          refine r_aload_n dX9_readsNumber_53 rfl ?_
          refine r_dup dX9_readsNumber_54 rfl ?_
          refine getX9_96 rfl dX9_readsNumber_55 ?_
          rw [s2_n15, h3]
          refine r_iconst (1) dX9_readsNumber_58 rfl ?_
          refine r_iadd dX9_readsNumber_59 ?_
          rw [nI_1]
          refine putX9_96 rfl dX9_readsNumber_60 ?_
          refine r_inc1_3 dX9_readsNumber_63 rfl ?_
          refine r_goto 9 dX9_readsNumber_66 rfl ?_
          refine ih _ (fun j hj => ?_) (Sm_tr h2 (Sm_tr Sm_n Sm_p)) s2_p (by rw [s2_p14, s2_n]; rfl) (fun j hj => by rw [s2_p14, s2_nn hj]; exact h5 j hj)
          by_cases e : j = i
          · rw [e]; exact hg
          · exact h1 j (by omega)
        · have hg : ¬ dgt c N (p + i) := fun q => absurd ((bi_eq0 _).mp h25) (by rw [decide_eq_true ((hr_d l2).mpr q)]; decide)
          refine r_iconst (0) dX9_readsNumber_28 rfl ?_
          refine r_ireturn rfl (by first | rfl | exact nar_bi _ | assumption) dX9_readsNumber_29 ⟨_, rfl, ?_⟩
          exact Kn τ i hi h1 hg h2 h3
  exact LOOP 0 (by omega) _ (fun j hj => by omega) Sm_n (by rw [s2_n15]; exact hp) s2_n (fun j hj => s2_nn hj)
end READ9
