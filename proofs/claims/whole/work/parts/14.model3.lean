/-! ===== the twin's statics: a day, days on ===== -/
section MODEL3
variable {E : EnvT} {σ : Sg} {Q : Int32 → Sg → Prop} {Qv : Sg → Prop}
theorem fnd_lt {P : Nat → Bool} : ∀ (m k j : Nat), fnd P k m = some j → k ≤ j ∧ j < k + m
  | 0, k, j, h => by cases h
  | m + 1, k, j, h => by
    unfold fnd at h
    split at h
    · cases h; omega
    · have := fnd_lt m (k + 1) j h; omega
theorem rndW_lt {r : Row} {n p o : Nat} (hn : 0 < n) (h : rndW r n p = some o) : o < n := by
  unfold rndW at h
  obtain ⟨k, -, rfl⟩ := Option.map_eq_some_iff.mp h
  exact Nat.mod_lt _ hn
theorem rndB_lt {r : Row} {n p o : Nat} (hn : 0 < n) (h : rndB r n p = some o) : o < n := by
  unfold rndB at h
  obtain ⟨k, -, rfl⟩ := Option.map_eq_some_iff.mp h
  exact Nat.mod_lt _ hn
theorem fromW_lt {r : Row} {n p o : Nat} (hn : 0 < n) (h : fromW r n p = some o) : o < n := by
  unfold fromW at h
  split at h
  · exact rich_lt _ _ _ _ h
  · split at h
    · exact rndB_lt hn h
    · split at h
      · unfold lst at h
        have := fnd_lt _ _ _ h
        omega
      · exact rndW_lt hn h
theorem sp_X9_fromWhom {a p n : Nat} (ha : 2 < a ∧ a < 7) (hn : σ a 0 = nI n) (hn6 : n ≤ 6) (hp : p < n) (K : Q (oI (fromW (σ a) n p)) σ) : Mi E mX9_fromWhom [.ref (ad E 19 a), .int (nI p)] σ Q := by
  unfold fromW at K
  refine Mw_of (L0 := [some (.ref (ad E 19 a)), some (.int (nI p))]) pn_X9 rfl rfl (Nat.le_of_ble_eq_true rfl) ?_
  refine r_aload_n dX9_fromWhom_0 rfl ?_
  refine r_iload_n dX9_fromWhom_1 rfl ?_
  refine r_iconst (0) dX9_fromWhom_2 rfl ?_
  refine cS_i2 fX9_of lkX9_44 rfl dX9_fromWhom_3 (sp_of0  ?_)
  refine ld_19  (by omega) (by omega) dX9_fromWhom_6 ?_
  generalize hx : σ a (3 + 5 * p) = x at K ⊢
  by_cases h1 : x = 1
  · subst h1
    rw [if_pos (Or.inl rfl)] at K
    refine r_tableIn 33 40 dX9_fromWhom_7 (by decide) (by decide) rfl rfl ?_
    refine r_aload_n dX9_fromWhom_40 rfl ?_
    refine r_iload_n dX9_fromWhom_41 rfl ?_
    refine cS_i2 fX9_richestFrom lkX9_55 rfl dX9_fromWhom_42 (sp_X9_richestFrom ha hn hn6 hp ?_)
    refine r_ireturn rfl (by first | rfl | exact nar_bi _ | assumption) dX9_fromWhom_45 ⟨_, rfl, ?_⟩
    exact K
  · by_cases h3 : x = 3
    · subst h3
      rw [if_pos (Or.inr rfl)] at K
      refine r_tableIn 33 40 dX9_fromWhom_7 (by decide) (by decide) rfl rfl ?_
      refine r_aload_n dX9_fromWhom_40 rfl ?_
      refine r_iload_n dX9_fromWhom_41 rfl ?_
      refine cS_i2 fX9_richestFrom lkX9_55 rfl dX9_fromWhom_42 (sp_X9_richestFrom ha hn hn6 hp ?_)
      refine r_ireturn rfl (by first | rfl | exact nar_bi _ | assumption) dX9_fromWhom_45 ⟨_, rfl, ?_⟩
      exact K
    · rw [if_neg (fun q => q.elim h1 h3)] at K
      by_cases h2 : x = 2
      · subst h2
        rw [if_pos (Or.inl rfl)] at K
        refine r_tableIn 39 46 dX9_fromWhom_7 (by decide) (by decide) rfl rfl ?_
        refine r_aload_n dX9_fromWhom_46 rfl ?_
        refine r_iload_n dX9_fromWhom_47 rfl ?_
        refine r_iconst (-1) dX9_fromWhom_48 rfl ?_
        refine cS_i3 fX9_roundFrom lkX9_59 rfl dX9_fromWhom_49 (sp_roundB ha hn hn6 hp ?_)
        refine r_ireturn rfl (by first | rfl | exact nar_bi _ | assumption) dX9_fromWhom_52 ⟨_, rfl, ?_⟩
        exact K
      · by_cases h4 : x = 4
        · subst h4
          rw [if_pos (Or.inr rfl)] at K
          refine r_tableIn 39 46 dX9_fromWhom_7 (by decide) (by decide) rfl rfl ?_
          refine r_aload_n dX9_fromWhom_46 rfl ?_
          refine r_iload_n dX9_fromWhom_47 rfl ?_
          refine r_iconst (-1) dX9_fromWhom_48 rfl ?_
          refine cS_i3 fX9_roundFrom lkX9_59 rfl dX9_fromWhom_49 (sp_roundB ha hn hn6 hp ?_)
          refine r_ireturn rfl (by first | rfl | exact nar_bi _ | assumption) dX9_fromWhom_52 ⟨_, rfl, ?_⟩
          exact K
        · rw [if_neg (fun q => q.elim h2 h4)] at K
          by_cases h5 : x = 5
          · subst h5
            rw [if_pos rfl] at K
            refine r_tableIn 46 53 dX9_fromWhom_7 (by decide) (by decide) rfl rfl ?_
            refine r_aload_n dX9_fromWhom_53 rfl ?_
            refine r_iload_n dX9_fromWhom_54 rfl ?_
            refine cS_i2 fX9_leastFrom lkX9_62 rfl dX9_fromWhom_55 (sp_X9_leastFrom ha hn hn6 hp ?_)
            refine r_ireturn rfl (by first | rfl | exact nar_bi _ | assumption) dX9_fromWhom_58 ⟨_, rfl, ?_⟩
            exact K
          · rw [if_neg h5] at K
            have n1 := i32_ne (v := 1) 1 rfl h1
            have n2 := i32_ne (v := 2) 2 rfl h2
            have n3 := i32_ne (v := 3) 3 rfl h3
            have n4 := i32_ne (v := 4) 4 rfl h4
            have n5 := i32_ne (v := 5) 5 rfl h5
            refine r_tableOut 59 dX9_fromWhom_7 (by omega) rfl ?_
            refine r_aload_n dX9_fromWhom_59 rfl ?_
            refine r_iload_n dX9_fromWhom_60 rfl ?_
            refine r_iconst (1) dX9_fromWhom_61 rfl ?_
            refine cS_i3 fX9_roundFrom lkX9_59 rfl dX9_fromWhom_62 (sp_roundW ha hn hn6 hp ?_)
            refine r_ireturn rfl (by first | rfl | exact nar_bi _ | assumption) dX9_fromWhom_65 ⟨_, rfl, ?_⟩
            exact K
theorem whc_lt {last : Bool} {set : Int32} : ∀ k d, whc last set k = some d → d < k
  | 0, d, h => by cases h
  | k + 1, d, h => by
    unfold whc at h
    split at h
    · cases h; omega
    · have := whc_lt k d h; omega
theorem sp_X9_whichOf {a p o : Nat} (ha : 2 < a ∧ a < 7) (hp : p < 6) (ho : o < 6) (K : Q (oI (whc (isLst (σ a (3 + 5 * p))) (wnt (σ a) p o) 7)) σ) : Mi E mX9_whichOf [.ref (ad E 19 a), .int (nI p), .int (nI o)] σ Q := by
  have LOOP : ∀ (last : Bool), last = isLst (σ a (3 + 5 * p)) → ∀ k, k ≤ 7 → GW E (ZM E 2 fun v σ' => ∃ r, v = some (.int r) ∧ Q r σ') mX9_whichOf 43 [some (.ref (ad E 19 a)), some (.int (nI p)), some (.int (nI o)), some (.int (bi last)), some (.int (wnt (σ a) p o)), some (.int (oI (whc last (wnt (σ a) p o) k))), some (.int (nI k))] [] σ := by
    intro last hl
    refine down ?_ ?_
    · refine r_iload dX9_whichOf_43 rfl ?_
      refine r_bipush (7) dX9_whichOf_45 rfl ?_
      refine r_icmp_ge_N (b := 7) 79 dX9_whichOf_47 rfl (by omega) (by omega) (fun h47 => ?_) (fun h47 => ?_)
      · refine r_iload dX9_whichOf_79 rfl ?_
        refine r_ireturn rfl (by first | rfl | exact nar_bi _ | assumption) dX9_whichOf_81 ⟨_, rfl, ?_⟩
        rw [hl]
        exact K
      · exfalso; omega
    · intro k hk ih
      rw [whc] at ih
      refine r_iload dX9_whichOf_43 rfl ?_
      refine r_bipush (7) dX9_whichOf_45 rfl ?_
      refine r_icmp_ge_N (b := 7) 79 dX9_whichOf_47 rfl (by omega) (by omega) (fun h47 => ?_) (fun h47 => ?_)
      · exfalso; omega
      · refine r_iload dX9_whichOf_50 rfl ?_
        refine r_iload dX9_whichOf_52 rfl ?_
        refine cS_i2 fX9_has lkX9_65 rfl dX9_whichOf_54 (sp_X9_has  ?_)
        refine r_if_eq 73 dX9_whichOf_57 rfl (fun h57 => ?_) (fun h57 => ?_)
        · refine r_inc1_6 dX9_whichOf_73 rfl ?_
          refine r_goto 43 dX9_whichOf_76 rfl ?_
          rw [if_neg (fun q => by have := (bi_eq0 _).mp h57; rw [q.1] at this; cases this)] at ih
          exact ih
        · have hb : tb (wnt (σ a) p o) (nI k) = true := by
            cases hb : tb (wnt (σ a) p o) (nI k) with
            | true => rfl
            | false => exact absurd ((bi_eq0 _).mpr hb) h57
          cases hw : whc last (wnt (σ a) p o) k with
          | none =>
            rw [hw, if_pos ⟨hb, Or.inl rfl⟩] at ih
            rw [oI_none]
            refine r_iload dX9_whichOf_60 rfl ?_
            refine r_if_lt 69 dX9_whichOf_62 rfl (fun h62 => ?_) (fun h62 => ?_)
            · refine r_iload dX9_whichOf_69 rfl ?_
              refine r_istore_5 dX9_whichOf_71 rfl ?_
              refine r_inc1_6 dX9_whichOf_73 rfl ?_
              refine r_goto 43 dX9_whichOf_76 rfl ?_
              exact ih
            · exact absurd (by decide) h62
          | some d =>
            have hd := whc_lt _ _ hw
            rw [hw] at ih
            rw [oI_some]
            refine r_iload dX9_whichOf_60 rfl ?_
            refine r_if_lt 69 dX9_whichOf_62 rfl (fun h62 => ?_) (fun h62 => ?_)
            · exact absurd h62 (nI_pos (by omega))
            · refine r_iload_n dX9_whichOf_65 rfl ?_
              refine r_if_eq 73 dX9_whichOf_66 rfl (fun h66 => ?_) (fun h66 => ?_)
              · refine r_inc1_6 dX9_whichOf_73 rfl ?_
                refine r_goto 43 dX9_whichOf_76 rfl ?_
                rw [if_neg (fun q => by
                  have h0 := (bi_eq0 _).mp h66
                  rcases q.2 with z | z
                  · cases z
                  · rw [z] at h0; cases h0)] at ih
                exact ih
              · refine r_iload dX9_whichOf_69 rfl ?_
                refine r_istore_5 dX9_whichOf_71 rfl ?_
                refine r_inc1_6 dX9_whichOf_73 rfl ?_
                refine r_goto 43 dX9_whichOf_76 rfl ?_
                rw [if_pos ⟨hb, Or.inr (by
                  cases last with
                  | true => rfl
                  | false => exact absurd rfl h66)⟩] at ih
                exact ih
  refine Mw_of (L0 := [some (.ref (ad E 19 a)), some (.int (nI p)), some (.int (nI o)), none, none, none, none]) pn_X9 rfl rfl (Nat.le_of_ble_eq_true rfl) ?_
  refine r_aload_n dX9_whichOf_0 rfl ?_
  refine r_iload_n dX9_whichOf_1 rfl ?_
  refine r_iconst (0) dX9_whichOf_2 rfl ?_
  refine cS_i2 fX9_of lkX9_44 rfl dX9_whichOf_3 (sp_of0  ?_)
  refine ld_19  (by omega) (by omega) dX9_whichOf_6 ?_
  refine r_iconst (3) dX9_whichOf_7 rfl ?_
  refine r_icmp_eq 22 dX9_whichOf_8 rfl (fun h8 => ?_) (fun h8 => ?_)
  · refine r_iconst (1) dX9_whichOf_22 rfl ?_
    refine r_goto 27 dX9_whichOf_23 rfl ?_
    refine r_istore_n_3 dX9_whichOf_27 rfl ?_
    refine r_aload_n dX9_whichOf_28 rfl ?_
    refine r_iload_n dX9_whichOf_29 rfl ?_
    refine r_iload_n dX9_whichOf_30 rfl ?_
    refine cS_i3 fX9_wanted lkX9_48 rfl dX9_whichOf_31 (sp_X9_wanted ha hp ho ?_)
    refine r_istore_4 dX9_whichOf_34 rfl ?_
    refine r_bipush (-9) dX9_whichOf_36 rfl ?_
    refine r_istore_5 dX9_whichOf_38 rfl ?_
    refine r_iconst (0) dX9_whichOf_40 rfl ?_
    refine r_istore_6 dX9_whichOf_41 rfl ?_
    exact LOOP true (by unfold isLst; rw [h8]; rfl) 0 (by omega)
  · refine r_aload_n dX9_whichOf_11 rfl ?_
    refine r_iload_n dX9_whichOf_12 rfl ?_
    refine r_iconst (0) dX9_whichOf_13 rfl ?_
    refine cS_i2 fX9_of lkX9_44 rfl dX9_whichOf_14 (sp_of0  ?_)
    refine ld_19  (by omega) (by omega) dX9_whichOf_17 ?_
    refine r_iconst (5) dX9_whichOf_18 rfl ?_
    refine r_icmp_ne 26 dX9_whichOf_19 rfl (fun h19 => ?_) (fun h19 => ?_)
    · refine r_iconst (0) dX9_whichOf_26 rfl ?_
      refine r_istore_n_3 dX9_whichOf_27 rfl ?_
      refine r_aload_n dX9_whichOf_28 rfl ?_
      refine r_iload_n dX9_whichOf_29 rfl ?_
      refine r_iload_n dX9_whichOf_30 rfl ?_
      refine cS_i3 fX9_wanted lkX9_48 rfl dX9_whichOf_31 (sp_X9_wanted ha hp ho ?_)
      refine r_istore_4 dX9_whichOf_34 rfl ?_
      refine r_bipush (-9) dX9_whichOf_36 rfl ?_
      refine r_istore_5 dX9_whichOf_38 rfl ?_
      refine r_iconst (0) dX9_whichOf_40 rfl ?_
      refine r_istore_6 dX9_whichOf_41 rfl ?_
      exact LOOP false (by unfold isLst; simp [h8, h19]) 0 (by omega)
    · refine r_iconst (1) dX9_whichOf_22 rfl ?_
      refine r_goto 27 dX9_whichOf_23 rfl ?_
      refine r_istore_n_3 dX9_whichOf_27 rfl ?_
      refine r_aload_n dX9_whichOf_28 rfl ?_
      refine r_iload_n dX9_whichOf_29 rfl ?_
      refine r_iload_n dX9_whichOf_30 rfl ?_
      refine cS_i3 fX9_wanted lkX9_48 rfl dX9_whichOf_31 (sp_X9_wanted ha hp ho ?_)
      refine r_istore_4 dX9_whichOf_34 rfl ?_
      refine r_bipush (-9) dX9_whichOf_36 rfl ?_
      refine r_istore_5 dX9_whichOf_38 rfl ?_
      refine r_iconst (0) dX9_whichOf_40 rfl ?_
      refine r_istore_6 dX9_whichOf_41 rfl ?_
      exact LOOP true (by unfold isLst; rw [h19]; rfl) 0 (by omega)
theorem sp_X9_movesDay {a f t : Nat} {d : Int32} (ha : 2 < a ∧ a < 7) (hf : f < 6) (ht : t < 6) (K : Qv (va_up σ a (mvd (σ a) f t d))) : Mv E mX9_movesDay [.ref (ad E 19 a), .int (nI f), .int (nI t), .int d] σ Qv := by
  refine Mw_of (L0 := [some (.ref (ad E 19 a)), some (.int (nI f)), some (.int (nI t)), some (.int d)]) pn_X9 rfl rfl (Nat.le_of_ble_eq_true rfl) ?_
  refine r_aload_n dX9_movesDay_0 rfl ?_
  refine r_iload_n dX9_movesDay_1 rfl ?_
  refine r_iconst (2) dX9_movesDay_2 rfl ?_
  refine cS_i2 fX9_of lkX9_44 rfl dX9_movesDay_3 (sp_of2  ?_)
  refine r_dup2 dX9_movesDay_6 rfl rfl ?_
  refine ld_19  (by omega) (by omega) dX9_movesDay_7 ?_
  refine r_iconst (1) dX9_movesDay_8 rfl ?_
  refine r_iload_n dX9_movesDay_9 rfl ?_
  refine r_ishl dX9_movesDay_10 ?_
  refine r_iconst (-1) dX9_movesDay_11 rfl ?_
  refine r_ixor dX9_movesDay_12 ?_
  refine r_iand dX9_movesDay_13 ?_
  refine st_19  (by omega) (by omega) dX9_movesDay_14 ?_
  refine r_aload_n dX9_movesDay_15 rfl ?_
  refine r_iload_n dX9_movesDay_16 rfl ?_
  refine r_iconst (2) dX9_movesDay_17 rfl ?_
  refine cS_i2 fX9_of lkX9_44 rfl dX9_movesDay_18 (sp_of2  ?_)
  refine r_dup2 dX9_movesDay_21 rfl rfl ?_
  refine ld_19  (by omega) (by omega) dX9_movesDay_22 ?_
  refine r_iconst (1) dX9_movesDay_23 rfl ?_
  refine r_iload_n dX9_movesDay_24 rfl ?_
  refine r_ishl dX9_movesDay_25 ?_
  refine r_ior dX9_movesDay_26 ?_
  refine st_19  (by omega) (by omega) dX9_movesDay_27 ?_
  refine r_return rfl dX9_movesDay_28 ⟨rfl, ?_⟩
  exact qofv K (by simp only [s2, up_at, up_up, mvd])
theorem mvd_0 {r : Row} {f t : Nat} {d : Int32} {j : Nat} (hj : j < 3) : mvd r f t d j = r j := by
  unfold mvd upd
  rw [if_neg (by omega), if_neg (by omega)]
theorem mvd_k {r : Row} {f t p : Nat} {d : Int32} {w : Nat} (hw : w ≠ 5) (hw3 : 3 ≤ w) (hw7 : w ≤ 7) : mvd r f t d (w + 5 * p) = r (w + 5 * p) := by
  unfold mvd upd
  rw [if_neg (by omega), if_neg (by omega)]
theorem sp_X9_isPaid {a p n : Nat} (ha : 2 < a ∧ a < 7) (hn : σ a 0 = nI n) (hn6 : n ≤ 6) (hp : p < n) (K : Qv (va_up σ a (payR (σ a) n p))) : Mv E mX9_isPaid [.ref (ad E 19 a), .int (nI p)] σ Qv := by
  unfold payR at K
  refine Mw_of (L0 := [some (.ref (ad E 19 a)), some (.int (nI p)), none]) pn_X9 rfl rfl (Nat.le_of_ble_eq_true rfl) ?_
  refine r_aload_n dX9_isPaid_0 rfl ?_
  refine r_iload_n dX9_isPaid_1 rfl ?_
  refine cS_i2 fX9_fromWhom lkX9_69 rfl dX9_isPaid_2 (sp_X9_fromWhom ha hn hn6 hp ?_)
  refine r_istore_n_2 dX9_isPaid_5 rfl ?_
  cases hf : fromW (σ a) n p with
  | none =>
    rw [hf] at K
    dsimp only at K
    rw [oI_none]
    refine r_iload_n dX9_isPaid_6 rfl ?_
    refine r_if_ge 11 dX9_isPaid_7 rfl (fun h7 => ?_) (fun h7 => ?_)
    · exact absurd h7 (by decide)
    · refine r_return rfl dX9_isPaid_10 ⟨rfl, ?_⟩
      rw [up_same] at K
      exact K
  | some o =>
    have ho := fromW_lt (by omega) hf
    rw [hf] at K
    dsimp only at K
    rw [oI_some]
    refine r_iload_n dX9_isPaid_6 rfl ?_
    refine r_if_ge 11 dX9_isPaid_7 rfl (fun h7 => ?_) (fun h7 => ?_)
    · refine r_aload_n dX9_isPaid_11 rfl ?_
      refine r_iload_n dX9_isPaid_12 rfl ?_
      refine r_iload_n dX9_isPaid_13 rfl ?_
      refine r_aload_n dX9_isPaid_14 rfl ?_
      refine r_iload_n dX9_isPaid_15 rfl ?_
      refine r_iload_n dX9_isPaid_16 rfl ?_
      refine cS_i3 fX9_whichOf lkX9_72 rfl dX9_isPaid_17 (sp_X9_whichOf ha (by omega) (by omega) ?_)
      refine cS_v4 fX9_movesDay lkX9_75 rfl dX9_isPaid_20 (sp_X9_movesDay ha (by omega) (by omega) ?_)
      refine r_aload_n dX9_isPaid_23 rfl ?_
      refine r_iconst (2) dX9_isPaid_24 rfl ?_
      refine r_sipush (9999) dX9_isPaid_25 rfl ?_
      refine r_aload_n dX9_isPaid_28 rfl ?_
      refine r_iconst (2) dX9_isPaid_29 rfl ?_
      refine ld_19 (t := 2)  (by omega) (by omega) dX9_isPaid_30 ?_
      refine r_iconst (1) dX9_isPaid_31 rfl ?_
      refine r_iadd dX9_isPaid_32 ?_
      refine cS_i2 fX9_least lkX9_79 rfl dX9_isPaid_33 (sp_X9_least  ?_)
      refine st_19 (t := 2)  (by omega) (by omega) dX9_isPaid_36 ?_
      refine r_aload_n dX9_isPaid_37 rfl ?_
      refine r_iload_n dX9_isPaid_38 rfl ?_
      refine r_iconst (4) dX9_isPaid_39 rfl ?_
      refine cS_i2 fX9_of lkX9_44 rfl dX9_isPaid_40 (sp_of4  ?_)
      refine r_iconst (0) dX9_isPaid_43 rfl ?_
      refine st_19  (by omega) (by omega) dX9_isPaid_44 ?_
      refine r_return rfl dX9_isPaid_45 ⟨rfl, ?_⟩
      exact qofv K (by simp only [s2, up_at, up_up])
    · exact absurd (nI_pos' (by omega)) h7
end MODEL3
