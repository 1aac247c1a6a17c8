/-! ===== falls in the class; still on both sides ===== -/
section PUBF
variable {E : EnvT} {σ : Sg} {Q : Int32 → Sg → Prop} {Qv : Sg → Prop}
theorem fnd_some {P : Nat → Bool} : ∀ (m k j : Nat), fnd P k m = some j → (k ≤ j ∧ j < k + m) ∧ P j = true ∧ ∀ i, k ≤ i → i < j → P i = false
  | 0, k, j, h => by cases h
  | m + 1, k, j, h => by
    unfold fnd at h
    split at h
    · rename_i hp
      cases h
      exact ⟨⟨Nat.le_refl _, by omega⟩, hp, fun i h1 h2 => by omega⟩
    · rename_i hp
      obtain ⟨⟨a, b⟩, c, d⟩ := fnd_some m (k + 1) j h
      refine ⟨⟨by omega, by omega⟩, c, fun i h1 h2 => ?_⟩
      by_cases hik : i = k
      · rw [hik]; simpa using hp
      · exact d i (by omega) h2
theorem fnd_none {P : Nat → Bool} : ∀ (m k : Nat), fnd P k m = none → ∀ i, k ≤ i → i < k + m → P i = false
  | 0, k, h, i, h1, h2 => by omega
  | m + 1, k, h, i, h1, h2 => by
    unfold fnd at h
    split at h
    · cases h
    · rename_i hp
      by_cases hik : i = k
      · rw [hik]; simpa using hp
      · exact fnd_none m (k + 1) h i (by omega) (by omega)
theorem fnd_is {P : Nat → Bool} : ∀ (m k j : Nat), k ≤ j → j < k + m → P j = true → (∀ i, k ≤ i → i < j → P i = false) → fnd P k m = some j
  | 0, k, j, h1, h2, _, _ => by omega
  | m + 1, k, j, h1, h2, hp, hb => by
    unfold fnd
    by_cases hjk : j = k
    · rw [← hjk, if_pos hp]
    · rw [if_neg (by rw [hb k (Nat.le_refl _) (by omega)]; decide)]
      exact fnd_is m (k + 1) j (by omega) (by omega) hp (fun i a b => hb i (by omega) b)
theorem fnd_no {P : Nat → Bool} : ∀ (m k : Nat), (∀ i, k ≤ i → i < k + m → P i = false) → fnd P k m = none
  | 0, _, _ => rfl
  | m + 1, k, hb => by
    unfold fnd
    rw [if_neg (by rw [hb k (Nat.le_refl _) (by omega)]; decide)]
    exact fnd_no m (k + 1) (fun i a b => hb i (by omega) (by omega))
theorem fnd_congr {P P' : Nat → Bool} (h : ∀ k, P k = P' k) (k m : Nat) : fnd P k m = fnd P' k m := by
  rw [show P = P' from funext h]
theorem fel_bt {r : Row} {i : Nat} (hi : i < 32) : ∀ k, k ≤ 6 → bt (fel r k) i = (decide (i < k) && decide (20 ≤ r (6 + 5 * i)))
  | 0, _ => by rw [fel, b_0]; simp
  | k + 1, hk => by
    rw [fel]
    by_cases h20 : r (6 + 5 * k) < 20
    · rw [if_pos h20, fel_bt hi k (by omega)]
      by_cases hik : i = k
      · subst hik
        rw [decide_eq_false (p := 20 ≤ r (6 + 5 * i)) (Int32.not_le.mpr h20), Bool.and_false, Bool.and_false]
      · congr 1
        exact decide_eq_decide.mpr (by omega)
    · rw [if_neg h20, b_or, fel_bt hi k (by omega), b_sl1 (by omega) hi]
      by_cases hik : i = k
      · subst hik
        rw [decide_eq_true (p := 20 ≤ r (6 + 5 * i)) (Int32.not_lt.mp h20)]
        simp
      · rw [decide_eq_false hik, Bool.or_false]
        congr 1
        exact decide_eq_decide.mpr (by omega)
theorem and_sl {x : Int32} {p : Nat} (hp : p < 32) : (x &&& ((1 : Int32) <<< (nI p &&& 31)) == 0) = !bt x p := by
  cases hb : bt x p with
  | true =>
    have : ¬ x &&& ((1 : Int32) <<< (nI p &&& 31)) = 0 := fun e => by
      have h := b_and x ((1 : Int32) <<< (nI p &&& 31)) p
      rw [e, b_0, hb, b_sl1 hp hp, decide_eq_true rfl] at h
      cases h
    simp [this]
  | false =>
    have : x &&& ((1 : Int32) <<< (nI p &&& 31)) = 0 := b_ext (fun i hi => by
      rw [b_and, b_sl1 hp hi, b_0]
      by_cases h0 : i = p
      · rw [h0, hb]; rfl
      · rw [decide_eq_false h0, Bool.and_false])
    simp [this]
theorem dtf_one {r : Row} {n p : Nat} (hn : n ≤ 6) (hp : p < n) : dtf r n ((1 : Int32) <<< (nI p &&& 31)) 60 = fal r n p := by
  unfold dtf fal
  refine fnd_congr (fun k => ?_) 0 61
  rw [and_sl (by omega), Bool.not_not, fel_bt (by omega) n hn, decide_eq_true hp, Bool.true_and]
theorem bt_63 {i : Nat} (hi : i < 32) (h6 : i < 6) : bt 63 i = true := by
  rw [show (63 : Int32) = nI 63 from rfl, bt_nI hi]
  exact (by decide : ∀ i, i < 6 → (63).testBit i = true) i h6
theorem fel_63 {r : Row} {n : Nat} (hn : n ≤ 6) : fel r n &&& 63 = fel r n := b_ext (fun i hi => by
  rw [b_and, fel_bt hi n hn]
  by_cases h6 : i < 6
  · rw [bt_63 hi h6, Bool.and_true]
  · rw [decide_eq_false (p := i < n) (by omega), Bool.false_and, Bool.false_and])
theorem fel_R7 {r : Row} {n : Nat} (hn : n ≤ 6) : R7 (fel r n) := fun i h7 hi => by rw [fel_bt hi n hn, decide_eq_false (p := i < n) (by omega), Bool.false_and]
theorem whc_least {set : Int32} : ∀ k d, whc false set k = some d → ∀ j, j < d → tb set (nI j) = false
  | 0, d, h => by cases h
  | k + 1, d, h => by
    unfold whc at h
    split at h
    · rename_i hc
      cases h
      rcases hc.2 with h2 | h2
      · exact whc_none k h2
      · cases h2
    · exact whc_least k d h
theorem ffl_none {r : Row} {n : Nat} (h : ∀ p, p < n → fal r n p = none) : ∀ P, P ≤ n → ffl r n P = none
  | 0, _ => rfl
  | P + 1, hP => by
    unfold ffl
    rw [h P (by omega)]
    exact ffl_none h P (by omega)
theorem ffl_some {r : Row} {n k p0 : Nat} (hp0 : p0 < n) (h0 : fal r n p0 = some k) (hlt : ∀ q, q < p0 → ∀ b, fal r n q = some b → k < b) (hge : ∀ q, q < n → ∀ b, fal r n q = some b → k ≤ b) : ∀ P, P ≤ n → (P ≤ p0 → ∀ q b, ffl r n P = some (q, b) → k < b) ∧ (p0 < P → ffl r n P = some (p0, k))
  | 0, _ => ⟨fun _ q b h => (by cases h), fun h => (by omega)⟩
  | P + 1, hP => by
    obtain ⟨h1, h2⟩ := ffl_some hp0 h0 hlt hge P (by omega)
    refine ⟨fun hle q b h => ?_, fun hlt' => ?_⟩
    · have h1 := h1 (by omega)
      unfold ffl at h
      cases hf : fal r n P with
      | none => rw [hf] at h; exact h1 q b h
      | some d =>
        have hd := hlt P (by omega) d hf
        rw [hf] at h
        dsimp only at h
        cases hg : ffl r n P with
        | none => rw [hg] at h; cases h; exact hd
        | some x =>
          obtain ⟨q', b'⟩ := x
          have := h1 q' b' hg
          rw [hg] at h
          dsimp only at h
          split at h <;> cases h <;> assumption
    · unfold ffl
      by_cases hPp : P = p0
      · rw [hPp, h0]
        dsimp only
        cases hg : ffl r n p0 with
        | none => rfl
        | some x =>
          obtain ⟨q', b'⟩ := x
          have := h1 (by omega) q' b' (by rw [hPp]; exact hg)
          dsimp only
          rw [if_pos this]
      · rw [h2 (by omega)]
        cases hf : fal r n P with
        | none => rfl
        | some d =>
          have := hge P (by omega) d hf
          dsimp only
          rw [if_neg (by omega)]
theorem fel_tb {r : Row} {n p : Nat} (hn : n ≤ 6) (hp : p < n) : tb (fel r n) (nI p) = decide (20 ≤ r (6 + 5 * p)) := by
  rw [tb_bt _ (by omega), fel_bt (by omega) n hn, decide_eq_true hp, Bool.true_and]
theorem dtf_any {r : Row} {n : Nat} (hn : n ≤ 6) : (dtf r n 63 60 = none → ffl r n n = none) ∧ ∀ k, dtf r n 63 60 = some k → fel (dayN 0 n r k) n ≠ 0 ∧ ∀ p, whc false (fel (dayN 0 n r k) n) 7 = some p → ffl r n n = some (p, k) := by
  have e : dtf r n 63 60 = fnd (fun k => !(fel (dayN 0 n r k) n == 0)) 0 61 := by
    unfold dtf
    exact fnd_congr (fun k => by rw [fel_63 hn]) 0 61
  rw [e]
  have T : ∀ k, (!(fel (dayN 0 n r k) n == 0)) = false → ∀ p, p < n → decide (20 ≤ dayN 0 n r k (6 + 5 * p)) = false := by
    intro k hk p hp
    have hz : fel (dayN 0 n r k) n = 0 := by simpa using hk
    rw [← fel_tb hn hp, tb_bt _ (by omega), hz]
    exact b_0 p
  constructor
  · intro h
    refine ffl_none (fun p hp => ?_) n (Nat.le_refl n)
    exact fnd_no 61 0 (fun i h1 h2 => T i (fnd_none 61 0 h i h1 h2) p hp)
  · intro k h
    obtain ⟨⟨-, hk61⟩, hk, hb⟩ := fnd_some 61 0 k h
    refine ⟨fun hz => (by rw [hz] at hk; cases hk), fun p hp => ?_⟩
    have hp7 := whc_lt _ _ hp
    have htb := whc_tb _ _ hp
    have hpn : p < n := by
      refine Nat.not_le.mp (fun hnp => ?_)
      rw [tb_bt _ (by omega), fel_bt (by omega) n hn, decide_eq_false (p := p < n) (by omega), Bool.false_and] at htb
      cases htb
    rw [fel_tb hn hpn] at htb
    have hge : ∀ q, q < n → ∀ b, fal r n q = some b → k ≤ b := by
      intro q hq b hf
      obtain ⟨-, hfb, -⟩ := fnd_some 61 0 b hf
      refine Nat.not_lt.mp (fun hbk => ?_)
      rw [T b (hb b (by omega) hbk) q hq] at hfb
      cases hfb
    refine (ffl_some hpn ?_ ?_ hge n (Nat.le_refl n)).2 hpn
    · exact fnd_is 61 0 k (by omega) (by omega) htb (fun i h1 h2 => T i (hb i h1 h2) p hpn)
    · intro q hq b hf
      have h1 := hge q (by omega) b hf
      obtain ⟨-, hfb, -⟩ := fnd_some 61 0 b hf
      refine Nat.lt_of_le_of_ne h1 (fun hkb => ?_)
      have h2 := whc_least _ _ hp q hq
      rw [fel_tb hn (by omega), hkb, hfb] at h2
      cases h2
theorem sp_X8_falls {n : Nat} {p : Int32} (hW : WF (σ 0) n) (Kr : (p ≠ -1 ∧ hasW p n = false) → Q (-1) (rfs σ 9 (-1))) (K : (p = -1 ∨ hasW p n = true) → ∀ r1, Q (falV (σ 0) n p) (va_up σ 1 r1)) : Mi E mX8_falls [.ref (ad E 0 0), .int p] σ Q := by
  have hn6 := hW.2.1
  have A : p = -1 → ∀ y2 y3, GW E (ZM E 5 fun v σ' => ∃ r, v = some (.int r) ∧ Q r σ') mX8_falls 22 [some (.ref (ad E 0 0)), some (.int p), y2, y3] [] σ := by
    intro h1 y2 y3
    have K := K (Or.inl h1)
    unfold falV at K
    rw [if_pos h1] at K
    obtain ⟨dn, ds⟩ := dtf_any (r := σ 0) hn6
    refine r_iload_n dX8_falls_22 rfl ?_
    refine r_iconst (-1) dX8_falls_23 rfl ?_
    refine r_icmp_ne 32 dX8_falls_24 rfl (fun h24 => ?_) (fun h24 => ?_)
    · exact absurd h1 h24
    · have F : ∀ (v : Int32) (τ : Sg), (v = -9 → ∃ r1, τ = va_up σ 1 r1 ∧ ffl (σ 0) n n = none) → (∀ k, k < 61 → v = nI k → τ = va_up σ 1 (dayN 0 n (σ 0) k) ∧ dtf (σ 0) n 63 60 = some k) → (v = -9 ∨ ∃ k, k < 61 ∧ v = nI k) → GW E (ZM E 5 fun v σ' => ∃ r, v = some (.int r) ∧ Q r σ') mX8_falls 54 [some (.ref (ad E 0 0)), some (.int p), some (.int 63), y3] [.int v] τ := by
        intro v τ f1 f2 f3
        refine r_istore_n_3 dX8_falls_54 rfl ?_
        refine r_iload_n dX8_falls_55 rfl ?_
        refine r_bipush (-9) dX8_falls_56 rfl ?_
        refine r_icmp_eq 66 dX8_falls_58 rfl (fun h58 => ?_) (fun h58 => ?_)
        · obtain ⟨r1, rfl, hf⟩ := f1 h58
          refine r_iload_n dX8_falls_66 rfl ?_
          refine r_ireturn rfl (by first | rfl | exact nar_bi _ | assumption) dX8_falls_67 ⟨_, rfl, ?_⟩
          exact qof (K r1) (by rw [hf, h58]; rfl) rfl
        · rcases f3 with f3 | ⟨k, hk, rfl⟩
          · exact absurd f3 h58
          · obtain ⟨rfl, hd⟩ := f2 k hk rfl
            obtain ⟨hz, hw⟩ := ds k hd
            have hWk := dayN_WF (u := 0) hW k
            obtain ⟨m, hm, em⟩ := R7_ex (fel_R7 (r := dayN 0 n (σ 0) k) hn6)
            have hm0 : m ≠ 0 := fun h => hz (by rw [em, h]; rfl)
            obtain ⟨d, hd7, ed, -⟩ := whc_some (last := false) (fel_R7 (r := dayN 0 n (σ 0) k) hn6) hz
            have hff := hw d ed
            refine r_iload_n dX8_falls_61 rfl ?_
            refine r_iconst (-1) dX8_falls_62 rfl ?_
            refine r_icmp_eq 68 dX8_falls_63 rfl (fun h63 => ?_) (fun h63 => ?_)
            · refine r_aload_n dX8_falls_68 rfl ?_
              refine getX8_16 rfl dX8_falls_69 ?_
              refine cVN_i0 fX1_whoFell (rcv_1 (by omega)) lkX8_166 rfl dX8_falls_72 (sp_X1_whoFell (by omega) (by rw [up_at]; exact hWk.1) hn6 ?_)
              rw [up_at, em]
              refine cS_i1 fJ6_numberOfTrailingZeros_0f7a4 lkX8_169 rfl dX8_falls_75 (sp_J6_numberOfTrailingZeros_0f7a4 hm hm0 ?_)
              rw [← em, ed]
              refine r_ireturn rfl (by first | rfl | exact nar_bi _ | assumption) dX8_falls_78 ⟨_, rfl, ?_⟩
              exact qof (K _) (by rw [hff]; rfl) rfl
            · exact absurd h1 h63
      refine r_bipush (63) dX8_falls_27 rfl ?_
      refine r_goto 35 dX8_falls_29 rfl ?_
      refine r_istore_n_2 dX8_falls_35 rfl ?_
      refine r_aload_n dX8_falls_36 rfl ?_
      refine getX8_16 rfl dX8_falls_37 ?_
      refine r_aload_n dX8_falls_40 rfl ?_
      refine getX8_10 rfl dX8_falls_41 ?_
      refine cVN_v1 fX1_become (rcv_1 (by omega)) lkX8_63 rfl dX8_falls_44 (sp_X1_become (by omega) (by omega) (by omega) ?_)
      refine r_aload_n dX8_falls_47 rfl ?_
      refine r_iload_n dX8_falls_48 rfl ?_
      refine r_bipush (60) dX8_falls_49 rfl ?_
      refine cV_i2 fX8_daysTillFall rcv_0 lkX8_163 rfl dX8_falls_51 (sp_X8_daysTillFall (n := n) (m := 60) (by rw [up_at]; exact hW) (by omega) (fun k hk => ?_) (fun hk r1 => ?_))
      · rw [up_at] at hk ⊢
        rw [up_up]
        have hk61 := fnd_lt _ _ _ hk
        refine F _ _ (fun e => ?_) (fun j hj e => ?_) (Or.inr ⟨k, by omega, rfl⟩)
        · exact absurd (nI_pos (n := k) (by omega)) (by rw [e]; decide)
        · have := (nI_eq (by omega) (by omega)).mp e
          rw [← this]
          exact ⟨rfl, hk⟩
      · rw [up_at] at hk
        rw [up_up]
        refine F _ _ (fun _ => ⟨r1, rfl, dn hk⟩) (fun j hj e => ?_) (Or.inl rfl)
        exact absurd (nI_pos (n := j) (by omega)) (by rw [← e]; decide)
  refine Mw_of (L0 := [some (.ref (ad E 0 0)), some (.int p), none, none]) pn_X8 rfl rfl (Nat.le_of_ble_eq_true rfl) ?_
  refine r_iload_n dX8_falls_0 rfl ?_
  refine r_iconst (-1) dX8_falls_1 rfl ?_
  refine r_icmp_eq 22 dX8_falls_2 rfl (fun h2 => ?_) (fun h2 => ?_)
  · exact A h2 _ _
  · refine r_aload_n dX8_falls_5 rfl ?_
    refine getX8_10 rfl dX8_falls_6 ?_
    refine r_iload_n dX8_falls_9 rfl ?_
    refine cVN_i1 fX1_has (rcv_1 (by omega)) lkX8_87 rfl dX8_falls_10 (sp_X1_has (by omega) hW.1 ?_)
    refine r_if_ne 22 dX8_falls_13 rfl (fun h13 => ?_) (fun h13 => ?_)
    · have K := K (Or.inr (tb_of h13))
      unfold falV at K
      rw [if_neg h2] at K
      obtain ⟨q, hq, rfl⟩ := hasW_ex (tb_of h13) hn6
      rw [nI_clamp (by omega), ← dtf_one hn6 hq] at K
      refine r_iload_n dX8_falls_22 rfl ?_
      refine r_iconst (-1) dX8_falls_23 rfl ?_
      refine r_icmp_ne 32 dX8_falls_24 rfl (fun h24 => ?_) (fun h24 => ?_)
      · refine r_iconst (1) dX8_falls_32 rfl ?_
        refine r_iload_n dX8_falls_33 rfl ?_
        refine r_ishl dX8_falls_34 ?_
        refine r_istore_n_2 dX8_falls_35 rfl ?_
        refine r_aload_n dX8_falls_36 rfl ?_
        refine getX8_16 rfl dX8_falls_37 ?_
        refine r_aload_n dX8_falls_40 rfl ?_
        refine getX8_10 rfl dX8_falls_41 ?_
        refine cVN_v1 fX1_become (rcv_1 (by omega)) lkX8_63 rfl dX8_falls_44 (sp_X1_become (by omega) (by omega) (by omega) ?_)
        refine r_aload_n dX8_falls_47 rfl ?_
        refine r_iload_n dX8_falls_48 rfl ?_
        refine r_bipush (60) dX8_falls_49 rfl ?_
        refine cV_i2 fX8_daysTillFall rcv_0 lkX8_163 rfl dX8_falls_51 (sp_X8_daysTillFall (n := n) (m := 60) (by rw [up_at]; exact hW) (by omega) (fun k hk => ?_) (fun hk r1 => ?_))
        · rw [up_at] at hk ⊢
          rw [up_up]
          rw [hk] at K
          refine r_istore_n_3 dX8_falls_54 rfl ?_
          refine r_iload_n dX8_falls_55 rfl ?_
          refine r_bipush (-9) dX8_falls_56 rfl ?_
          refine r_icmp_eq 66 dX8_falls_58 rfl (fun h58 => ?_) (fun h58 => ?_)
          · refine r_iload_n dX8_falls_66 rfl ?_
            refine r_ireturn rfl (by first | rfl | exact nar_bi _ | assumption) dX8_falls_67 ⟨_, rfl, ?_⟩
            exact K _
          · refine r_iload_n dX8_falls_61 rfl ?_
            refine r_iconst (-1) dX8_falls_62 rfl ?_
            refine r_icmp_eq 68 dX8_falls_63 rfl (fun h63 => ?_) (fun h63 => ?_)
            · exact absurd h63 h2
            · refine r_iload_n dX8_falls_66 rfl ?_
              refine r_ireturn rfl (by first | rfl | exact nar_bi _ | assumption) dX8_falls_67 ⟨_, rfl, ?_⟩
              exact K _
        · rw [up_at] at hk
          rw [up_up]
          rw [hk] at K
          refine r_istore_n_3 dX8_falls_54 rfl ?_
          refine r_iload_n dX8_falls_55 rfl ?_
          refine r_bipush (-9) dX8_falls_56 rfl ?_
          refine r_icmp_eq 66 dX8_falls_58 rfl (fun h58 => ?_) (fun h58 => ?_)
          · refine r_iload_n dX8_falls_66 rfl ?_
            refine r_ireturn rfl (by first | rfl | exact nar_bi _ | assumption) dX8_falls_67 ⟨_, rfl, ?_⟩
            exact K _
          · exact absurd rfl h58
      · exact absurd h24 h2
    · refine r_aload_n dX8_falls_16 rfl ?_
      refine r_iconst (-1) dX8_falls_17 rfl ?_
      refine cV_i1 fX8_refuse rcv_0 lkX8_52 rfl dX8_falls_18 (sp_X8_refuse (Or.inl rfl) ?_)
      refine r_ireturn rfl (by first | rfl | exact nar_bi _ | assumption) dX8_falls_21 ⟨_, rfl, ?_⟩
      exact Kr ⟨h2, (bi_eq0 _).mp h13⟩
end PUBF
