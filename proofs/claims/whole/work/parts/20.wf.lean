/-! ===== rows that are as they must be ===== -/
def WFp (r : Row) (p : Nat) : Prop := (∃ k, k < 6 ∧ r (3 + 5 * p) = nI k) ∧ (∃ f, f < 10 ∧ r (4 + 5 * p) = nI f) ∧ R7 (r (5 + 5 * p)) ∧ (∃ t, t < 31 ∧ r (6 + 5 * p) = nI t) ∧ (∃ u, u < 10 ∧ r (7 + 5 * p) = nI u)
def WF (r : Row) (n : Nat) : Prop := r 0 = nI n ∧ n ≤ 6 ∧ ∀ p, p < 6 → WFp r p
theorem wnt_R7 {r : Row} {p o : Nat} (h : R7 (r (5 + 5 * o))) : R7 (wnt r p o) := by
  unfold wnt
  split
  · exact R7_0
  · exact R7_and h
theorem wnt_bt {r : Row} {p o j : Nat} (hj : j < 32) (h : bt (wnt r p o) j = true) : bt (r (5 + 5 * o)) j = true ∧ bt (r (5 + 5 * p)) j = false ∧ p ≠ o := by
  unfold wnt at h
  split at h
  · rw [b_0] at h; cases h
  · rename_i hpo
    rw [b_and, bt_not _ hj, Bool.and_eq_true, Bool.not_eq_true'] at h
    exact ⟨h.1, h.2, hpo⟩
theorem hnd_mvd {r : Row} {p o j : Nat} (hj : j < 32) (hpo : p ≠ o) (h1 : bt (r (5 + 5 * o)) j = true) (h2 : bt (r (5 + 5 * p)) j = false) : hndR r o p (nI j) = mvd r o p (nI j) := by
  unfold hndR mvd
  have e1 : r (5 + 5 * o) ^^^ ((1 : Int32) <<< (nI j &&& 31)) = r (5 + 5 * o) &&& (((1 : Int32) <<< (nI j &&& 31)) ^^^ (-1)) := b_ext (fun i hi => by
    rw [b_xor, b_and, bt_not _ hi, b_sl1 hj hi]
    by_cases hij : i = j
    · rw [hij, h1, decide_eq_true rfl]; rfl
    · rw [decide_eq_false hij]; simp)
  have e2 : r (5 + 5 * p) ^^^ ((1 : Int32) <<< (nI j &&& 31)) = r (5 + 5 * p) ||| ((1 : Int32) <<< (nI j &&& 31)) := b_ext (fun i hi => by
    rw [b_xor, b_or, b_sl1 hj hi]
    by_cases hij : i = j
    · rw [hij, h2, decide_eq_true rfl]; rfl
    · rw [decide_eq_false hij]; simp)
  dsimp only
  rw [e1]
  have e3 : upd r (5 + 5 * o) (r (5 + 5 * o) &&& (((1 : Int32) <<< (nI j &&& 31)) ^^^ (-1))) (5 + 5 * p) = r (5 + 5 * p) := by
    unfold upd
    rw [if_neg (by omega)]
  rw [e3, e2]
theorem whc_tb {last : Bool} {set : Int32} : ∀ k d, whc last set k = some d → tb set (nI d) = true
  | 0, d, h => by cases h
  | k + 1, d, h => by
    unfold whc at h
    split at h
    · rename_i hc
      cases h
      exact hc.1
    · exact whc_tb k d h
theorem whc_none {last : Bool} {set : Int32} : ∀ k, whc last set k = none → ∀ d, d < k → tb set (nI d) = false
  | 0, _, d, hd => by omega
  | k + 1, h, d, hd => by
    unfold whc at h
    split at h
    · cases h
    · rename_i hc
      by_cases hdk : d = k
      · rw [hdk]
        cases ht : tb set (nI k) with
        | false => rfl
        | true => exact absurd ⟨ht, Or.inl h⟩ hc
      · exact whc_none k h d (by omega)
theorem whc_some {last : Bool} {set : Int32} (h7 : R7 set) (h0 : set ≠ 0) : ∃ d, d < 7 ∧ whc last set 7 = some d ∧ bt set d = true := by
  cases h : whc last set 7 with
  | none =>
    refine absurd (b_ext (fun i hi => ?_)) h0
    rw [b_0]
    by_cases h77 : i < 7
    · rw [← tb_bt _ hi]
      exact whc_none 7 h i h77
    · exact h7 i (by omega) hi
  | some d =>
    have hd := whc_lt _ _ h
    exact ⟨d, hd, rfl, by rw [← tb_bt _ (by omega)]; exact whc_tb _ _ h⟩
theorem fnd_P {P : Nat → Bool} : ∀ (m k j : Nat), fnd P k m = some j → P j = true
  | 0, k, j, h => by cases h
  | m + 1, k, j, h => by
    unfold fnd at h
    split at h
    · rename_i hp
      cases h
      exact hp
    · exact fnd_P m (k + 1) j h
theorem rich_wnt {r : Row} {p : Nat} : ∀ o f, rich r p o = some f → wnt r p f ≠ 0
  | 0, f, h => by cases h
  | o + 1, f, h => by
    unfold rich at h
    split at h
    · rename_i hc
      cases h
      exact hc.1
    · exact rich_wnt o f h
theorem fromW_wnt {r : Row} {n p o : Nat} (h : fromW r n p = some o) : wnt r p o ≠ 0 := by
  unfold fromW at h
  split at h
  · exact rich_wnt _ _ h
  · split at h
    · unfold rndB at h
      obtain ⟨k, hk, rfl⟩ := Option.map_eq_some_iff.mp h
      have := fnd_P _ _ _ hk
      simpa using this
    · split at h
      · unfold lst at h
        have := fnd_P _ _ _ h
        simpa using this
      · unfold rndW at h
        obtain ⟨k, hk, rfl⟩ := Option.map_eq_some_iff.mp h
        have := fnd_P _ _ _ hk
        simpa using this
theorem upd_eq {r : Row} {k : Nat} {v : Int32} : upd r k v k = v := if_pos rfl
theorem upd_ne {r : Row} {k j : Nat} {v : Int32} (h : j ≠ k) : upd r k v j = r j := if_neg h
theorem least_N {a x : Nat} (ha : a < 1000) (hx : x < 100000) : least (nI a) (nI x) = nI (min a x) := by
  unfold least
  by_cases h : a < x
  · rw [if_pos ((nI_ltI (by omega) (by omega)).mpr h), Nat.min_eq_left (by omega)]
  · rw [if_neg (fun q => h ((nI_ltI (by omega) (by omega)).mp q)), Nat.min_eq_right (by omega)]
theorem upW_WF {r : Row} {n p : Nat} (h : WF r n) (hp : p < 6) : WF (upW r p) n := by
  obtain ⟨h0, h6, hw⟩ := h
  refine ⟨by rw [upW_lo (by omega)]; exact h0, h6, fun q hq => ?_⟩
  obtain ⟨a1, a2, a3, ⟨t, ht, a4⟩, ⟨u, hu, a5⟩⟩ := hw q hq
  by_cases hqp : q = p
  · subst hqp
    unfold WFp upW
    refine ⟨?_, ?_, ?_, ⟨min 30 (t + 1), by omega, ?_⟩, ⟨min 9 (u + 1), by omega, ?_⟩⟩
    · rw [upd_ne (by omega), upd_ne (by omega)]; exact a1
    · rw [upd_ne (by omega), upd_ne (by omega)]; exact a2
    · rw [upd_ne (by omega), upd_ne (by omega)]; exact a3
    · rw [upd_ne (by omega), upd_eq, a4, nI_1, show (30 : Int32) = nI 30 from rfl, least_N (by omega) (by omega)]
    · rw [upd_eq, upd_ne (by omega), a5, nI_1, show (9 : Int32) = nI 9 from rfl, least_N (by omega) (by omega)]
  · unfold WFp upW
    rw [upd_ne (by omega), upd_ne (by omega), upd_ne (by omega), upd_ne (by omega), upd_ne (by omega), upd_ne (by omega), upd_ne (by omega), upd_ne (by omega), upd_ne (by omega), upd_ne (by omega)]
    exact ⟨a1, a2, a3, ⟨t, ht, a4⟩, ⟨u, hu, a5⟩⟩
theorem mvd_WF {r : Row} {n f t j : Nat} (h : WF r n) (hf : f < 6) (ht : t < 6) (hj : j < 7) : WF (mvd r f t (nI j)) n := by
  obtain ⟨h0, h6, hw⟩ := h
  refine ⟨by rw [mvd_0 (by omega)]; exact h0, h6, fun q hq => ?_⟩
  obtain ⟨a1, a2, a3, a4, a5⟩ := hw q hq
  refine ⟨by rw [mvd_k (by omega) (by omega) (by omega)]; exact a1, by rw [mvd_k (by omega) (by omega) (by omega)]; exact a2, ?_, by rw [mvd_k (by omega) (by omega) (by omega)]; exact a4, by rw [mvd_k (by omega) (by omega) (by omega)]; exact a5⟩
  have key : ∀ x, x < 6 → R7 (upd r (5 + 5 * f) (r (5 + 5 * f) &&& (((1 : Int32) <<< (nI j &&& 31)) ^^^ (-1))) (5 + 5 * x)) := by
    intro x hx
    by_cases hxf : x = f
    · rw [hxf, upd_eq]; exact R7_and (hw f hf).2.2.1
    · rw [upd_ne (by omega)]; exact (hw x hx).2.2.1
  unfold mvd
  by_cases hqt : q = t
  · rw [hqt, upd_eq]; exact R7_or (key t ht) (R7_sl hj)
  · rw [upd_ne (by omega)]; exact key q hq
theorem payR_WF {r : Row} {n p : Nat} (h : WF r n) (hp : p < n) : WF (payR r n p) n := by
  have h6 := h.2.1
  unfold payR
  cases hf : fromW r n p with
  | none => exact h
  | some o =>
    have ho := fromW_lt (by omega) hf
    obtain ⟨d, hd, e, -⟩ := whc_some (last := isLst (r (3 + 5 * p))) (wnt_R7 (p := p) (h.2.2 o (by omega)).2.2.1) (fromW_wnt hf)
    dsimp only
    rw [e, oI_some]
    obtain ⟨g0, g6, gw⟩ := mvd_WF (f := o) (t := p) h (by omega) (by omega) hd
    refine ⟨by rw [upd_ne (by omega), upd_ne (by omega)]; exact g0, g6, fun q hq => ?_⟩
    obtain ⟨a1, a2, a3, a4, a5⟩ := gw q hq
    unfold WFp
    rw [upd_ne (by omega), upd_ne (by omega), upd_ne (by omega), upd_ne (by omega), upd_ne (by omega), upd_ne (by omega), upd_ne (by omega), upd_ne (by omega)]
    refine ⟨a1, a2, a3, a4, ?_⟩
    by_cases hqp : q = p
    · rw [hqp, upd_eq]; exact ⟨0, by omega, rfl⟩
    · rw [upd_ne (by omega), upd_ne (by omega)]; exact a5
theorem dn_N {t : Nat} (ht : t < 31) : (if nI t < 2 then (0 : Int32) else nI t - 2) = nI (t - 2) := by
  rw [show (2 : Int32) = nI 2 from rfl]
  by_cases h : t < 2
  · rw [if_pos ((nI_ltI (b := 2) (by omega) (by omega)).mpr h), show t - 2 = 0 by omega]; rfl
  · rw [if_neg (fun q => h ((nI_ltI (b := 2) (by omega) (by omega)).mp q)), pk_sub (by omega)]
theorem wday_WF {u : Int32} {r : Row} {n p : Nat} (h : WF r n) (hp : p < n) : WF (wday u n r p) n := by
  have h6 := h.2.1
  unfold wday
  split
  · obtain ⟨h0, h6, hw⟩ := h
    refine ⟨by rw [upd_ne (by omega)]; exact h0, h6, fun q hq => ?_⟩
    obtain ⟨a1, a2, a3, ⟨t, ht, a4⟩, a5⟩ := hw q hq
    unfold WFp
    rw [upd_ne (by omega), upd_ne (by omega), upd_ne (by omega), upd_ne (k := 6 + 5 * p) (j := 7 + 5 * q) (by omega)]
    refine ⟨a1, a2, a3, ?_, a5⟩
    by_cases hqp : q = p
    · rw [← hqp, upd_eq, a4, dn_N ht]; exact ⟨t - 2, by omega, rfl⟩
    · rw [upd_ne (by omega)]; exact ⟨t, ht, a4⟩
  · split
    · exact payR_WF (upW_WF h (by omega)) hp
    · exact upW_WF h (by omega)
theorem wdays_WF {u : Int32} {r : Row} {n : Nat} (h : WF r n) : ∀ p, p ≤ n → WF (wdays u n r p) n
  | 0, _ => h
  | p + 1, hp => wday_WF (wdays_WF h p (by omega)) (by omega)
theorem upd1_WF {r : Row} {n : Nat} {v : Int32} (h : WF r n) : WF (upd r 1 v) n := by
  obtain ⟨h0, h6, hw⟩ := h
  refine ⟨by rw [upd_ne (by omega)]; exact h0, h6, fun q hq => ?_⟩
  unfold WFp
  rw [upd_ne (by omega), upd_ne (by omega), upd_ne (by omega), upd_ne (by omega), upd_ne (by omega)]
  exact hw q hq
theorem dayR_WF {u : Int32} {r : Row} {n : Nat} (h : WF r n) : WF (dayR u n r) n := wdays_WF (upd1_WF h) n (Nat.le_refl n)
theorem dayN_WF {u : Int32} {r : Row} {n : Nat} (h : WF r n) : ∀ k, WF (dayN u n r k) n
  | 0 => h
  | k + 1 => dayR_WF (dayN_WF h k)
