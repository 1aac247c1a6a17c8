/-! ===== both sides, method by method ===== -/
section PAIRS
variable {E : EnvT} {σ : Sg} {P : Int32 → Sg → Prop} {Pl : Int64 → Sg → Prop}
def DW (r : Row) : Prop := ∃ d w, r 1 = nI d ∧ r 2 = nI w ∧ d ≤ 999 ∧ w ≤ 6 * d
def Rel (σ : Sg) : Prop := ∃ (n n2 N t : Nat) (c : Nat → Nat), WF (σ 0) n ∧ WF (σ 2) n2 ∧ DW (σ 0) ∧ DW (σ 2) ∧ LT σ c N ∧ σ 10 1 = nI t ∧ t ≤ 16 ∧ σ 3 = σ 0 ∧ σ 5 = σ 2 ∧ σ 11 = σ 7 ∧ σ 12 = σ 8 ∧ σ 13 = σ 9 ∧ σ 15 0 = σ 10 0 ∧ σ 15 2 = σ 10 1 ∧ σ 15 1 = σ 10 2
def Twn (E : EnvT) (M : MI) (As : List Value) (σ1 : Sg) (r : Int32) : Prop := ∀ Q : Int32 → Sg → Prop, (∀ σ2, Rel σ2 → Q r σ2) → Mi E M As σ1 Q
def TwnL (E : EnvT) (M : MI) (As : List Value) (σ1 : Sg) (r : Int64) : Prop := ∀ Q : Int64 → Sg → Prop, (∀ σ2, Rel σ2 → Q r σ2) → Ml E M As σ1 Q
theorem DW_c {r r' : Row} (h : DW r) (h1 : r' 1 = r 1) (h2 : r' 2 = r 2) : DW r' := by
  obtain ⟨d, w, a, b, e, f⟩ := h
  exact ⟨d, w, h1.trans a, h2.trans b, e, f⟩
theorem dayN_d {u : Int32} {n : Nat} {r : Row} : ∀ k, dayN u n r k 1 = r 1 + nI k
  | 0 => (Int32.add_zero _).symm
  | k + 1 => by
    show dayR u n (dayN u n r k) 1 = _
    rw [dayR_1, dayN_d k, Int32.add_assoc, nI_1]
theorem DW_day {r : Row} {n j : Nat} (hW : WF r n) (h : DW r) (hj : r 1 + nI j ≤ 999) (hj2 : j ≤ 100) : DW (dayN 0 n r j) := by
  obtain ⟨d, w, a, b, e, f⟩ := h
  rw [a, nI_add] at hj
  have hdj : d + j ≤ 999 := (nI_leI (b := 999) (by omega) (by omega)).mp hj
  obtain ⟨w', h1, h2⟩ := dayN_w hW b j (by omega)
  exact ⟨d + j, w', by rw [dayN_d, a, nI_add], h1, hdj, by omega⟩
theorem Rel_rfs {x : Int32} (h : Rel σ) : Rel (rfs (rfs σ 9 x) 13 x) := by
  obtain ⟨n, n2, N, t, c, hW, hW2, dw, dw2, lt, ht, h16, e3, e5, e11, e12, e13, ga, gb, gc⟩ := h
  refine ⟨n, n2, N, t, c, hW, hW2, dw, dw2, lt, ht, h16, e3, e5, e11, e12, ?_, ga, gb, gc⟩
  show upd (σ 13) (-x).toNatClampNeg (σ 13 (-x).toNatClampNeg + 1) = upd (σ 9) (-x).toNatClampNeg (σ 9 (-x).toNatClampNeg + 1)
  rw [e13]
theorem nI_inj6 {p : Int32} {a b : Nat} (h : p = nI a) (h' : p = nI b) (ha : a < 1000) (hb : b < 1000) : b = a := ((nI_eq (by omega) (by omega)).mp (h.symm.trans h')).symm

theorem vFrees_wd {n : Nat} {p w : Int32} (h : vFrees n p w = 0) : isWd w = true := by
  unfold vFrees at h
  split at h
  · rename_i q
    rw [Bool.and_eq_true] at q
    exact q.2
  · exact absurd h (by decide)
theorem vRests_ok {n : Nat} {p v : Int32} (h : vRests n p v = 0) : outs v 0 30 = 0 := by
  unfold vRests at h
  split at h
  · exact h
  · exact absurd h (by decide)
theorem vTurn_ok {n : Nat} {p k f : Int32} (h : vTurn n p k f = 0) : ∃ a b, a < 6 ∧ b < 10 ∧ k = nI a ∧ f = nI b := by
  unfold vTurn at h
  split at h
  · split at h
    · rename_i q
      obtain ⟨a, ha, ea⟩ := nI_of (Int32.not_lt.mpr q.1)
      obtain ⟨b, hb, eb⟩ := outs_N (b := 9) (by omega) h
      refine ⟨a, b, ?_, by omega, ea, eb⟩
      have := q.2
      rw [ea] at this
      exact (nI_ltI (b := 6) ha (by omega)).mp this
    · exact absurd h (by decide)
  · exact absurd h (by decide)
theorem vDays_ok {r : Row} {m : Int32} (h : vDays r m = 0) : r 1 + m ≤ 999 := by
  unfold vDays at h
  split at h
  · rename_i q
    exact absurd h q
  · split at h
    · exact absurd h (by decide)
    · rename_i q
      exact Int32.not_lt.mp q
theorem pr_worker {p w : Int32} (h : Rel σ) (K : ∀ r σ1, Twn E mX9_worker [.ref (ad E 18 0), .int p, .int w] σ1 r → P r σ1) : Mi E mX8_worker [.ref (ad E 0 0), .int p, .int w] σ P := by
  have hR := h
  obtain ⟨n, n2, N, t, c, hW, hW2, dw, dw2, lt, ht, h16, e3, e5, e11, e12, e13, ga, gb, gc⟩ := h
  have hn6 := hW.2.1
  refine sp_X8_worker hW (fun x hx h0 => K _ _ (fun Q hq => ?_)) (fun q b1 eq hv => K _ _ (fun Q hq => ?_))
  · have e3' : (rfs σ 9 x) 3 = σ 0 := e3
    refine sp_X9_worker (n := n) (by show WF (σ 3) n; rw [e3]; exact hW) (fun y hy h0' => ?_) (fun q' b1' eq' hv' => ?_)
    · try rw [e3'] at hy
      rw [hx] at hy
      rw [← hy]
      exact hq _ (Rel_rfs hR)
    · try rw [e3'] at hv'
      exact absurd (hx.symm.trans hv') h0
  · have e3' : σ 3 = σ 0 := e3
    refine sp_X9_worker (n := n) (by show WF (σ 3) n; rw [e3]; exact hW) (fun y hy h0' => ?_) (fun q' b1' eq' hv' => ?_)
    · try rw [e3'] at hy
      exact absurd (hy.symm.trans hv) h0'
    · have qq : q' = q := nI_inj6 eq eq' (by omega) (by omega)
      rw [e3', qq]
      exact hq _ hR
theorem pr_from {p w : Int32} (h : Rel σ) (K : ∀ r σ1, Twn E mX9_from [.ref (ad E 18 0), .int p, .int w] σ1 r → P r σ1) : Mi E mX8_from [.ref (ad E 0 0), .int p, .int w] σ P := by
  have hR := h
  obtain ⟨n, n2, N, t, c, hW, hW2, dw, dw2, lt, ht, h16, e3, e5, e11, e12, e13, ga, gb, gc⟩ := h
  have hn6 := hW.2.1
  refine sp_X8_from hW (fun x hx h0 => K _ _ (fun Q hq => ?_)) (fun q b1 eq hv => K _ _ (fun Q hq => ?_))
  · have e3' : (rfs σ 9 x) 3 = σ 0 := e3
    refine sp_X9_from (n := n) (by show WF (σ 3) n; rw [e3]; exact hW) (fun y hy h0' => ?_) (fun q' b1' eq' hv' => ?_)
    · try rw [e3'] at hy
      rw [hx] at hy
      rw [← hy]
      exact hq _ (Rel_rfs hR)
    · try rw [e3'] at hv'
      exact absurd (hx.symm.trans hv') h0
  · have e3' : σ 3 = σ 0 := e3
    refine sp_X9_from (n := n) (by show WF (σ 3) n; rw [e3]; exact hW) (fun y hy h0' => ?_) (fun q' b1' eq' hv' => ?_)
    · try rw [e3'] at hy
      exact absurd (hy.symm.trans hv) h0'
    · have qq : q' = q := nI_inj6 eq eq' (by omega) (by omega)
      rw [e3', qq]
      exact hq _ hR
theorem pr_workerThen {p m w : Int32} (h : Rel σ) (K : ∀ r σ1, Twn E mX9_workerThen [.ref (ad E 18 0), .int p, .int m, .int w] σ1 r → P r σ1) : Mi E mX8_workerThen [.ref (ad E 0 0), .int p, .int m, .int w] σ P := by
  have hR := h
  obtain ⟨n, n2, N, t, c, hW, hW2, dw, dw2, lt, ht, h16, e3, e5, e11, e12, e13, ga, gb, gc⟩ := h
  have hn6 := hW.2.1
  refine sp_X8_workerThen hW (fun x hx h0 => K _ _ (fun Q hq => ?_)) (fun q j k b3 eq b5 ej b7 ek hv r1 => K _ _ (fun Q hq => ?_))
  · have e3' : (rfs σ 9 x) 3 = σ 0 := e3
    refine sp_X9_workerThen (n := n) (by show WF (σ 3) n; rw [e3]; exact hW) (fun y hy h0' => ?_) (fun q' j' k' b3' eq' b5' ej' b7' ek' hv' r4 => ?_)
    · try rw [e3'] at hy
      rw [hx] at hy
      rw [← hy]
      exact hq _ (Rel_rfs hR)
    · try rw [e3'] at hv'
      exact absurd (hx.symm.trans hv') h0
  · have e3' : (va_up σ 1 r1) 3 = σ 0 := e3
    refine sp_X9_workerThen (n := n) (by show WF (σ 3) n; rw [e3]; exact hW) (fun y hy h0' => ?_) (fun q' j' k' b3' eq' b5' ej' b7' ek' hv' r4 => ?_)
    · try rw [e3'] at hy
      exact absurd (hy.symm.trans hv) h0'
    · have qq : q' = q := nI_inj6 eq eq' (by omega) (by omega)
      have qj : j' = j := nI_inj6 ej ej' (by omega) (by omega)
      have qk : k' = k := nI_inj6 ek ek' (by omega) (by omega)
      rw [e3', qq, qj, qk]
      exact hq _ hR
theorem pr_then {m w : Int32} (h : Rel σ) (K : ∀ r σ1, Twn E mX9_then [.ref (ad E 18 0), .int m, .int w] σ1 r → P r σ1) : Mi E mX8_then [.ref (ad E 0 0), .int m, .int w] σ P := by
  have hR := h
  obtain ⟨n, n2, N, t, c, hW, hW2, dw, dw2, lt, ht, h16, e3, e5, e11, e12, e13, ga, gb, gc⟩ := h
  have hn6 := hW.2.1
  refine sp_X8_then hW (fun x hx h0 => K _ _ (fun Q hq => ?_)) (fun j b1 ej hv r1 => K _ _ (fun Q hq => ?_))
  · have e3' : (rfs σ 9 x) 3 = σ 0 := e3
    refine sp_X9_then (n := n) (by show WF (σ 3) n; rw [e3]; exact hW) (fun y hy h0' => ?_) (fun j' b1' ej' hv' r4 => ?_)
    · try rw [e3'] at hy
      rw [hx] at hy
      rw [← hy]
      exact hq _ (Rel_rfs hR)
    · try rw [e3'] at hv'
      exact absurd (hx.symm.trans hv') h0
  · have e3' : (va_up σ 1 r1) 3 = σ 0 := e3
    refine sp_X9_then (n := n) (by show WF (σ 3) n; rw [e3]; exact hW) (fun y hy h0' => ?_) (fun j' b1' ej' hv' r4 => ?_)
    · try rw [e3'] at hy
      exact absurd (hy.symm.trans hv) h0'
    · have qj : j' = j := nI_inj6 ej ej' (by omega) (by omega)
      rw [e3', qj]
      exact hq _ hR
theorem pr_strike {w : Int32} (h : Rel σ) (K : ∀ r σ1, Twn E mX9_strike [.ref (ad E 18 0), .int w] σ1 r → P r σ1) : Mi E mX8_strike [.ref (ad E 0 0), .int w] σ P := by
  have hR := h
  obtain ⟨n, n2, N, t, c, hW, hW2, dw, dw2, lt, ht, h16, e3, e5, e11, e12, e13, ga, gb, gc⟩ := h
  have hn6 := hW.2.1
  refine sp_X8_strike hW (fun x hx h0 => K _ _ (fun Q hq => ?_)) (fun hv => K _ _ (fun Q hq => ?_))
  · have e3' : (rfs σ 9 x) 3 = σ 0 := e3
    refine sp_X9_strike (n := n) (by show WF (σ 3) n; rw [e3]; exact hW) (fun y hy h0' => ?_) (fun hv' => ?_)
    · try rw [e3'] at hy
      rw [hx] at hy
      rw [← hy]
      exact hq _ (Rel_rfs hR)
    · try rw [e3'] at hv'
      exact absurd (hx.symm.trans hv') h0
  · have e3' : σ 3 = σ 0 := e3
    refine sp_X9_strike (n := n) (by show WF (σ 3) n; rw [e3]; exact hW) (fun y hy h0' => ?_) (fun hv' => ?_)
    · try rw [e3'] at hy
      exact absurd (hy.symm.trans hv) h0'
    · rw [e3']
      exact hq _ hR
theorem pr_never {w : Int32} (h : Rel σ) (K : ∀ r σ1, Twn E mX9_never [.ref (ad E 18 0), .int w] σ1 r → P r σ1) : Mi E mX8_never [.ref (ad E 0 0), .int w] σ P := by
  have hR := h
  obtain ⟨n, n2, N, t, c, hW, hW2, dw, dw2, lt, ht, h16, e3, e5, e11, e12, e13, ga, gb, gc⟩ := h
  have hn6 := hW.2.1
  refine sp_X8_never hW (fun x hx h0 => K _ _ (fun Q hq => ?_)) (fun hv => K _ _ (fun Q hq => ?_))
  · have e3' : (rfs σ 9 x) 3 = σ 0 := e3
    refine sp_X9_never (n := n) (by show WF (σ 3) n; rw [e3]; exact hW) (fun y hy h0' => ?_) (fun hv' => ?_)
    · try rw [e3'] at hy
      rw [hx] at hy
      rw [← hy]
      exact hq _ (Rel_rfs hR)
    · try rw [e3'] at hv'
      exact absurd (hx.symm.trans hv') h0
  · have e3' : σ 3 = σ 0 := e3
    refine sp_X9_never (n := n) (by show WF (σ 3) n; rw [e3]; exact hW) (fun y hy h0' => ?_) (fun hv' => ?_)
    · try rw [e3'] at hy
      exact absurd (hy.symm.trans hv) h0'
    · rw [e3']
      exact hq _ hR
theorem pr_gift {p w m : Int32} (h : Rel σ) (K : ∀ r σ1, Twn E mX9_gift [.ref (ad E 18 0), .int p, .int w, .int m] σ1 r → P r σ1) : Mi E mX8_gift [.ref (ad E 0 0), .int p, .int w, .int m] σ P := by
  have hR := h
  obtain ⟨n, n2, N, t, c, hW, hW2, dw, dw2, lt, ht, h16, e3, e5, e11, e12, e13, ga, gb, gc⟩ := h
  have hn6 := hW.2.1
  refine sp_X8_gift hW (fun x hx h0 => K _ _ (fun Q hq => ?_)) (fun a d j b3 ea b5 ed b7 ej hv r1 => K _ _ (fun Q hq => ?_))
  · have e3' : (rfs σ 9 x) 3 = σ 0 := e3
    refine sp_X9_gift (n := n) (by show WF (σ 3) n; rw [e3]; exact hW) (fun y hy h0' => ?_) (fun a' d' j' b3' ea' b5' ed' b7' ej' hv' r4 => ?_)
    · try rw [e3'] at hy
      rw [hx] at hy
      rw [← hy]
      exact hq _ (Rel_rfs hR)
    · try rw [e3'] at hv'
      exact absurd (hx.symm.trans hv') h0
  · have e3' : (va_up σ 1 r1) 3 = σ 0 := e3
    refine sp_X9_gift (n := n) (by show WF (σ 3) n; rw [e3]; exact hW) (fun y hy h0' => ?_) (fun a' d' j' b3' ea' b5' ed' b7' ej' hv' r4 => ?_)
    · try rw [e3'] at hy
      exact absurd (hy.symm.trans hv) h0'
    · have qa : a' = a := nI_inj6 ea ea' (by omega) (by omega)
      have qd : d' = d := nI_inj6 ed ed' (by omega) (by omega)
      have qj : j' = j := nI_inj6 ej ej' (by omega) (by omega)
      rw [e3', qa, qj]
      exact hq _ hR
theorem pr_trade {p q m : Int32} (h : Rel σ) (K : ∀ r σ1, Twn E mX9_trade [.ref (ad E 18 0), .int p, .int q, .int m] σ1 r → P r σ1) : Mi E mX8_trade [.ref (ad E 0 0), .int p, .int q, .int m] σ P := by
  have hR := h
  obtain ⟨n, n2, N, t, c, hW, hW2, dw, dw2, lt, ht, h16, e3, e5, e11, e12, e13, ga, gb, gc⟩ := h
  have hn6 := hW.2.1
  refine sp_X8_trade hW (fun x hx h0 => K _ _ (fun Q hq => ?_)) (fun a b j b3 b4 ea eb b7 ej hv r1 => K _ _ (fun Q hq => ?_))
  · have e3' : (rfs σ 9 x) 3 = σ 0 := e3
    refine sp_X9_trade (n := n) (by show WF (σ 3) n; rw [e3]; exact hW) (fun y hy h0' => ?_) (fun a' b' j' b3' b4' ea' eb' b7' ej' hv' r4 => ?_)
    · try rw [e3'] at hy
      rw [hx] at hy
      rw [← hy]
      exact hq _ (Rel_rfs hR)
    · try rw [e3'] at hv'
      exact absurd (hx.symm.trans hv') h0
  · have e3' : (va_up σ 1 r1) 3 = σ 0 := e3
    refine sp_X9_trade (n := n) (by show WF (σ 3) n; rw [e3]; exact hW) (fun y hy h0' => ?_) (fun a' b' j' b3' b4' ea' eb' b7' ej' hv' r4 => ?_)
    · try rw [e3'] at hy
      exact absurd (hy.symm.trans hv) h0'
    · have qa : a' = a := nI_inj6 ea ea' (by omega) (by omega)
      have qb : b' = b := nI_inj6 eb eb' (by omega) (by omega)
      have qj : j' = j := nI_inj6 ej ej' (by omega) (by omega)
      rw [e3', qa, qb, qj]
      exact hq _ hR
theorem pr_better {p m w : Int32} (h : Rel σ) (K : ∀ r σ1, Twn E mX9_better [.ref (ad E 18 0), .int p, .int m, .int w] σ1 r → P r σ1) : Mi E mX8_better [.ref (ad E 0 0), .int p, .int m, .int w] σ P := by
  have hR := h
  obtain ⟨n, n2, N, t, c, hW, hW2, dw, dw2, lt, ht, h16, e3, e5, e11, e12, e13, ga, gb, gc⟩ := h
  have hn6 := hW.2.1
  refine sp_X8_better hW (fun x hx h0 => K _ _ (fun Q hq => ?_)) (fun a j b2 ea b4 ej hv r1 => K _ _ (fun Q hq => ?_))
  · have e3' : (rfs σ 9 x) 3 = σ 0 := e3
    refine sp_X9_better (n := n) (by show WF (σ 3) n; rw [e3]; exact hW) (fun y hy h0' => ?_) (fun a' j' b2' ea' b4' ej' hv' r4 => ?_)
    · try rw [e3'] at hy
      rw [hx] at hy
      rw [← hy]
      exact hq _ (Rel_rfs hR)
    · try rw [e3'] at hv'
      exact absurd (hx.symm.trans hv') h0
  · have e3' : (va_up σ 1 r1) 3 = σ 0 := e3
    refine sp_X9_better (n := n) (by show WF (σ 3) n; rw [e3]; exact hW) (fun y hy h0' => ?_) (fun a' j' b2' ea' b4' ej' hv' r4 => ?_)
    · try rw [e3'] at hy
      exact absurd (hy.symm.trans hv) h0'
    · have qa : a' = a := nI_inj6 ea ea' (by omega) (by omega)
      have qj : j' = j := nI_inj6 ej ej' (by omega) (by omega)
      rw [e3', qa, qj]
      exact hq _ hR
theorem pr_holiday {m w : Int32} (h : Rel σ) (K : ∀ r σ1, Twn E mX9_holiday [.ref (ad E 18 0), .int m, .int w] σ1 r → P r σ1) : Mi E mX8_holiday [.ref (ad E 0 0), .int m, .int w] σ P := by
  have hR := h
  obtain ⟨n, n2, N, t, c, hW, hW2, dw, dw2, lt, ht, h16, e3, e5, e11, e12, e13, ga, gb, gc⟩ := h
  have hn6 := hW.2.1
  refine sp_X8_holiday hW (fun x hx h0 => K _ _ (fun Q hq => ?_)) (fun j b1 ej hv r1 => K _ _ (fun Q hq => ?_))
  · have e3' : (rfs σ 9 x) 3 = σ 0 := e3
    refine sp_X9_holiday (n := n) (by show WF (σ 3) n; rw [e3]; exact hW) (fun y hy h0' => ?_) (fun j' b1' ej' hv' r4 => ?_)
    · try rw [e3'] at hy
      rw [hx] at hy
      rw [← hy]
      exact hq _ (Rel_rfs hR)
    · try rw [e3'] at hv'
      exact absurd (hx.symm.trans hv') h0
  · have e3' : (va_up σ 1 r1) 3 = σ 0 := e3
    refine sp_X9_holiday (n := n) (by show WF (σ 3) n; rw [e3]; exact hW) (fun y hy h0' => ?_) (fun j' b1' ej' hv' r4 => ?_)
    · try rw [e3'] at hy
      exact absurd (hy.symm.trans hv) h0'
    · have qj : j' = j := nI_inj6 ej ej' (by omega) (by omega)
      rw [e3', qj]
      exact hq _ hR
theorem pr_two {p q m : Int32} (h : Rel σ) (K : ∀ r σ1, Twn E mX9_two [.ref (ad E 18 0), .int p, .int q, .int m] σ1 r → P r σ1) : Mi E mX8_two [.ref (ad E 0 0), .int p, .int q, .int m] σ P := by
  have hR := h
  obtain ⟨n, n2, N, t, c, hW, hW2, dw, dw2, lt, ht, h16, e3, e5, e11, e12, e13, ga, gb, gc⟩ := h
  have hn6 := hW.2.1
  refine sp_X8_two hW (fun x hx h0 => K _ _ (fun Q hq => ?_)) (fun a b j b3 b4 ea eb b7 ej hv r1 => K _ _ (fun Q hq => ?_))
  · have e3' : (rfs σ 9 x) 3 = σ 0 := e3
    refine sp_X9_two (n := n) (by show WF (σ 3) n; rw [e3]; exact hW) (fun y hy h0' => ?_) (fun a' b' j' b3' b4' ea' eb' b7' ej' hv' r4 => ?_)
    · try rw [e3'] at hy
      rw [hx] at hy
      rw [← hy]
      exact hq _ (Rel_rfs hR)
    · try rw [e3'] at hv'
      exact absurd (hx.symm.trans hv') h0
  · have e3' : (va_up σ 1 r1) 3 = σ 0 := e3
    refine sp_X9_two (n := n) (by show WF (σ 3) n; rw [e3]; exact hW) (fun y hy h0' => ?_) (fun a' b' j' b3' b4' ea' eb' b7' ej' hv' r4 => ?_)
    · try rw [e3'] at hy
      exact absurd (hy.symm.trans hv) h0'
    · have qa : a' = a := nI_inj6 ea ea' (by omega) (by omega)
      have qb : b' = b := nI_inj6 eb eb' (by omega) (by omega)
      have qj : j' = j := nI_inj6 ej ej' (by omega) (by omega)
      rw [e3', qa, qb, qj]
      exact hq _ hR
theorem pr_fever {p m t0 v w : Int32} (h : Rel σ) (K : ∀ r σ1, TwnL E mX9_fever [.ref (ad E 18 0), .int p, .int m, .int t0, .int v, .int w] σ1 r → Pl r σ1) : Ml E mX8_fever [.ref (ad E 0 0), .int p, .int m, .int t0, .int v, .int w] σ Pl := by
  have hR := h
  obtain ⟨n, n2, N, t, c, hW, hW2, dw, dw2, lt, ht, h16, e3, e5, e11, e12, e13, ga, gb, gc⟩ := h
  have hn6 := hW.2.1
  refine sp_X8_fever hW (fun x hx h0 => K _ _ (fun Q hq => ?_)) (fun a j T V b4 ea b6 ej b8 b9 eT b11 eV b13 hv r1 => K _ _ (fun Q hq => ?_))
  · have e3' : (rfs σ 9 x) 3 = σ 0 := e3
    refine sp_X9_fever (n := n) (by show WF (σ 3) n; rw [e3]; exact hW) (fun y hy h0' => ?_) (fun a' j' T' V' b4' ea' b6' ej' b8' b9' eT' b11' eV' b13' hv' r4 => ?_)
    · try rw [e3'] at hy
      rw [hx] at hy
      rw [← hy]
      exact hq _ (Rel_rfs hR)
    · try rw [e3'] at hv'
      exact absurd (hx.symm.trans hv') h0
  · have e3' : (va_up σ 1 r1) 3 = σ 0 := e3
    refine sp_X9_fever (n := n) (by show WF (σ 3) n; rw [e3]; exact hW) (fun y hy h0' => ?_) (fun a' j' T' V' b4' ea' b6' ej' b8' b9' eT' b11' eV' b13' hv' r4 => ?_)
    · try rw [e3'] at hy
      exact absurd (hy.symm.trans hv) h0'
    · have qa : a' = a := nI_inj6 ea ea' (by omega) (by omega)
      have qj : j' = j := nI_inj6 ej ej' (by omega) (by omega)
      have qT : T' = T := nI_inj6 eT eT' (by omega) (by omega)
      have qV : V' = V := nI_inj6 eV eV' (by omega) (by omega)
      rw [e3', qa, qj, qT, qV]
      exact hq _ hR
theorem pr_frees {p w : Int32} (h : Rel σ) (K : ∀ r σ1, Twn E mX9_frees [.ref (ad E 18 0), .int p, .int w] σ1 r → P r σ1) : Mi E mX8_frees [.ref (ad E 0 0), .int p, .int w] σ P := by
  have hR := h
  obtain ⟨n, n2, N, t, c, hW, hW2, dw, dw2, lt, ht, h16, e3, e5, e11, e12, e13, ga, gb, gc⟩ := h
  have hn6 := hW.2.1
  refine sp_X8_frees hW (fun x hx h0 => K _ _ (fun Q hq => ?_)) (fun q b1 eq hv => K _ _ (fun Q hq => ?_))
  · have e3' : (rfs σ 9 x) 3 = σ 0 := e3
    refine sp_X9_frees (n := n) (by show WF (σ 3) n; rw [e3]; exact hW) (fun y hy h0' => ?_) (fun q' b1' eq' hv' => ?_)
    · try rw [e3'] at hy
      rw [hx] at hy
      rw [← hy]
      exact hq _ (Rel_rfs hR)
    · try rw [e3'] at hv'
      exact absurd (hx.symm.trans hv') h0
  · have e3' : (va_up σ 0 (frR (σ 0) q w)) 3 = σ 0 := e3
    refine sp_X9_frees (n := n) (by show WF (σ 3) n; rw [e3]; exact hW) (fun y hy h0' => ?_) (fun q' b1' eq' hv' => ?_)
    · try rw [e3'] at hy
      exact absurd (hy.symm.trans hv) h0'
    · have qq : q' = q := nI_inj6 eq eq' (by omega) (by omega)
      rw [e3', qq]
      obtain ⟨j, hj, rfl⟩ := isWd_ex (vFrees_wd hv)
      exact hq _ ⟨n, n2, N, t, c, frR_WF hW (by omega) hj, hW2, DW_c dw (upd_ne (by omega)) (upd_ne (by omega)), dw2, lt, ht, h16, rfl, e5, e11, e12, e13, ga, gb, gc⟩
theorem pr_gives {p q w : Int32} (h : Rel σ) (K : ∀ r σ1, Twn E mX9_gives [.ref (ad E 18 0), .int p, .int q, .int w] σ1 r → P r σ1) : Mi E mX8_gives [.ref (ad E 0 0), .int p, .int q, .int w] σ P := by
  have hR := h
  obtain ⟨n, n2, N, t, c, hW, hW2, dw, dw2, lt, ht, h16, e3, e5, e11, e12, e13, ga, gb, gc⟩ := h
  have hn6 := hW.2.1
  refine sp_X8_gives hW (fun x hx h0 => K _ _ (fun Q hq => ?_)) (fun a b j b3 b4 b5 ea eb ej hv => K _ _ (fun Q hq => ?_))
  · have e3' : (rfs σ 9 x) 3 = σ 0 := e3
    refine sp_X9_gives (n := n) (by show WF (σ 3) n; rw [e3]; exact hW) (fun y hy h0' => ?_) (fun a' b' j' b3' b4' b5' ea' eb' ej' hv' => ?_)
    · try rw [e3'] at hy
      rw [hx] at hy
      rw [← hy]
      exact hq _ (Rel_rfs hR)
    · try rw [e3'] at hv'
      exact absurd (hx.symm.trans hv') h0
  · have e3' : (va_up σ 0 (mvd (σ 0) a b w)) 3 = σ 0 := e3
    refine sp_X9_gives (n := n) (by show WF (σ 3) n; rw [e3]; exact hW) (fun y hy h0' => ?_) (fun a' b' j' b3' b4' b5' ea' eb' ej' hv' => ?_)
    · try rw [e3'] at hy
      exact absurd (hy.symm.trans hv) h0'
    · have qa : a' = a := nI_inj6 ea ea' (by omega) (by omega)
      have qb : b' = b := nI_inj6 eb eb' (by omega) (by omega)
      have qj : j' = j := nI_inj6 ej ej' (by omega) (by omega)
      rw [e3', qa, qb]
      rw [ej] at hq ⊢
      exact hq _ ⟨n, n2, N, t, c, mvd_WF hW (by omega) (by omega) (by omega), hW2, DW_c dw (mvd_0 (by omega)) (mvd_0 (by omega)), dw2, lt, ht, h16, rfl, e5, e11, e12, e13, ga, gb, gc⟩
theorem pr_rests {p v : Int32} (h : Rel σ) (K : ∀ r σ1, Twn E mX9_rests [.ref (ad E 18 0), .int p, .int v] σ1 r → P r σ1) : Mi E mX8_rests [.ref (ad E 0 0), .int p, .int v] σ P := by
  have hR := h
  obtain ⟨n, n2, N, t, c, hW, hW2, dw, dw2, lt, ht, h16, e3, e5, e11, e12, e13, ga, gb, gc⟩ := h
  have hn6 := hW.2.1
  refine sp_X8_rests hW (fun x hx h0 => K _ _ (fun Q hq => ?_)) (fun q b1 eq hv => K _ _ (fun Q hq => ?_))
  · have e3' : (rfs σ 9 x) 3 = σ 0 := e3
    refine sp_X9_rests (n := n) (by show WF (σ 3) n; rw [e3]; exact hW) (fun y hy h0' => ?_) (fun q' b1' eq' hv' => ?_)
    · try rw [e3'] at hy
      rw [hx] at hy
      rw [← hy]
      exact hq _ (Rel_rfs hR)
    · try rw [e3'] at hv'
      exact absurd (hx.symm.trans hv') h0
  · have e3' : (va_up σ 0 (upd (σ 0) (6 + 5 * q) v)) 3 = σ 0 := e3
    refine sp_X9_rests (n := n) (by show WF (σ 3) n; rw [e3]; exact hW) (fun y hy h0' => ?_) (fun q' b1' eq' hv' => ?_)
    · try rw [e3'] at hy
      exact absurd (hy.symm.trans hv) h0'
    · have qq : q' = q := nI_inj6 eq eq' (by omega) (by omega)
      rw [e3', qq]
      obtain ⟨j, hj, rfl⟩ := outs_N (b := 30) (by omega) (vRests_ok hv)
      exact hq _ ⟨n, n2, N, t, c, updt_WF hW (by omega), hW2, DW_c dw (upd_ne (by omega)) (upd_ne (by omega)), dw2, lt, ht, h16, rfl, e5, e11, e12, e13, ga, gb, gc⟩
theorem pr_turn {p k f : Int32} (h : Rel σ) (K : ∀ r σ1, Twn E mX9_turn [.ref (ad E 18 0), .int p, .int k, .int f] σ1 r → P r σ1) : Mi E mX8_turn [.ref (ad E 0 0), .int p, .int k, .int f] σ P := by
  have hR := h
  obtain ⟨n, n2, N, t, c, hW, hW2, dw, dw2, lt, ht, h16, e3, e5, e11, e12, e13, ga, gb, gc⟩ := h
  have hn6 := hW.2.1
  refine sp_X8_turn hW (fun x hx h0 => K _ _ (fun Q hq => ?_)) (fun q b1 eq hv => K _ _ (fun Q hq => ?_))
  · have e3' : (rfs σ 9 x) 3 = σ 0 := e3
    refine sp_X9_turn (n := n) (by show WF (σ 3) n; rw [e3]; exact hW) (fun y hy h0' => ?_) (fun q' b1' eq' hv' => ?_)
    · try rw [e3'] at hy
      rw [hx] at hy
      rw [← hy]
      exact hq _ (Rel_rfs hR)
    · try rw [e3'] at hv'
      exact absurd (hx.symm.trans hv') h0
  · have e3' : (va_up σ 0 (upd (upd (σ 0) (3 + 5 * q) k) (4 + 5 * q) f)) 3 = σ 0 := e3
    refine sp_X9_turn (n := n) (by show WF (σ 3) n; rw [e3]; exact hW) (fun y hy h0' => ?_) (fun q' b1' eq' hv' => ?_)
    · try rw [e3'] at hy
      exact absurd (hy.symm.trans hv) h0'
    · have qq : q' = q := nI_inj6 eq eq' (by omega) (by omega)
      rw [e3', qq]
      obtain ⟨kk, ff, hk6, hf10, rfl, rfl⟩ := vTurn_ok hv
      exact hq _ ⟨n, n2, N, t, c, updf_WF (updk_WF hW hk6) hf10, hW2, DW_c dw ((upd_ne (by omega)).trans (upd_ne (by omega))) ((upd_ne (by omega)).trans (upd_ne (by omega))), dw2, lt, ht, h16, rfl, e5, e11, e12, e13, ga, gb, gc⟩
theorem pr_days {m : Int32} (h : Rel σ) (K : ∀ r σ1, Twn E mX9_days [.ref (ad E 18 0), .int m] σ1 r → P r σ1) : Mi E mX8_days [.ref (ad E 0 0), .int m] σ P := by
  have hR := h
  obtain ⟨n, n2, N, t, c, hW, hW2, dw, dw2, lt, ht, h16, e3, e5, e11, e12, e13, ga, gb, gc⟩ := h
  have hn6 := hW.2.1
  refine sp_X8_days hW (fun x hx h0 => K _ _ (fun Q hq => ?_)) (fun j b1 ej hv => K _ _ (fun Q hq => ?_))
  · have e3' : (rfs σ 9 x) 3 = σ 0 := e3
    refine sp_X9_days (n := n) (by show WF (σ 3) n; rw [e3]; exact hW) (fun y hy h0' => ?_) (fun j' b1' ej' hv' => ?_)
    · try rw [e3'] at hy
      rw [hx] at hy
      rw [← hy]
      exact hq _ (Rel_rfs hR)
    · try rw [e3'] at hv'
      exact absurd (hx.symm.trans hv') h0
  · have e3' : (va_up σ 0 (dayN 0 n (σ 0) j)) 3 = σ 0 := e3
    refine sp_X9_days (n := n) (by show WF (σ 3) n; rw [e3]; exact hW) (fun y hy h0' => ?_) (fun j' b1' ej' hv' => ?_)
    · try rw [e3'] at hy
      exact absurd (hy.symm.trans hv) h0'
    · have qj : j' = j := nI_inj6 ej ej' (by omega) (by omega)
      rw [e3', qj]
      rw [ej] at hv
      exact hq _ ⟨n, n2, N, t, c, dayN_WF hW j, hW2, DW_day hW dw (vDays_ok hv) (by omega), dw2, lt, ht, h16, rfl, e5, e11, e12, e13, ga, gb, gc⟩
theorem pr_falls {p : Int32} (h : Rel σ) (K : ∀ r σ1, Twn E mX9_falls [.ref (ad E 18 0), .int p] σ1 r → P r σ1) : Mi E mX8_falls [.ref (ad E 0 0), .int p] σ P := by
  have hR := h
  obtain ⟨n, n2, N, t, c, hW, hW2, dw, dw2, lt, ht, h16, e3, e5, e11, e12, e13, ga, gb, gc⟩ := h
  have hn6 := hW.2.1
  refine sp_X8_falls hW (fun hr => K _ _ (fun Q hq => ?_)) (fun hr r1 => K _ _ (fun Q hq => ?_))
  · refine sp_X9_falls (n := n) (by show WF (σ 3) n; rw [e3]; exact hW) (fun _ => hq _ (Rel_rfs hR)) (fun hr' => ?_)
    rcases hr' with q | q
    · exact absurd q hr.1
    · rw [hr.2] at q; cases q
  · have e3' : (va_up σ 1 r1) 3 = σ 0 := e3
    refine sp_X9_falls (n := n) (by show WF (σ 3) n; rw [e3]; exact hW) (fun hr' => ?_) (fun _ r4 => ?_)
    · rcases hr with q | q
      · exact absurd q hr'.1
      · rw [hr'.2] at q; cases q
    · rw [e3']
      exact hq _ hR
theorem pr_still (h : Rel σ) (K : ∀ r σ1, Twn E mX9_still [.ref (ad E 18 0)] σ1 r → P r σ1) : Mi E mX8_still [.ref (ad E 0 0)] σ P := by
  have hR := h
  obtain ⟨n, n2, N, t, c, hW, hW2, dw, dw2, lt, ht, h16, e3, e5, e11, e12, e13, ga, gb, gc⟩ := h
  have hn6 := hW.2.1
  obtain ⟨d, w, d1, d2, d3, d4⟩ := dw
  refine sp_X8_still hW (fun r1 => K _ _ (fun Q hq => ?_))
  have e3' : (va_up σ 1 r1) 3 = σ 0 := e3
  refine sp_X9_still (n := n) (w := w) (by show WF (σ 3) n; rw [e3]; exact hW) (by rw [e3']; exact d2) (by omega) (fun r4 => ?_)
  rw [e3']
  exact hq _ hR
theorem pr_meet {p q : Int32} (h : Rel σ) (K : ∀ r σ1, Twn E mX9_meet [.ref (ad E 18 0), .int p, .int q] σ1 r → P r σ1) : Mi E mX8_meet [.ref (ad E 0 0), .int p, .int q] σ P := by
  have hR := h
  obtain ⟨n, n2, N, t, c, hW, hW2, dw, dw2, lt, ht, h16, e3, e5, e11, e12, e13, ga, gb, gc⟩ := h
  have hn6 := hW.2.1
  refine sp_X8_meet hW (fun hr => K _ _ (fun Q hq => ?_)) (fun a b ha hb ea eb hr => K _ _ (fun Q hq => ?_))
  · exact sp_X9_meet (n := n) (by show WF (σ 3) n; rw [e3]; exact hW) (fun _ => hq _ (Rel_rfs hR)) (fun a b ha hb ea eb hr' => by rw [hr] at hr'; cases hr')
  · refine sp_X9_meet (n := n) (by show WF (σ 3) n; rw [e3]; exact hW) (fun hr' => by rw [hr] at hr'; cases hr') (fun a' b' ha' hb' ea' eb' hr' => ?_)
    have qa : a' = a := nI_inj6 ea ea' (by omega) (by omega)
    have qb : b' = b := nI_inj6 eb eb' (by omega) (by omega)
    rw [e3, qa, qb]
    exact hq _ hR
theorem pr_rest {p : Int32} (h : Rel σ) (K : ∀ r σ1, Twn E mX9_rest [.ref (ad E 18 0), .int p] σ1 r → P r σ1) : Mi E mX8_rest [.ref (ad E 0 0), .int p] σ P := by
  have hR := h
  obtain ⟨n, n2, N, t, c, hW, hW2, dw, dw2, lt, ht, h16, e3, e5, e11, e12, e13, ga, gb, gc⟩ := h
  have hn6 := hW.2.1
  refine sp_X8_rest hW (fun hr => K _ _ (fun Q hq => ?_)) (fun a ha ea hr => K _ _ (fun Q hq => ?_))
  · exact sp_X9_rest (n := n) (by show WF (σ 3) n; rw [e3]; exact hW) (fun _ => hq _ (Rel_rfs hR)) (fun a ha ea hr' => by rw [hr] at hr'; cases hr')
  · refine sp_X9_rest (n := n) (by show WF (σ 3) n; rw [e3]; exact hW) (fun hr' => by rw [hr] at hr'; cases hr') (fun a' ha' ea' hr' => ?_)
    have qa : a' = a := nI_inj6 ea ea' (by omega) (by omega)
    rw [e3, qa]
    exact hq _ hR
theorem pr_fewest {m : Int32} (h : Rel σ) (K : ∀ r σ1, Twn E mX9_fewest [.ref (ad E 18 0), .int m] σ1 r → P r σ1) : Mi E mX8_fewest [.ref (ad E 0 0), .int m] σ P := by
  have hR := h
  obtain ⟨n, n2, N, t, c, hW, hW2, dw, dw2, lt, ht, h16, e3, e5, e11, e12, e13, ga, gb, gc⟩ := h
  have hn6 := hW.2.1
  refine sp_X8_fewest hW (fun hr => K _ _ (fun Q hq => ?_)) (fun j hj ej hr r1 => K _ _ (fun Q hq => ?_))
  · exact sp_X9_fewest (n := n) (by show WF (σ 3) n; rw [e3]; exact hW) (fun _ => hq _ (Rel_rfs hR)) (fun j hj ej hr' r4 => absurd hr' hr)
  · have e3' : (va_up σ 1 r1) 3 = σ 0 := e3
    refine sp_X9_fewest (n := n) (by show WF (σ 3) n; rw [e3]; exact hW) (fun hr' => absurd hr hr') (fun j' hj' ej' hr' r4 => ?_)
    have qj : j' = j := nI_inj6 ej ej' (by omega) (by omega)
    rw [e3', qj]
    exact hq _ hR
theorem pr_send {m : Int32} (h : Rel σ) (K : ∀ r σ1, Twn E mX9_send [.ref (ad E 18 0), .int m] σ1 r → P r σ1) : Mi E mX8_send [.ref (ad E 0 0), .int m] σ P := by
  have hR := h
  obtain ⟨n, n2, N, t, c, hW, hW2, dw, dw2, lt, ht, h16, e3, e5, e11, e12, e13, ga, gb, gc⟩ := h
  have hn6 := hW.2.1
  refine sp_X8_send hW (fun hr => K _ _ (fun Q hq => ?_)) (fun j hj ej hr r1 => K _ _ (fun Q hq => ?_))
  · exact sp_X9_send (n := n) (by show WF (σ 3) n; rw [e3]; exact hW) (fun _ => hq _ (Rel_rfs hR)) (fun j hj ej hr' r4 => absurd hr' hr)
  · have e3' : (va_up σ 1 r1) 3 = σ 0 := e3
    refine sp_X9_send (n := n) (by show WF (σ 3) n; rw [e3]; exact hW) (fun hr' => absurd hr hr') (fun j' hj' ej' hr' r4 => ?_)
    have qj : j' = j := nI_inj6 ej ej' (by omega) (by omega)
    rw [e3', qj]
    exact hq _ hR
theorem pr_mean {w : Int32} (h : Rel σ) (K : ∀ r σ1, TwnL E mX9_mean [.ref (ad E 18 0), .int w] σ1 r → Pl r σ1) : Ml E mX8_mean [.ref (ad E 0 0), .int w] σ Pl := by
  have hR := h
  obtain ⟨n, n2, N, t, c, hW, hW2, dw, dw2, lt, ht, h16, e3, e5, e11, e12, e13, ga, gb, gc⟩ := h
  have hn6 := hW.2.1
  refine sp_X8_mean hW (fun hr => K _ _ (fun Q hq => ?_)) (fun s es hs hr => K _ _ (fun Q hq => ?_))
  · exact sp_X9_mean (n := n) (by show WF (σ 3) n; rw [e3]; exact hW) (fun _ => hq _ (Rel_rfs hR)) (fun s es hs hr' => by rw [hr] at hr'; cases hr')
  · refine sp_X9_mean (n := n) (by show WF (σ 3) n; rw [e3]; exact hW) (fun hr' => by rw [hr] at hr'; cases hr') (fun s' es' hs' hr' => ?_)
    rw [e3] at es'
    have qs : s' = s := nI_inj6 es es' (by omega) (by omega)
    rw [qs]
    exact hq _ hR
theorem pr_whatIs {p w : Int32} (h : Rel σ) (K : ∀ r σ1, Twn E mX9_whatIs [.ref (ad E 18 0), .int p, .int w] σ1 r → P r σ1) : Mi E mX8_whatIs [.ref (ad E 0 0), .int p, .int w] σ P := by
  have hR := h
  obtain ⟨n, n2, N, t, c, hW, hW2, dw, dw2, lt, ht, h16, e3, e5, e11, e12, e13, ga, gb, gc⟩ := h
  have hn6 := hW.2.1
  have ht' : σ 15 2 = nI t := gb.trans ht
  refine sp_X8_whatIs hW ht h16 (fun x hx h0 => K _ _ (fun Q hq => ?_)) (fun q e hqn eq he ee hv r1 => K _ _ (fun Q hq => ?_))
  · refine sp_X9_whatIs (n := n) (c := t) (by show WF (σ 3) n; rw [e3]; exact hW) ht' h16 (fun y hy h0' => ?_) (fun q e hqn eq he ee hv' r4 => absurd (hx.symm.trans hv') h0)
    rw [hx] at hy
    rw [← hy]
    exact hq _ (Rel_rfs hR)
  · have e3' : (va_up σ 1 r1) 3 = σ 0 := e3
    have e12' : (va_up σ 1 r1) 12 = σ 8 := e12
    refine sp_X9_whatIs (n := n) (c := t) (by show WF (σ 3) n; rw [e3]; exact hW) ht' h16 (fun y hy h0' => absurd (hy.symm.trans hv) h0') (fun q' e' hqn' eq' he' ee' hv' r4 => ?_)
    have qq : q' = q := nI_inj6 eq eq' (by omega) (by omega)
    have qe : e' = e := nI_inj6 ee ee' (by omega) (by omega)
    rw [e3', e12', qq, qe]
    exact hq _ hR
theorem pr_row {v : Int32} (h : Rel σ) (K : ∀ r σ1, Twn E mX9_row [.ref (ad E 18 0), .int v] σ1 r → P r σ1) : Mi E mX8_row [.ref (ad E 0 0), .int v] σ P := by
  have hR := h
  obtain ⟨n, n2, N, t, c, hW, hW2, dw, dw2, lt, ht, h16, e3, e5, e11, e12, e13, ga, gb, gc⟩ := h
  have hn6 := hW.2.1
  have ht' : σ 15 2 = nI t := gb.trans ht
  refine sp_X8_row ht h16 (fun x hx h0 => K _ _ (fun Q hq => ?_)) (fun hv htl => K _ _ (fun Q hq => ?_))
  · refine sp_X9_row (c := t) ht' h16 (fun y hy h0' => ?_) (fun hv' _ => absurd (hx.symm.trans hv') h0)
    rw [hx] at hy
    rw [← hy]
    exact hq _ (Rel_rfs hR)
  · refine sp_X9_row (c := t) ht' h16 (fun y hy h0' => absurd (hy.symm.trans hv) h0') (fun hv' _ => ?_)
    refine hq _ ⟨n, n2, N, t + 1, c, hW, hW2, dw, dw2, ⟨lt.1, lt.2.1, ?_, lt.2.2.2⟩, ?_, by omega, e3, e5, e11, ?_, e13, ?_, ?_, ?_⟩
    · show upd (σ 10) 1 (nI (t + 1)) 2 = nI N
      rw [upd_ne (by omega)]; exact lt.2.2.1
    · show upd (σ 10) 1 (nI (t + 1)) 1 = nI (t + 1)
      exact upd_eq
    · show upd (σ 12) t v = upd (σ 8) t v
      rw [e12]
    · show upd (σ 15) 2 (nI (t + 1)) 0 = upd (σ 10) 1 (nI (t + 1)) 0
      rw [upd_ne (by omega), upd_ne (by omega)]; exact ga
    · show upd (σ 15) 2 (nI (t + 1)) 2 = upd (σ 10) 1 (nI (t + 1)) 1
      rw [upd_eq, upd_eq]
    · show upd (σ 15) 2 (nI (t + 1)) 1 = upd (σ 10) 1 (nI (t + 1)) 2
      rw [upd_ne (by omega), upd_ne (by omega)]; exact gc
theorem Rel_clear (h : Rel σ) : Rel (s2 (s2 σ 10 1 0) 15 2 0) := by
  obtain ⟨n, n2, N, t, c, hW, hW2, dw, dw2, lt, ht, h16, e3, e5, e11, e12, e13, ga, gb, gc⟩ := h
  refine ⟨n, n2, N, 0, c, hW, hW2, dw, dw2, ⟨lt.1, lt.2.1, ?_, lt.2.2.2⟩, ?_, by omega, e3, e5, e11, e12, e13, ?_, ?_, ?_⟩
  · show upd (σ 10) 1 0 2 = nI N
    rw [upd_ne (by omega)]; exact lt.2.2.1
  · show upd (σ 10) 1 0 1 = nI 0
    exact upd_eq
  · show upd (σ 15) 2 0 0 = upd (σ 10) 1 0 0
    rw [upd_ne (by omega), upd_ne (by omega)]; exact ga
  · show upd (σ 15) 2 0 2 = upd (σ 10) 1 0 1
    rw [upd_eq, upd_eq]
  · show upd (σ 15) 2 0 1 = upd (σ 10) 1 0 2
    rw [upd_ne (by omega), upd_ne (by omega)]; exact gc
theorem pr_judge (h : Rel σ) (K : ∀ r σ1, Twn E mX9_judge [.ref (ad E 18 0)] σ1 r → P r σ1) : Mi E mX8_judge [.ref (ad E 0 0)] σ P := by
  have hR := h
  obtain ⟨n, n2, N, t, c, hW, hW2, dw, dw2, lt, ht, h16, e3, e5, e11, e12, e13, ga, gb, gc⟩ := h
  have hn6 := hW.2.1
  have ht' : σ 15 2 = nI t := gb.trans ht
  refine sp_X8_judge hW ht h16 (K _ _ (fun Q hq => ?_))
  have e3' : (s2 σ 10 1 0) 3 = σ 0 := e3
  have e12' : (s2 σ 10 1 0) 12 = σ 8 := e12
  refine sp_X9_judge (n := n) (c := t) (by show WF (σ 3) n; rw [e3]; exact hW) ht' h16 ?_
  rw [e3', e12']
  exact hq _ (Rel_clear hR)
theorem pr_clear (h : Rel σ) (K : ∀ r σ1, Twn E mX9_clear [.ref (ad E 18 0)] σ1 r → P r σ1) : Mi E mX8_clear [.ref (ad E 0 0)] σ P := by
  have hR := h
  obtain ⟨n, n2, N, t, c, hW, hW2, dw, dw2, lt, ht, h16, e3, e5, e11, e12, e13, ga, gb, gc⟩ := h
  have hn6 := hW.2.1
  refine sp_X8_clear (K _ _ (fun Q hq => ?_))
  refine sp_X9_clear ?_
  have e' : (s2 σ 10 1 0) 15 2 = σ 10 1 := gb
  rw [e']
  exact hq _ (Rel_clear hR)
theorem pr_lots {m z w : Int32} (h : Rel σ) (K : ∀ r σ1, Twn E mX9_lots [.ref (ad E 18 0), .int m, .int z, .int w] σ1 r → P r σ1) : Mi E mX8_lots [.ref (ad E 0 0), .int m, .int z, .int w] σ P := by
  have hR := h
  obtain ⟨n, n2, N, t, c, hW, hW2, dw, dw2, lt, ht, h16, e3, e5, e11, e12, e13, ga, gb, gc⟩ := h
  have hn6 := hW.2.1
  refine sp_X8_lots hW (fun x hx h0 => K _ _ (fun Q hq => ?_)) (fun j hj ej hv r1 => K _ _ (fun Q hq => ?_))
  · refine sp_X9_lots (n := n) (by show WF (σ 3) n; rw [e3]; exact hW) (fun y hy h0' => ?_) (fun j hj ej hv' r4 z' => absurd (hx.symm.trans hv') h0)
    rw [hx] at hy
    rw [← hy]
    exact hq _ (Rel_rfs hR)
  · have e3' : (va_up σ 1 r1) 3 = σ 0 := e3
    refine sp_X9_lots (n := n) (by show WF (σ 3) n; rw [e3]; exact hW) (fun y hy h0' => absurd (hy.symm.trans hv) h0') (fun j' hj' ej' hv' r4 z' => ?_)
    have qj : j' = j := nI_inj6 ej ej' (by omega) (by omega)
    rw [e3', qj]
    refine hq _ ⟨n, n2, N, t, c, hW, hW2, dw, dw2, lt, ht, h16, e3, e5, e11, e12, e13, ?_, ?_, ?_⟩
    · show upd (σ 15) 4 z' 0 = σ 10 0
      rw [upd_ne (by omega)]; exact ga
    · show upd (σ 15) 4 z' 2 = σ 10 1
      rw [upd_ne (by omega)]; exact gb
    · show upd (σ 15) 4 z' 1 = σ 10 2
      rw [upd_ne (by omega)]; exact gc
theorem pr_image (h : Rel σ) (K : ∀ r σ1, Twn E mX9_image [.ref (ad E 18 0)] σ1 r → P r σ1) : Mi E mX8_image [.ref (ad E 0 0)] σ P := by
  have hR := h
  obtain ⟨n, n2, N, t, c, hW, hW2, dw, dw2, lt, ht, h16, e3, e5, e11, e12, e13, ga, gb, gc⟩ := h
  have hn6 := hW.2.1
  refine sp_X8_image (K _ _ (fun Q hq => ?_))
  refine sp_X9_image ?_
  have e' : (s2 (va_up σ 2 (σ 0)) 10 0 1) 3 = σ 0 := e3
  rw [e']
  refine hq _ ⟨n, n, N, t, c, hW, hW, dw, dw, ⟨lt.1, lt.2.1, ?_, lt.2.2.2⟩, ?_, h16, e3, rfl, e11, e12, e13, ?_, ?_, ?_⟩
  · show upd (σ 10) 0 1 2 = nI N
    rw [upd_ne (by omega)]; exact lt.2.2.1
  · show upd (σ 10) 0 1 1 = nI t
    rw [upd_ne (by omega)]; exact ht
  · show upd (σ 15) 0 1 0 = upd (σ 10) 0 1 0
    rw [upd_eq, upd_eq]
  · show upd (σ 15) 0 1 2 = upd (σ 10) 0 1 1
    rw [upd_ne (by omega), upd_ne (by omega)]; exact gb
  · show upd (σ 15) 0 1 1 = upd (σ 10) 0 1 2
    rw [upd_ne (by omega), upd_ne (by omega)]; exact gc
theorem pr_on (h : Rel σ) (K : ∀ r σ1, Twn E mX9_on [.ref (ad E 18 0)] σ1 r → P r σ1) : Mi E mX8_on [.ref (ad E 0 0)] σ P := by
  have hR := h
  obtain ⟨n, n2, N, t, c, hW, hW2, dw, dw2, lt, ht, h16, e3, e5, e11, e12, e13, ga, gb, gc⟩ := h
  have hn6 := hW.2.1
  refine sp_X8_on (fun hr => K _ _ (fun Q hq => ?_)) (fun hr => K _ _ (fun Q hq => ?_))
  · exact sp_X9_on (fun _ => hq _ (Rel_rfs hR)) (fun hr' => absurd (ga.trans hr) hr')
  · refine sp_X9_on (fun hr' => absurd (ga.symm.trans hr') hr) (fun _ => ?_)
    have e' : (va_up σ 0 (σ 2)) 5 = σ 2 := e5
    rw [e']
    exact hq _ ⟨n2, n2, N, t, c, hW2, hW2, dw2, dw2, lt, ht, h16, rfl, e5, e11, e12, e13, ga, gb, gc⟩
theorem pr_count {w : Int32} (h : Rel σ) (K : ∀ r σ1, Twn E mX9_count [.ref (ad E 18 0), .int w] σ1 r → P r σ1) : Mi E mX8_count [.ref (ad E 0 0), .int w] σ P := by
  have hR := h
  obtain ⟨n, n2, N, t, c, hW, hW2, dw, dw2, lt, ht, h16, e3, e5, e11, e12, e13, ga, gb, gc⟩ := h
  have hn6 := hW.2.1
  refine sp_X8_count hW (K _ _ (fun Q hq => ?_))
  refine sp_X9_count (n := n) (by show WF (σ 3) n; rw [e3]; exact hW) ?_
  rw [e3, e13, gb, gc]
  exact hq _ hR
theorem pr_letter {x : Int32} (h : Rel σ) (K : ∀ r σ1, Twn E mX9_letter [.ref (ad E 18 0), .int x] σ1 r → P r σ1) : Mi E mX8_letter [.ref (ad E 0 0), .int x] σ P := by
  have hR := h
  obtain ⟨n, n2, N, t, c, hW, hW2, dw, dw2, lt, ht, h16, e3, e5, e11, e12, e13, ga, gb, gc⟩ := h
  have hn6 := hW.2.1
  obtain ⟨l1, l2, l3, l4⟩ := id lt
  have l3' : σ 15 1 = nI N := gc.trans l3
  refine sp_X8_letter l3 l4 (fun y hy h0 => K _ _ (fun Q hq => ?_)) (fun j hj ej hN hv => K _ _ (fun Q hq => ?_))
  · refine sp_X9_letter (N := N) l3' l4 (fun z hz h0' => ?_) (fun j hj ej hN hv' => absurd (hy.symm.trans hv') h0)
    rw [hy] at hz
    rw [← hz]
    exact hq _ (Rel_rfs hR)
  · refine sp_X9_letter (N := N) l3' l4 (fun z hz h0' => absurd (hz.symm.trans hv) h0') (fun j' hj' ej' hN' hv' => ?_)
    refine hq _ ⟨n, n2, N + 1, t, fun i => if i = N then j else c i, hW, hW2, dw, dw2, ⟨fun i => ?_, fun i => ?_, ?_, by omega⟩, ?_, h16, e3, e5, ?_, e12, e13, ?_, ?_, ?_⟩
    · show upd (σ 7) N x i = nI (if i = N then j else c i)
      by_cases q : i = N
      · rw [q, upd_eq, if_pos rfl]; exact ej
      · rw [upd_ne q, if_neg q]; exact l1 i
    · show (if i = N then j else c i) < 256
      split
      · exact hj
      · exact l2 i
    · show upd (σ 10) 2 (nI (N + 1)) 2 = nI (N + 1)
      exact upd_eq
    · show upd (σ 10) 2 (nI (N + 1)) 1 = nI t
      rw [upd_ne (by omega)]; exact ht
    · show upd (σ 11) N x = upd (σ 7) N x
      rw [e11]
    · show upd (σ 15) 1 (nI (N + 1)) 0 = upd (σ 10) 2 (nI (N + 1)) 0
      rw [upd_ne (by omega), upd_ne (by omega)]; exact ga
    · show upd (σ 15) 1 (nI (N + 1)) 2 = upd (σ 10) 2 (nI (N + 1)) 1
      rw [upd_ne (by omega), upd_ne (by omega)]; exact gb
    · show upd (σ 15) 1 (nI (N + 1)) 1 = upd (σ 10) 2 (nI (N + 1)) 2
      rw [upd_eq, upd_eq]
theorem stm_DW {c : Nat → Nat} {N p n : Nat} {r : Row} {x : Row × Nat} (hT : TX c N p) (hW : WF r n) (hd : DW r) (h : stm c p r n = some x) : DW x.1 := by
  have hn6 := hW.2.1
  unfold stm at h
  split at h
  · unfold stW at h
    split at h
    · cases h
      refine DW_c hd ?_ ?_
      · unfold hireR
        dsimp only
        rw [upd_ne (by omega), upd_ne (by omega), upd_ne (by omega), upd_ne (by omega), upd_ne (by omega), upd_ne (by omega)]
      · unfold hireR
        dsimp only
        rw [upd_ne (by omega), upd_ne (by omega), upd_ne (by omega), upd_ne (by omega), upd_ne (by omega), upd_ne (by omega)]
    · cases h
  · split at h
    · unfold stO at h
      split at h
      · cases h
        exact DW_c hd (upd_ne (by omega)) (upd_ne (by omega))
      · cases h
    · split at h
      · unfold stT at h
        split at h
        · cases h
          exact DW_c hd (upd_ne (by omega)) (upd_ne (by omega))
        · cases h
      · split at h
        · unfold stX at h
          split at h
          · cases h
            exact DW_c hd (mvd_0 (by omega)) (mvd_0 (by omega))
          · cases h
        · split at h
          · unfold stD at h
            split at h
            · rename_i hq
              cases h
              exact DW_day hW hd hq.2.2 (by omega)
            · cases h
          · cases h
theorem rnn_ok {c : Nat → Nat} {N : Nat} : ∀ f p r n k, N < f + p → p ≤ N → (p < N → (scn c N f p).1 = none) → WF r n → DW r → WF (rnn c N f p r n k).2.1.1 (rnn c N f p r n k).2.1.2 ∧ DW (rnn c N f p r n k).2.1.1
  | 0, p, r, n, k, h1, h2, _, _, _ => by omega
  | f + 1, p, r, n, k, h1, h2, h3, hW, hd => by
    rw [rnn]
    split
    · rename_i hp
      obtain ⟨ht, hq, hnx⟩ := scn_st hp (h3 hp)
      cases hst : stm c p r n with
      | none => exact ⟨hW, hd⟩
      | some x => exact rnn_ok f _ x.1 x.2 (k + 1) (by omega) hq hnx (stm_WF ht hW hst) (stm_DW ht hW hd hst)
    · exact ⟨hW, hd⟩
theorem wrk_ok {c : Nat → Nat} {N n : Nat} {r : Row} (hW : WF r n) (hd : DW r) : ∃ m, WF (wrk c N r n).2 m ∧ DW (wrk c N r n).2 := by
  unfold wrk
  cases hs : (scn c N (N + 1) 0).1 with
  | some w => exact ⟨n, hW, hd⟩
  | none =>
    have := rnn_ok (c := c) (N := N) (N + 1) 0 r n 0 (by omega) (by omega) (fun _ => hs) hW hd
    show ∃ m, WF (wrk2 (rnn c N (N + 1) 0 r n 0) r).2 m ∧ DW (wrk2 (rnn c N (N + 1) 0 r n 0) r).2
    unfold wrk2
    cases hx : (rnn c N (N + 1) 0 r n 0).1 with
    | some p => exact ⟨n, hW, hd⟩
    | none => exact ⟨_, this.1, this.2⟩
theorem pr_works (h : Rel σ) (K : ∀ r σ1, Twn E mX9_works [.ref (ad E 18 0)] σ1 r → P r σ1) : Mi E mX8_works [.ref (ad E 0 0)] σ P := by
  have hR := h
  obtain ⟨n, n2, N, t, c, hW, hW2, dw, dw2, lt, ht, h16, e3, e5, e11, e12, e13, ga, gb, gc⟩ := h
  have hn6 := hW.2.1
  obtain ⟨l1, l2, l3, l4⟩ := id lt
  obtain ⟨m, hWm, hdm⟩ := wrk_ok (c := c) (N := N) hW dw
  refine sp_X8_works lt hW (fun r1 => K _ _ (fun Q hq => ?_))
  generalize hS : s2 (va_up (va_up σ 1 r1) 0 (wrk c N (σ 0) n).2) 10 2 0 = S1
  have s3 : S1 3 = σ 0 := by rw [← hS]; exact e3
  have s11 : S1 11 = σ 7 := by rw [← hS]; exact e11
  have s15 : S1 15 = σ 15 := by rw [← hS]; rfl
  have LUh : LU S1 c N := by
    unfold LU
    rw [s11, s15]
    exact ⟨l1, l2, gc.trans l3, l4⟩
  refine sp_X9_works (c := c) (N := N) (n := n) LUh (by rw [s3]; exact hW) (fun τ h1 h2 h3 h4 h5 => ?_)
  rw [s3] at h2 ⊢
  rw [s15] at h3 h5
  have g : ∀ a, a ≠ 3 → a ≠ 6 → a ≠ 14 → a ≠ 15 → τ a = s2 (va_up (va_up σ 1 r1) 0 (wrk c N (σ 0) n).2) 10 2 0 a := fun a a1 a2 a3 a4 => by rw [hS]; exact h1 a a1 a2 a3 a4
  have g0 : τ 0 = (wrk c N (σ 0) n).2 := g 0 (by omega) (by omega) (by omega) (by omega)
  have g2 : τ 2 = σ 2 := g 2 (by omega) (by omega) (by omega) (by omega)
  have g5 : τ 5 = σ 5 := g 5 (by omega) (by omega) (by omega) (by omega)
  have g7 : τ 7 = σ 7 := g 7 (by omega) (by omega) (by omega) (by omega)
  have g8 : τ 8 = σ 8 := g 8 (by omega) (by omega) (by omega) (by omega)
  have g9 : τ 9 = σ 9 := g 9 (by omega) (by omega) (by omega) (by omega)
  have g10 : τ 10 = upd (σ 10) 2 0 := g 10 (by omega) (by omega) (by omega) (by omega)
  have g11 : τ 11 = σ 11 := g 11 (by omega) (by omega) (by omega) (by omega)
  have g12 : τ 12 = σ 12 := g 12 (by omega) (by omega) (by omega) (by omega)
  have g13 : τ 13 = σ 13 := g 13 (by omega) (by omega) (by omega) (by omega)
  refine hq τ ⟨m, n2, 0, t, c, by rw [g0]; exact hWm, by rw [g2]; exact hW2, by rw [g0]; exact hdm, by rw [g2]; exact dw2, ⟨fun j => by rw [g7]; exact l1 j, l2, by rw [g10, upd_eq]; rfl, by omega⟩, by rw [g10, upd_ne (by omega)]; exact ht, h16, h2.trans g0.symm, by rw [g5, g2]; exact e5, by rw [g11, g7]; exact e11, by rw [g12, g8]; exact e12, by rw [g13, g9]; exact e13, ?_, ?_, ?_⟩
  · rw [h3, g10, upd_ne (by omega)]; exact ga
  · rw [h5, g10, upd_ne (by omega)]; exact gb
  · rw [h4, g10, upd_eq]
end PAIRS

