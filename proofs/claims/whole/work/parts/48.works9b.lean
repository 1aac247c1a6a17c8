/-! ===== works: the twin's ===== -/
section WORKS9B
variable {E : EnvT} {σ : Sg} {Q : Int32 → Sg → Prop} {Qv : Sg → Prop} {Qr : Nat → Sg → Prop}
theorem bad_none {c : Nat → Nat} {N p : Nat} (h : TX c N p) : bad c N p = none := by
  unfold bad
  have el : ltr c N p = c p := if_pos h.1
  rw [el]
  refine fnd_no _ _ (fun i _ hi => ?_)
  obtain ⟨a, b⟩ := h.2 i (by omega)
  rw [decide_eq_true a, b]; rfl
theorem scn_wr {c : Nat → Nat} {N p w f : Nat} (h : Wr c N p w) : (scn c N (f + 1) p).1 = some w := by
  rw [scn]
  rcases h with ⟨h, rfl⟩ | ⟨h, k, hb, rfl⟩
  · rw [if_pos h]
  · rw [if_neg h, hb]
theorem scn_ok {c : Nat → Nat} {N p f : Nat} (h : TX c N p) (h0 : ¬ sln (shp (c p)) = 0) : scn c N (f + 1) p = if p + 1 + sln (shp (c p)) < N then ((scn c N f (p + 1 + sln (shp (c p)))).1, (scn c N f (p + 1 + sln (shp (c p)))).2 + 1) else (none, 1) := by
  have el : ltr c N p = c p := if_pos h.1
  rw [scn, bad_none h, el, if_neg h0]
theorem TX_le {c : Nat → Nat} {N p : Nat} (h : TX c N p) : p + 1 + sln (shp (c p)) ≤ N := by
  by_cases h0 : sln (shp (c p)) = 0
  · have := h.1; omega
  · have := (h.2 (sln (shp (c p)) - 1) (by omega)).1
    omega
theorem scn_cl {c : Nat → Nat} {N : Nat} : ∀ f p, p ≤ N → (scn c N f p).2 ≤ N + 1 - p
  | 0, _, _ => Nat.zero_le _
  | f + 1, p, hp => by
    rw [scn]
    split
    · exact Nat.zero_le _
    · split
      · exact Nat.zero_le _
      · split
        · rename_i hz _ hlt
          have := scn_cl (c := c) (N := N) f (p + 1 + sln (shp (ltr c N p))) (by omega)
          show (scn c N f (p + 1 + sln (shp (ltr c N p)))).2 + 1 ≤ _
          omega
        · show 1 ≤ _
          omega
def Sm2 (σ τ : Sg) : Prop := (∀ a, a ≠ 3 → a ≠ 6 → a ≠ 14 → a ≠ 15 → τ a = σ a) ∧ ∀ j, j ≠ 3 → τ 15 j = σ 15 j
theorem Sm2_of {τ : Sg} (h : Sm σ τ) : Sm2 σ τ := ⟨fun a _ _ h1 h2 => h.1 a h1 h2, h.2⟩
theorem Sm2_tr {τ υ : Sg} (h : Sm2 σ τ) (g : Sm2 τ υ) : Sm2 σ υ := ⟨fun a h1 h2 h3 h4 => (g.1 a h1 h2 h3 h4).trans (h.1 a h1 h2 h3 h4), fun j hj => (g.2 j hj).trans (h.2 j hj)⟩
theorem Sm2_3 {r : Row} : Sm2 σ (va_up σ 3 r) := ⟨fun a h1 _ _ _ => up_ne h1, fun j _ => by rw [up_ne (by omega)]⟩
theorem Sm2_6 {r : Row} : Sm2 σ (va_up σ 6 r) := ⟨fun a _ h1 _ _ => up_ne h1, fun j _ => by rw [up_ne (by omega)]⟩
theorem LU_Sm2 {τ : Sg} {c : Nat → Nat} {N : Nat} (h : LU σ c N) (g : Sm2 σ τ) : LU τ c N := by
  unfold LU
  rw [g.1 11 (by omega) (by omega) (by omega) (by omega), g.2 1 (by omega)]
  exact h
theorem neg_n9 : ∀ m, m ∈ [1000, 2000] → ∀ p, p < 200 → ¬ (-(nI m) - nI p : Int32) = -9 := by decide +kernel
theorem sp_X9_works {c : Nat → Nat} {N n : Nat} (hL : LU σ c N) (hW : WF (σ 3) n) (K : ∀ τ, (∀ a, a ≠ 3 → a ≠ 6 → a ≠ 14 → a ≠ 15 → τ a = σ a) → τ 3 = (wrk c N (σ 3) n).2 → τ 15 0 = σ 15 0 → τ 15 1 = 0 → τ 15 2 = σ 15 2 → Q (wrk c N (σ 3) n).1 τ) : Mi E mX9_works [.ref (ad E 18 0)] σ Q := by
  obtain ⟨l1, l2, l3, l4⟩ := id hL
  have hn6 := hW.2.1
  have END : ∀ τ (k : Nat) (w : Int32) y3 y4 y5, Sm2 σ τ → τ 3 = (wrk c N (σ 3) n).2 → (¬ w = -9 → (wrk c N (σ 3) n).1 = w) → (w = -9 → (wrk c N (σ 3) n).1 = nI k) → GW E (ZM E 8 fun v σ' => ∃ r, v = some (.int r) ∧ Q r σ') mX9_works 128 [some (.ref (ad E 18 0)), some (.int (nI k)), some (.int w), y3, y4, y5] [] τ := by
    intro τ k w y3 y4 y5 h1 h2 h3 h4
    have K := K (s2 τ 15 1 0) (fun a a1 a2 a3 a4 => by unfold s2; rw [up_ne a4]; exact h1.1 a a1 a2 a3 a4) (by unfold s2; rw [up_ne (by omega)]; exact h2) (by unfold s2; rw [up_at, upd_ne (by omega)]; exact h1.2 0 (by omega)) (by unfold s2; rw [up_at, upd_eq]) (by unfold s2; rw [up_at, upd_ne (by omega)]; exact h1.2 2 (by omega))
    refine r_aload_n dX9_works_128 rfl ?_
    refine r_iconst (0) dX9_works_129 rfl ?_
    refine putX9_92 rfl dX9_works_130 ?_
    refine r_iload_n dX9_works_133 rfl ?_
    refine r_bipush (-9) dX9_works_134 rfl ?_
    refine r_icmp_ne 143 dX9_works_136 rfl (fun h136 => ?_) (fun h136 => ?_)
    · refine r_iload_n dX9_works_143 rfl ?_
      refine r_ireturn rfl (by first | rfl | exact nar_bi _ | assumption) dX9_works_144 ⟨_, rfl, ?_⟩
      rw [h3 h136] at K
      exact K
    · refine r_iload_n dX9_works_139 rfl ?_
      refine r_goto 144 dX9_works_140 rfl ?_
      refine r_ireturn rfl (by first | rfl | exact nar_bi _ | assumption) dX9_works_144 ⟨_, rfl, ?_⟩
      rw [h4 h136] at K
      exact K
  have FIN : ∀ τ (k : Nat) (w : Int32) y3 y4 y5, Sm2 σ τ → τ 3 = σ 3 → ¬ w = -9 → wrk c N (σ 3) n = (w, σ 3) → GW E (ZM E 8 fun v σ' => ∃ r, v = some (.int r) ∧ Q r σ') mX9_works 62 [some (.ref (ad E 18 0)), some (.int (nI k)), some (.int w), y3, y4, y5] [] τ := by
    intro τ k w y3 y4 y5 h1 h2 h3 h4
    refine r_iload_n dX9_works_62 rfl ?_
    refine r_bipush (-9) dX9_works_63 rfl ?_
    refine r_icmp_ne 128 dX9_works_65 rfl (fun h65 => ?_) (fun h65 => ?_)
    · exact END τ k w _ _ _ h1 (by rw [h4]; exact h2) (fun _ => by rw [h4]) (fun q => absurd q h3)
    · exact absurd h65 h3
  have LOOP2 : ∀ f p r m k C τ, N < f + p → p ≤ N → (p < N → (scn c N f p).1 = none) → WF r m → Sm2 σ τ → τ 3 = r → τ 6 = σ 3 → τ 15 3 = nI p → wrk c N (σ 3) n = wrk2 (rnn c N f p r m k) (σ 3) → (p < N → C = k + (scn c N f p).2) → (N ≤ p → C = k) → ∀ y3 y4 y5, GW E (ZM E 8 fun v σ' => ∃ r, v = some (.int r) ∧ Q r σ') mX9_works 62 [some (.ref (ad E 18 0)), some (.int (nI C)), some (.int (-9)), y3, y4, y5] [] τ := by
    intro f
    induction f with
    | zero => intro p r m k C τ h1 h2; exfalso; omega
    | succ f ih =>
      intro p r m k C τ h1 h2 hsc hWr hsm h3 h6 hpl hw hC1 hC2 y3 y4 y5
      have hLt := LU_Sm2 hL hsm
      rw [rnn] at hw
      refine r_iload_n dX9_works_62 rfl ?_
      refine r_bipush (-9) dX9_works_63 rfl ?_
      refine r_icmp_ne 128 dX9_works_65 rfl (fun h65 => ?_) (fun h65 => ?_)
      · exact absurd rfl h65
      · refine r_aload_n dX9_works_68 rfl ?_
        refine getX9_96 rfl dX9_works_69 ?_
        rw [hpl]
        refine r_aload_n dX9_works_72 rfl ?_
        refine getX9_92 rfl dX9_works_73 ?_
        rw [hLt.2.2.1]
        refine r_icmp_ge_N 128 dX9_works_76 rfl (by omega) (by omega) (fun h76 => ?_) (fun h76 => ?_)
        · rw [if_neg (by omega)] at hw
          have hw : wrk c N (σ 3) n = (nI k, r) := hw
          rw [hC2 h76]
          exact END τ k (-9) _ _ _ hsm (by rw [hw]; exact h3) (fun q => absurd rfl q) (fun _ => by rw [hw])
        · rw [if_pos h76] at hw
          have hs0 := hsc h76
          have hC1 := hC1 h76
          have eh : hr c N p = nI (c p) := if_pos h76
          refine r_aload_n dX9_works_79 rfl ?_
          refine getX9_96 rfl dX9_works_80 ?_
          rw [hpl]
          refine r_istore_n_3 dX9_works_83 rfl ?_
          refine r_aload_n dX9_works_84 rfl ?_
          refine cV_i0 fX9_here rcv_18 lkX9_99 rfl dX9_works_85 (sp_X9_here hLt hpl (by omega) ?_)
          rw [eh]
          refine r_istore_4 dX9_works_88 rfl ?_
          refine r_aload_n dX9_works_90 rfl ?_
          refine cV_i0 fX9_readsStatement rcv_18 lkX9_126 rfl dX9_works_91 (sp_X9_readsStatement hLt hpl h2 (fun τ2 hT hz sm2 pl2 nb => ?_) (fun τ2 w wr sm2 pl2 => ?_))
          · have hSn := scn_ok (f := f) hT hz
            have hle := TX_le hT
            have e3 : τ2 3 = r := (sm2.1 3 (by omega) (by omega)).trans h3
            have e6 : τ2 6 = σ 3 := (sm2.1 6 (by omega) (by omega)).trans h6
            have smA := Sm2_tr hsm (Sm2_of sm2)
            rw [hSn] at hs0 hC1
            cases hst : stm c p r m with
            | none =>
              rw [hst] at hw
              have hw : wrk c N (σ 3) n = (-2000 - nI p, σ 3) := hw
              refine r_istore_5 dX9_works_94 rfl ?_
              refine r_aload_n dX9_works_96 rfl ?_
              refine r_iload dX9_works_97 rfl ?_
              refine cV_i1 fX9_isDone rcv_18 lkX9_133 rfl dX9_works_99 (sp_X9_isDone (c := c) (N := N) (p := p) (n := m) nb hT hz (by rw [e3]; exact hWr) ?_)
              rw [e3, hst]
              refine r_if_eq 108 dX9_works_102 rfl (fun h102 => ?_) (fun h102 => ?_)
              · have e6' : (va_up τ2 3 (rnR none r)) 6 = σ 3 := by rw [up_ne (by omega)]; exact e6
                refine r_sipush (-2000) dX9_works_108 rfl ?_
                refine r_iload_n dX9_works_111 rfl ?_
                refine r_isub dX9_works_112 ?_
                refine r_istore_n_2 dX9_works_113 rfl ?_
                refine r_aload_n dX9_works_114 rfl ?_
                refine getX9_19 rfl dX9_works_115 ?_
                refine r_aload_n dX9_works_118 rfl ?_
                refine getX9_9 rfl dX9_works_119 ?_
                refine cS_v2 fX9_copies lkX9_129 rfl dX9_works_122 (sp_X9_copies (by omega) (by omega) (by omega) ?_)
                rw [e6']
                refine r_goto 62 dX9_works_125 rfl ?_
                exact FIN _ _ _ _ _ _ (Sm2_tr smA (Sm2_tr Sm2_3 Sm2_3)) up_at (neg_n9 2000 (by decide) p (by omega)) hw
              · exact absurd rfl h102
            | some x =>
              rw [hst] at hw
              dsimp only at hw
              refine r_istore_5 dX9_works_94 rfl ?_
              refine r_aload_n dX9_works_96 rfl ?_
              refine r_iload dX9_works_97 rfl ?_
              refine cV_i1 fX9_isDone rcv_18 lkX9_133 rfl dX9_works_99 (sp_X9_isDone (c := c) (N := N) (p := p) (n := m) nb hT hz (by rw [e3]; exact hWr) ?_)
              rw [e3, hst]
              refine r_if_eq 108 dX9_works_102 rfl (fun h102 => ?_) (fun h102 => ?_)
              · exact absurd h102 (by show ¬ bi true = 0; decide)
              · refine r_goto 62 dX9_works_105 rfl ?_
                refine ih (p + 1 + sln (shp (c p))) x.1 x.2 (k + 1) C _ (by omega) hle (fun hq => ?_) (stm_WF hT hWr hst) (Sm2_tr smA Sm2_3) up_at (by rw [up_ne (by omega)]; exact e6) (by rw [up_ne (by omega)]; exact pl2) hw (fun hq => ?_) (fun hq => ?_) _ _ _
                · rw [if_pos hq] at hs0
                  exact hs0
                · rw [if_pos hq] at hC1
                  dsimp only at hC1
                  omega
                · rw [if_neg (by omega)] at hC1
                  exact hC1
          · rw [scn_wr wr] at hs0
            cases hs0
  have P2 : ∀ τ (k : Nat) (w : Int32) y3 y4 y5, Sm σ τ → k ≤ 200 → (¬ w = -9 → wrk c N (σ 3) n = (w, σ 3)) → (w = -9 → (scn c N (N + 1) 0).1 = none ∧ k = (scn c N (N + 1) 0).2) → GW E (ZM E 8 fun v σ' => ∃ r, v = some (.int r) ∧ Q r σ') mX9_works 46 [some (.ref (ad E 18 0)), some (.int (nI k)), some (.int w), y3, y4, y5] [] τ := by
    intro τ k w y3 y4 y5 h1 hk h2 h3
    have e3 : τ 3 = σ 3 := h1.1 3 (by omega) (by omega)
    have smA : Sm2 σ (s2 (va_up τ 6 (σ 3)) 15 3 0) := Sm2_tr (Sm2_of h1) (Sm2_tr Sm2_6 (Sm2_of Sm_p))
    have a3 : (s2 (va_up τ 6 (σ 3)) 15 3 0) 3 = σ 3 := by unfold s2; rw [up_ne (by omega), up_ne (by omega)]; exact e3
    have a6 : (s2 (va_up τ 6 (σ 3)) 15 3 0) 6 = σ 3 := by unfold s2; rw [up_ne (by omega), up_at]
    refine r_aload_n dX9_works_46 rfl ?_
    refine getX9_9 rfl dX9_works_47 ?_
    refine r_aload_n dX9_works_50 rfl ?_
    refine getX9_19 rfl dX9_works_51 ?_
    refine cS_v2 fX9_copies lkX9_129 rfl dX9_works_54 (sp_X9_copies (by omega) (by omega) (by omega) ?_)
    rw [e3]
    refine r_aload_n dX9_works_57 rfl ?_
    refine r_iconst (0) dX9_works_58 rfl ?_
    refine putX9_96 rfl dX9_works_59 ?_
    by_cases hw : w = -9
    · obtain ⟨hs, hc⟩ := h3 hw
      have hww : wrk c N (σ 3) n = wrk2 (rnn c N (N + 1) 0 (σ 3) n 0) (σ 3) := by unfold wrk; rw [hs]
      rw [hw]
      exact LOOP2 (N + 1) 0 (σ 3) n 0 k _ (by omega) (by omega) (fun _ => hs) hW smA a3 a6 s2_p hww (fun _ => by rw [hc, Nat.zero_add]) (fun q => by have := scn_0 hs; omega) _ _ _
    · exact FIN _ _ _ _ _ _ smA a3 hw (h2 hw)
  have LOOP1 : ∀ f p k τ, N < f + p → p ≤ N → k ≤ p → Sm σ τ → τ 15 3 = nI p → (scn c N (N + 1) 0).1 = (scn c N f p).1 → ((scn c N (N + 1) 0).1 = none → (scn c N (N + 1) 0).2 = k + (scn c N f p).2) → GW E (ZM E 8 fun v σ' => ∃ r, v = some (.int r) ∧ Q r σ') mX9_works 10 [some (.ref (ad E 18 0)), some (.int (nI k)), some (.int (-9)), none, none, none] [] τ := by
    intro f
    induction f with
    | zero => intro p k τ h1 h2; exfalso; omega
    | succ f ih =>
      intro p k τ h1 h2 hkp hsm hpl hR hC
      have hLt := LU_Sm hL hsm
      generalize hRR : (scn c N (N + 1) 0).1 = R at *
      generalize hCC : (scn c N (N + 1) 0).2 = C at *
      refine r_aload_n dX9_works_10 rfl ?_
      refine cV_i0 fX9_readsStatement rcv_18 lkX9_126 rfl dX9_works_11 (sp_X9_readsStatement hLt hpl h2 (fun τ2 hT hz sm2 pl2 nb => ?_) (fun τ2 w wr sm2 pl2 => ?_))
      · have hle := TX_le hT
        have smA := Sm_tr hsm sm2
        have hLt2 := LU_Sm hL smA
        rw [scn_ok hT hz] at hR hC
        refine r_if_ne 26 dX9_works_14 rfl (fun h14 => ?_) (fun h14 => ?_)
        · refine r_inc1_1 dX9_works_26 rfl ?_
          refine r_iload_n dX9_works_29 rfl ?_
          refine r_bipush (-9) dX9_works_30 rfl ?_
          refine r_icmp_ne 46 dX9_works_32 rfl (fun h32 => ?_) (fun h32 => ?_)
          · exact absurd rfl h32
          · refine r_aload_n dX9_works_35 rfl ?_
            refine getX9_96 rfl dX9_works_36 ?_
            rw [pl2]
            refine r_aload_n dX9_works_39 rfl ?_
            refine getX9_92 rfl dX9_works_40 ?_
            rw [hLt2.2.2.1]
            refine r_icmp_lt_N 10 dX9_works_43 rfl (by omega) (by omega) (fun h43 => ?_) (fun h43 => ?_)
            · rw [if_pos h43] at hR hC
              exact ih _ (k + 1) τ2 (by omega) hle (by omega) smA pl2 hR (fun q => by have := hC q; dsimp only at this; omega)
            · rw [if_neg (by omega)] at hR hC
              exact P2 τ2 (k + 1) (-9) _ _ _ smA (by omega) (fun q => absurd rfl q) (fun _ => ⟨hR, (hC hR).symm⟩)
        · exact absurd h14 (by decide)
      · have smA := Sm_tr hsm sm2
        rw [scn_wr wr] at hR
        have hlt : w ≤ N + 7 := scn_lt (c := c) (N := N) (f + 1) p w (scn_wr wr) h2
        have hww : wrk c N (σ 3) n = (-1000 - nI w, σ 3) := by unfold wrk; rw [hRR, hR]
        have hn9 := neg_n9 1000 (by decide) w (by omega)
        refine r_if_ne 26 dX9_works_14 rfl (fun h14 => ?_) (fun h14 => ?_)
        · exact absurd rfl h14
        · refine r_sipush (-1000) dX9_works_17 rfl ?_
          refine r_aload_n dX9_works_20 rfl ?_
          refine getX9_96 rfl dX9_works_21 ?_
          rw [pl2]
          refine r_isub dX9_works_24 ?_
          refine r_istore_n_2 dX9_works_25 rfl ?_
          refine r_inc1_1 dX9_works_26 rfl ?_
          refine r_iload_n dX9_works_29 rfl ?_
          refine r_bipush (-9) dX9_works_30 rfl ?_
          refine r_icmp_ne 46 dX9_works_32 rfl (fun h32 => ?_) (fun h32 => ?_)
          · exact P2 τ2 (k + 1) _ _ _ _ smA (by omega) (fun _ => hww) (fun q => absurd q hn9)
          · exact absurd h32 hn9
  refine Mw_of (L0 := [some (.ref (ad E 18 0)), none, none, none, none, none]) pn_X9 rfl rfl (Nat.le_of_ble_eq_true rfl) ?_
  refine r_aload_n dX9_works_0 rfl ?_
  refine r_iconst (0) dX9_works_1 rfl ?_
  refine putX9_96 rfl dX9_works_2 ?_
  refine r_iconst (0) dX9_works_5 rfl ?_
  refine r_istore_n_1 dX9_works_6 rfl ?_
  refine r_bipush (-9) dX9_works_7 rfl ?_
  refine r_istore_n_2 dX9_works_9 rfl ?_
  exact LOOP1 (N + 1) 0 0 _ (by omega) (by omega) (by omega) Sm_p s2_p rfl (fun _ => (Nat.zero_add _).symm)
end WORKS9B
