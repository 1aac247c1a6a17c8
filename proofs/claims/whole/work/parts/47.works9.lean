/-! ===== isDone, letter: the twin's ===== -/
section WORKS9
variable {E : EnvT} {σ : Sg} {Q : Int32 → Sg → Prop} {Qv : Sg → Prop} {Qr : Nat → Sg → Prop}
def hl (r : Row) (n : Nat) (f : Row) : Nat → Row
  | 0 => r
  | i + 1 => upd (hl r n f i) (3 + i + 5 * n) (f i)
theorem hl_0 {r : Row} {n : Nat} {f : Row} : ∀ i, hl r n f i 0 = r 0
  | 0 => rfl
  | i + 1 => by rw [hl, upd_ne (by omega)]; exact hl_0 i
theorem sh_ne {x : Nat} (h : ¬ sln (shp x) = 0) : x = 119 ∨ x = 111 ∨ x = 116 ∨ x = 120 ∨ x = 100 := by
  unfold shp at h
  split at h
  · exact Or.inl (by assumption)
  · split at h
    · rename_i q
      rcases q with q | q
      · exact Or.inr (Or.inl q)
      · exact Or.inr (Or.inr (Or.inr (Or.inr q)))
    · split at h
      · rename_i q
        rcases q with q | q
        · exact Or.inr (Or.inr (Or.inl q))
        · exact Or.inr (Or.inr (Or.inr (Or.inl q)))
      · exact absurd rfl h
theorem isIn60 {j : Nat} (hj : j < 1000) : decide (1 ≤ nI j ∧ nI j ≤ 60) = decide (1 ≤ j ∧ j ≤ 60) := by
  by_cases h : 1 ≤ j ∧ j ≤ 60
  · rw [decide_eq_true h, decide_eq_true]
    exact ⟨(nI_leI (a := 1) (by omega) (by omega)).mpr h.1, (nI_leI (b := 60) (by omega) (by omega)).mpr h.2⟩
  · rw [decide_eq_false h, decide_eq_false]
    exact fun q => h ⟨(nI_leI (a := 1) (by omega) (by omega)).mp q.1, (nI_leI (b := 60) (by omega) (by omega)).mp q.2⟩
theorem sp_X9_isDone {c : Nat → Nat} {N p n : Nat} (hNB : NB c p σ) (hT : TX c N p) (hz : ¬ sln (shp (c p)) = 0) (hW : WF (σ 3) n) (K : Q (bi (stm c p (σ 3) n).isSome) (va_up σ 3 (rnR (stm c p (σ 3) n) (σ 3)))) : Mi E mX9_isDone [.ref (ad E 18 0), .int (nI (c p))] σ Q := by
  have hn6 := hW.2.1
  obtain ⟨b1, b2, b3, b4, b5⟩ := hNB
  have FAIL : stm c p (σ 3) n = none → Q 0 σ := fun h => by
    rw [h] at K
    exact qof K rfl up_same.symm
  rcases sh_ne hz with h1 | h1 | h1 | h1 | h1
  · obtain ⟨a0, a1, a2⟩ := b1 h1
    have hs : shp (c p) = 0 := by rw [h1]; rfl
    have d3 : dgt c N (p + 3) := TX_d (k := 2) hT hs (by decide) rfl rfl
    have d4 : dgt c N (p + 3 + 1) := TX_d (k := 3) hT hs (by decide) rfl rfl
    have d5 : dgt c N (p + 3 + 2) := TX_d (k := 4) hT hs (by decide) rfl rfl
    have n3 := num3 d3 d4 d5
    have es : stm c p (σ 3) n = stW c p (σ 3) n := by unfold stm; rw [if_pos h1]
    rw [es] at K FAIL
    rw [h1]
    have BAD : stW c p (σ 3) n = none → ∀ y1 y2 y3 y4, GW E (ZM E 7 fun v σ' => ∃ r, v = some (.int r) ∧ Q r σ') mX9_isDone 90 [some (.ref (ad E 18 0)), y1, y2, y3, y4] [] σ := by
      intro hf y1 y2 y3 y4
      refine r_iconst (0) dX9_isDone_90 rfl ?_
      refine r_ireturn rfl (by first | rfl | exact nar_bi _ | assumption) dX9_isDone_91 ⟨_, rfl, ?_⟩
      exact FAIL hf
    refine Mw_of (L0 := [some (.ref (ad E 18 0)), some (.int (nI 119)), none, none, none]) pn_X9 rfl rfl (Nat.le_of_ble_eq_true rfl) ?_
    refine r_aload_n dX9_isDone_0 rfl ?_
    refine getX9_31 rfl dX9_isDone_1 ?_
    refine r_iconst (0) dX9_isDone_4 rfl ?_
    refine ld_23 (t := 0)  (by omega) dX9_isDone_5 ?_
    refine r_istore_n_2 dX9_isDone_6 rfl ?_
    refine r_aload_n dX9_isDone_7 rfl ?_
    refine getX9_31 rfl dX9_isDone_8 ?_
    refine r_iconst (1) dX9_isDone_11 rfl ?_
    refine ld_23 (t := 1)  (by omega) dX9_isDone_12 ?_
    refine r_istore_n_3 dX9_isDone_13 rfl ?_
    refine r_iload_n dX9_isDone_14 rfl ?_
    refine r_tableIn 53 68 dX9_isDone_15 (by decide) (by decide) rfl rfl ?_
    refine r_aload_n dX9_isDone_68 rfl ?_
    refine getX9_31 rfl dX9_isDone_69 ?_
    refine r_iconst (2) dX9_isDone_72 rfl ?_
    refine ld_23 (t := 2)  (by omega) dX9_isDone_73 ?_
    rw [a2]
    refine r_bipush (127) dX9_isDone_74 rfl ?_
    refine r_icmp_gt_N (b := 127) 90 dX9_isDone_76 rfl (by omega) (by omega) (fun h76 => ?_) (fun h76 => ?_)
    · exact BAD (by unfold stW; rw [if_neg (by omega)]) _ _ _ _
    · refine r_aload_n dX9_isDone_79 rfl ?_
      refine getX9_9 rfl dX9_isDone_80 ?_
      refine r_iconst (0) dX9_isDone_83 rfl ?_
      refine ld_19 (t := 0)  (by omega) (by omega) dX9_isDone_84 ?_
      rw [hW.1]
      refine r_bipush (6) dX9_isDone_85 rfl ?_
      refine r_icmp_ne 92 dX9_isDone_87 rfl (fun h87 => ?_) (fun h87 => ?_)
      · have h6 : n < 6 := by
          have : ¬ n = 6 := fun q => h87 (by rw [q]; rfl)
          omega
        have e : stW c p (σ 3) n = some (hireR (σ 3) n (oI (kd (c (p + 1)))) (nI (num c (p + 2) 1)) (nI (num c (p + 3) 3)), n + 1) := by unfold stW; rw [if_pos ⟨h76, h6⟩]
        rw [e] at K
        refine r_iconst (0) dX9_isDone_92 rfl ?_
        refine r_istore_4 dX9_isDone_93 rfl ?_
        have LOOP : ∀ i, i ≤ 3 → GW E (ZM E 7 fun v σ' => ∃ r, v = some (.int r) ∧ Q r σ') mX9_isDone 95 [some (.ref (ad E 18 0)), some (.int (nI 119)), some (.int (σ 14 0)), some (.int (σ 14 1)), some (.int (nI i))] [] (va_up σ 3 (hl (σ 3) n (σ 14) i)) := by
          refine down ?_ ?_
          · have e3 : hl (σ 3) n (σ 14) 3 = upd (upd (upd (σ 3) (3 + 5 * n) (oI (kd (c (p + 1))))) (4 + 5 * n) (nI (num c (p + 2) 1))) (5 + 5 * n) (nI (num c (p + 3) 3)) := by
              show upd (upd (upd (σ 3) (3 + 0 + 5 * n) (σ 14 0)) (3 + 1 + 5 * n) (σ 14 1)) (3 + 2 + 5 * n) (σ 14 2) = _
              rw [a0, a1, a2]
            have h00 : hl (σ 3) n (σ 14) 3 0 = nI n := (hl_0 3).trans hW.1
            generalize hl (σ 3) n (σ 14) 3 = T at e3 h00
            refine r_iload dX9_isDone_95 rfl ?_
            refine r_iconst (3) dX9_isDone_97 rfl ?_
            refine r_icmp_ge_N (b := 3) 130 dX9_isDone_98 rfl (by omega) (by omega) (fun h98 => ?_) (fun h98 => ?_)
            · refine r_aload_n dX9_isDone_130 rfl ?_
              refine getX9_9 rfl dX9_isDone_131 ?_
              refine r_aload_n dX9_isDone_134 rfl ?_
              refine getX9_9 rfl dX9_isDone_135 ?_
              refine r_iconst (0) dX9_isDone_138 rfl ?_
              refine ld_19 (t := 0)  (by omega) (by omega) dX9_isDone_139 ?_
              rw [up_at, h00]
              refine r_iconst (3) dX9_isDone_140 rfl ?_
              refine cS_i2 fX9_of lkX9_44 rfl dX9_isDone_141 (sp_of3  ?_)
              refine r_iconst (0) dX9_isDone_144 rfl ?_
              refine st_19  (by omega) (by omega) dX9_isDone_145 ?_
              rw [s2_up]
              refine r_aload_n dX9_isDone_146 rfl ?_
              refine getX9_9 rfl dX9_isDone_147 ?_
              refine r_aload_n dX9_isDone_150 rfl ?_
              refine getX9_9 rfl dX9_isDone_151 ?_
              refine r_iconst (0) dX9_isDone_154 rfl ?_
              refine ld_19 (t := 0)  (by omega) (by omega) dX9_isDone_155 ?_
              rw [up_at, upd_ne (by omega), h00]
              refine r_iconst (4) dX9_isDone_156 rfl ?_
              refine cS_i2 fX9_of lkX9_44 rfl dX9_isDone_157 (sp_of4  ?_)
              refine r_iconst (0) dX9_isDone_160 rfl ?_
              refine st_19  (by omega) (by omega) dX9_isDone_161 ?_
              rw [s2_up]
              refine r_aload_n dX9_isDone_162 rfl ?_
              refine getX9_9 rfl dX9_isDone_163 ?_
              refine r_iconst (0) dX9_isDone_166 rfl ?_
              refine r_dup2 dX9_isDone_167 rfl rfl ?_
              refine ld_19 (t := 0)  (by omega) (by omega) dX9_isDone_168 ?_
              rw [up_at, upd_ne (by omega), upd_ne (by omega), h00]
              refine r_iconst (1) dX9_isDone_169 rfl ?_
              refine r_iadd dX9_isDone_170 ?_
              rw [nI_1]
              refine st_19 (t := 0)  (by omega) (by omega) dX9_isDone_171 ?_
              rw [s2_up]
              refine r_iconst (1) dX9_isDone_172 rfl ?_
              refine r_ireturn rfl (by first | rfl | exact nar_bi _ | assumption) dX9_isDone_173 ⟨_, rfl, ?_⟩
              rw [e3]
              exact K
            · exfalso; omega
          · intro i hi ih
            have h00 : hl (σ 3) n (σ 14) i 0 = nI n := (hl_0 i).trans hW.1
            rw [hl] at ih
            refine r_iload dX9_isDone_95 rfl ?_
            refine r_iconst (3) dX9_isDone_97 rfl ?_
            refine r_icmp_ge_N (b := 3) 130 dX9_isDone_98 rfl (by omega) (by omega) (fun h98 => ?_) (fun h98 => ?_)
            · exfalso; omega
            · refine r_aload_n dX9_isDone_101 rfl ?_
              refine getX9_9 rfl dX9_isDone_102 ?_
              refine r_aload_n dX9_isDone_105 rfl ?_
              refine getX9_9 rfl dX9_isDone_106 ?_
              refine r_iconst (0) dX9_isDone_109 rfl ?_
              refine ld_19 (t := 0)  (by omega) (by omega) dX9_isDone_110 ?_
              rw [up_at, h00]
              refine r_iload dX9_isDone_111 rfl ?_
              refine cS_i2 fX9_of lkX9_44 rfl dX9_isDone_113 (sp_X9_of  ?_)
              refine r_aload_n dX9_isDone_116 rfl ?_
              refine getX9_31 rfl dX9_isDone_117 ?_
              refine r_iload dX9_isDone_120 rfl ?_
              refine ld_23  (by omega) dX9_isDone_122 ?_
              rw [up_ne (a := 3) (x := 14) (by omega)]
              refine st_19  (by omega) (by omega) dX9_isDone_123 ?_
              rw [s2_up]
              refine r_inc1_4 dX9_isDone_124 rfl ?_
              refine r_goto 95 dX9_isDone_127 rfl ?_
              exact ih
        refine r_sub up_same.symm (LOOP 0 (by omega))
      · have h6 : n = 6 := (nI_eq (b := 6) (by omega) (by omega)).mp h87
        exact BAD (by unfold stW; rw [if_neg (by omega)]) _ _ _ _
  · obtain ⟨a0, a1⟩ := b2 h1
    have hs : shp (c p) = 1 := by rw [h1]; rfl
    have n1 := num1 (TX_d (j := p + 1) (k := 0) hT hs (by decide) rfl rfl)
    have n2 := num1 (TX_d (j := p + 2) (k := 1) hT hs (by decide) rfl rfl)
    have es : stm c p (σ 3) n = stO c p (σ 3) n := by unfold stm; rw [if_neg (by omega), if_pos h1]
    rw [es] at K FAIL
    rw [h1]
    have BAD : stO c p (σ 3) n = none → ∀ y1 y2 y3 y4, GW E (ZM E 7 fun v σ' => ∃ r, v = some (.int r) ∧ Q r σ') mX9_isDone 189 [some (.ref (ad E 18 0)), y1, y2, y3, y4] [] σ := by
      intro hf y1 y2 y3 y4
      refine r_iconst (0) dX9_isDone_189 rfl ?_
      refine r_ireturn rfl (by first | rfl | exact nar_bi _ | assumption) dX9_isDone_190 ⟨_, rfl, ?_⟩
      exact FAIL hf
    refine Mw_of (L0 := [some (.ref (ad E 18 0)), some (.int (nI 111)), none, none, none]) pn_X9 rfl rfl (Nat.le_of_ble_eq_true rfl) ?_
    refine r_aload_n dX9_isDone_0 rfl ?_
    refine getX9_31 rfl dX9_isDone_1 ?_
    refine r_iconst (0) dX9_isDone_4 rfl ?_
    refine ld_23 (t := 0)  (by omega) dX9_isDone_5 ?_
    rw [a0]
    refine r_istore_n_2 dX9_isDone_6 rfl ?_
    refine r_aload_n dX9_isDone_7 rfl ?_
    refine getX9_31 rfl dX9_isDone_8 ?_
    refine r_iconst (1) dX9_isDone_11 rfl ?_
    refine ld_23 (t := 1)  (by omega) dX9_isDone_12 ?_
    rw [a1]
    refine r_istore_n_3 dX9_isDone_13 rfl ?_
    refine r_iload_n dX9_isDone_14 rfl ?_
    refine r_tableIn 159 174 dX9_isDone_15 (by decide) (by decide) rfl rfl ?_
    refine r_aload_n dX9_isDone_174 rfl ?_
    refine r_iload_n dX9_isDone_175 rfl ?_
    refine cV_i1 fX9_isWorker rcv_18 lkX9_113 rfl dX9_isDone_176 (sp_X9_isWorker hW.1 hn6 ?_)
    rw [hasW_i (by omega) hn6]
    refine r_if_eq 189 dX9_isDone_179 rfl (fun h179 => ?_) (fun h179 => ?_)
    · have hc := of_decide_eq_false ((bi_eq0 _).mp h179)
      exact BAD (by unfold stO; rw [if_neg (by omega)]) _ _ _ _
    · have hc := of_decide_eq_true (tb_of h179)
      refine r_iload_n dX9_isDone_182 rfl ?_
      refine cS_i1 fX9_isWeekday lkX9_117 rfl dX9_isDone_183 (sp_X9_isWeekday  ?_)
      rw [isWd_e, isWd_i (by omega)]
      refine r_if_ne 191 dX9_isDone_186 rfl (fun h186 => ?_) (fun h186 => ?_)
      · have hw := of_decide_eq_true (tb_of h186)
        have e : stO c p (σ 3) n = some (frR (σ 3) (num c (p + 1) 1) (nI (num c (p + 2) 1)), n) := by unfold stO; rw [if_pos ⟨hc, hw⟩]
        rw [e] at K
        refine r_aload_n dX9_isDone_191 rfl ?_
        refine getX9_9 rfl dX9_isDone_192 ?_
        refine r_iload_n dX9_isDone_195 rfl ?_
        refine r_iconst (2) dX9_isDone_196 rfl ?_
        refine cS_i2 fX9_of lkX9_44 rfl dX9_isDone_197 (sp_of2  ?_)
        refine r_dup2 dX9_isDone_200 rfl rfl ?_
        refine ld_19  (by omega) (by omega) dX9_isDone_201 ?_
        refine r_iconst (1) dX9_isDone_202 rfl ?_
        refine r_iload_n dX9_isDone_203 rfl ?_
        refine r_ishl dX9_isDone_204 ?_
        refine r_ixor dX9_isDone_205 ?_
        refine st_19  (by omega) (by omega) dX9_isDone_206 ?_
        refine r_iconst (1) dX9_isDone_207 rfl ?_
        refine r_ireturn rfl (by first | rfl | exact nar_bi _ | assumption) dX9_isDone_208 ⟨_, rfl, ?_⟩
        exact K
      · have hw := of_decide_eq_false ((bi_eq0 _).mp h186)
        exact BAD (by unfold stO; rw [if_neg (by omega)]) _ _ _ _
  · obtain ⟨a0, a1⟩ := b3 h1
    have hs : shp (c p) = 2 := by rw [h1]; rfl
    have n1 := num1 (TX_d (j := p + 1) (k := 0) hT hs (by decide) rfl rfl)
    have n2 := num2 (TX_d (j := p + 2) (k := 1) hT hs (by decide) rfl rfl) (TX_d (j := p + 2 + 1) (k := 2) hT hs (by decide) rfl rfl)
    have es : stm c p (σ 3) n = stT c p (σ 3) n := by unfold stm; rw [if_neg (by omega), if_neg (by omega), if_pos h1]
    rw [es] at K FAIL
    rw [h1]
    have BAD : stT c p (σ 3) n = none → ∀ y1 y2 y3 y4, GW E (ZM E 7 fun v σ' => ∃ r, v = some (.int r) ∧ Q r σ') mX9_isDone 223 [some (.ref (ad E 18 0)), y1, y2, y3, y4] [] σ := by
      intro hf y1 y2 y3 y4
      refine r_iconst (0) dX9_isDone_223 rfl ?_
      refine r_ireturn rfl (by first | rfl | exact nar_bi _ | assumption) dX9_isDone_224 ⟨_, rfl, ?_⟩
      exact FAIL hf
    refine Mw_of (L0 := [some (.ref (ad E 18 0)), some (.int (nI 116)), none, none, none]) pn_X9 rfl rfl (Nat.le_of_ble_eq_true rfl) ?_
    refine r_aload_n dX9_isDone_0 rfl ?_
    refine getX9_31 rfl dX9_isDone_1 ?_
    refine r_iconst (0) dX9_isDone_4 rfl ?_
    refine ld_23 (t := 0)  (by omega) dX9_isDone_5 ?_
    rw [a0]
    refine r_istore_n_2 dX9_isDone_6 rfl ?_
    refine r_aload_n dX9_isDone_7 rfl ?_
    refine getX9_31 rfl dX9_isDone_8 ?_
    refine r_iconst (1) dX9_isDone_11 rfl ?_
    refine ld_23 (t := 1)  (by omega) dX9_isDone_12 ?_
    rw [a1]
    refine r_istore_n_3 dX9_isDone_13 rfl ?_
    refine r_iload_n dX9_isDone_14 rfl ?_
    refine r_tableIn 194 209 dX9_isDone_15 (by decide) (by decide) rfl rfl ?_
    refine r_aload_n dX9_isDone_209 rfl ?_
    refine r_iload_n dX9_isDone_210 rfl ?_
    refine cV_i1 fX9_isWorker rcv_18 lkX9_113 rfl dX9_isDone_211 (sp_X9_isWorker hW.1 hn6 ?_)
    rw [hasW_i (by omega) hn6]
    refine r_if_eq 223 dX9_isDone_214 rfl (fun h214 => ?_) (fun h214 => ?_)
    · have hc := of_decide_eq_false ((bi_eq0 _).mp h214)
      exact BAD (by unfold stT; rw [if_neg (by omega)]) _ _ _ _
    · have hc := of_decide_eq_true (tb_of h214)
      refine r_iload_n dX9_isDone_217 rfl ?_
      refine r_bipush (30) dX9_isDone_218 rfl ?_
      refine r_icmp_le_N (b := 30) 225 dX9_isDone_220 rfl (by omega) (by omega) (fun h220 => ?_) (fun h220 => ?_)
      · have e : stT c p (σ 3) n = some (upd (σ 3) (6 + 5 * num c (p + 1) 1) (nI (num c (p + 2) 2)), n) := by unfold stT; rw [if_pos ⟨hc, h220⟩]
        rw [e] at K
        refine r_aload_n dX9_isDone_225 rfl ?_
        refine getX9_9 rfl dX9_isDone_226 ?_
        refine r_iload_n dX9_isDone_229 rfl ?_
        refine r_iconst (3) dX9_isDone_230 rfl ?_
        refine cS_i2 fX9_of lkX9_44 rfl dX9_isDone_231 (sp_of3  ?_)
        refine r_iload_n dX9_isDone_234 rfl ?_
        refine st_19  (by omega) (by omega) dX9_isDone_235 ?_
        refine r_iconst (1) dX9_isDone_236 rfl ?_
        refine r_ireturn rfl (by first | rfl | exact nar_bi _ | assumption) dX9_isDone_237 ⟨_, rfl, ?_⟩
        exact K
      · exact BAD (by unfold stT; rw [if_neg (by omega)]) _ _ _ _
  · obtain ⟨a0, a1, a2⟩ := b4 h1
    have hs : shp (c p) = 2 := by rw [h1]; rfl
    have n1 := num1 (TX_d (j := p + 1) (k := 0) hT hs (by decide) rfl rfl)
    have n2 := num1 (TX_d (j := p + 2) (k := 1) hT hs (by decide) rfl rfl)
    have n3 := num1 (TX_d (j := p + 3) (k := 2) hT hs (by decide) rfl rfl)
    have es : stm c p (σ 3) n = stX c p (σ 3) n := by unfold stm; rw [if_neg (by omega), if_neg (by omega), if_neg (by omega), if_pos h1]
    rw [es] at K FAIL
    rw [h1]
    have BAD : stX c p (σ 3) n = none → ∀ y1 y2 y3 y4, GW E (ZM E 7 fun v σ' => ∃ r, v = some (.int r) ∧ Q r σ') mX9_isDone 286 [some (.ref (ad E 18 0)), y1, y2, y3, y4] [] σ := by
      intro hf y1 y2 y3 y4
      refine r_iconst (0) dX9_isDone_286 rfl ?_
      refine r_ireturn rfl (by first | rfl | exact nar_bi _ | assumption) dX9_isDone_287 ⟨_, rfl, ?_⟩
      exact FAIL hf
    refine Mw_of (L0 := [some (.ref (ad E 18 0)), some (.int (nI 120)), none, none, none]) pn_X9 rfl rfl (Nat.le_of_ble_eq_true rfl) ?_
    refine r_aload_n dX9_isDone_0 rfl ?_
    refine getX9_31 rfl dX9_isDone_1 ?_
    refine r_iconst (0) dX9_isDone_4 rfl ?_
    refine ld_23 (t := 0)  (by omega) dX9_isDone_5 ?_
    rw [a0]
    refine r_istore_n_2 dX9_isDone_6 rfl ?_
    refine r_aload_n dX9_isDone_7 rfl ?_
    refine getX9_31 rfl dX9_isDone_8 ?_
    refine r_iconst (1) dX9_isDone_11 rfl ?_
    refine ld_23 (t := 1)  (by omega) dX9_isDone_12 ?_
    rw [a1]
    refine r_istore_n_3 dX9_isDone_13 rfl ?_
    refine r_iload_n dX9_isDone_14 rfl ?_
    refine r_tableIn 223 238 dX9_isDone_15 (by decide) (by decide) rfl rfl ?_
    refine r_aload_n dX9_isDone_238 rfl ?_
    refine r_iload_n dX9_isDone_239 rfl ?_
    refine cV_i1 fX9_isWorker rcv_18 lkX9_113 rfl dX9_isDone_240 (sp_X9_isWorker hW.1 hn6 ?_)
    rw [hasW_i (by omega) hn6]
    refine r_if_eq 286 dX9_isDone_243 rfl (fun h243 => ?_) (fun h243 => ?_)
    · have hc := of_decide_eq_false ((bi_eq0 _).mp h243)
      exact BAD (by unfold stX; rw [if_neg (fun q => hc q.1.1)]) _ _ _ _
    · have hc1 := of_decide_eq_true (tb_of h243)
      refine r_aload_n dX9_isDone_246 rfl ?_
      refine r_iload_n dX9_isDone_247 rfl ?_
      refine cV_i1 fX9_isWorker rcv_18 lkX9_113 rfl dX9_isDone_248 (sp_X9_isWorker hW.1 hn6 ?_)
      rw [hasW_i (by omega) hn6]
      refine r_if_eq 286 dX9_isDone_251 rfl (fun h251 => ?_) (fun h251 => ?_)
      · have hc := of_decide_eq_false ((bi_eq0 _).mp h251)
        exact BAD (by unfold stX; rw [if_neg (fun q => hc q.1.2.1)]) _ _ _ _
      · have hc2 := of_decide_eq_true (tb_of h251)
        refine r_iload_n dX9_isDone_254 rfl ?_
        refine r_iload_n dX9_isDone_255 rfl ?_
        refine r_icmp_eq 286 dX9_isDone_256 rfl (fun h256 => ?_) (fun h256 => ?_)
        · have he := (nI_eq (by omega) (by omega)).mp h256
          exact BAD (by unfold stX; rw [if_neg (fun q => q.1.2.2.1 he)]) _ _ _ _
        · have he : num c (p + 1) 1 ≠ num c (p + 2) 1 := fun q => h256 (by rw [q])
          refine r_aload_n dX9_isDone_259 rfl ?_
          refine getX9_31 rfl dX9_isDone_260 ?_
          refine r_iconst (2) dX9_isDone_263 rfl ?_
          refine ld_23 (t := 2)  (by omega) dX9_isDone_264 ?_
          rw [a2]
          refine cS_i1 fX9_isWeekday lkX9_117 rfl dX9_isDone_265 (sp_X9_isWeekday  ?_)
          rw [isWd_e, isWd_i (by omega)]
          refine r_if_eq 286 dX9_isDone_268 rfl (fun h268 => ?_) (fun h268 => ?_)
          · have hw := of_decide_eq_false ((bi_eq0 _).mp h268)
            exact BAD (by unfold stX; rw [if_neg (fun q => hw q.1.2.2.2)]) _ _ _ _
          · have hw := of_decide_eq_true (tb_of h268)
            refine r_aload_n dX9_isDone_271 rfl ?_
            refine r_iload_n dX9_isDone_272 rfl ?_
            refine r_iload_n dX9_isDone_273 rfl ?_
            refine r_aload_n dX9_isDone_274 rfl ?_
            refine getX9_31 rfl dX9_isDone_275 ?_
            refine r_iconst (2) dX9_isDone_278 rfl ?_
            refine ld_23 (t := 2)  (by omega) dX9_isDone_279 ?_
            rw [a2]
            refine cV_i3 fX9_canGive rcv_18 lkX9_120 rfl dX9_isDone_280 (sp_X9_canGive (by omega) (by omega) ?_)
            refine r_if_ne 288 dX9_isDone_283 rfl (fun h283 => ?_) (fun h283 => ?_)
            · have e : stX c p (σ 3) n = some (mvd (σ 3) (num c (p + 1) 1) (num c (p + 2) 1) (nI (num c (p + 3) 1)), n) := by unfold stX; rw [if_pos ⟨⟨hc1, hc2, he, hw⟩, tb_of h283⟩]
              rw [e] at K
              refine r_aload_n dX9_isDone_288 rfl ?_
              refine getX9_9 rfl dX9_isDone_289 ?_
              refine r_iload_n dX9_isDone_292 rfl ?_
              refine r_iload_n dX9_isDone_293 rfl ?_
              refine r_aload_n dX9_isDone_294 rfl ?_
              refine getX9_31 rfl dX9_isDone_295 ?_
              refine r_iconst (2) dX9_isDone_298 rfl ?_
              refine ld_23 (t := 2)  (by omega) dX9_isDone_299 ?_
              rw [a2]
              refine cS_v4 fX9_movesDay lkX9_75 rfl dX9_isDone_300 (sp_X9_movesDay (by omega) (by omega) (by omega) ?_)
              refine r_iconst (1) dX9_isDone_303 rfl ?_
              refine r_ireturn rfl (by first | rfl | exact nar_bi _ | assumption) dX9_isDone_304 ⟨_, rfl, ?_⟩
              exact K
            · have hg := (bi_eq0 _).mp h283
              exact BAD (by unfold stX; rw [if_neg (fun q => by rw [hg] at q; cases q.2)]) _ _ _ _
  · have a0 := b5 h1
    have hs : shp (c p) = 1 := by rw [h1]; rfl
    have n1 := num2 (TX_d (j := p + 1) (k := 0) hT hs (by decide) rfl rfl) (TX_d (j := p + 1 + 1) (k := 1) hT hs (by decide) rfl rfl)
    have es : stm c p (σ 3) n = stD c p (σ 3) n := by unfold stm; rw [if_neg (by omega), if_neg (by omega), if_neg (by omega), if_neg (by omega), if_pos h1]
    rw [es] at K FAIL
    rw [h1]
    have BAD : stD c p (σ 3) n = none → ∀ y1 y2 y3 y4, GW E (ZM E 7 fun v σ' => ∃ r, v = some (.int r) ∧ Q r σ') mX9_isDone 329 [some (.ref (ad E 18 0)), y1, y2, y3, y4] [] σ := by
      intro hf y1 y2 y3 y4
      refine r_iconst (0) dX9_isDone_329 rfl ?_
      refine r_ireturn rfl (by first | rfl | exact nar_bi _ | assumption) dX9_isDone_330 ⟨_, rfl, ?_⟩
      exact FAIL hf
    refine Mw_of (L0 := [some (.ref (ad E 18 0)), some (.int (nI 100)), none, none, none]) pn_X9 rfl rfl (Nat.le_of_ble_eq_true rfl) ?_
    refine r_aload_n dX9_isDone_0 rfl ?_
    refine getX9_31 rfl dX9_isDone_1 ?_
    refine r_iconst (0) dX9_isDone_4 rfl ?_
    refine ld_23 (t := 0)  (by omega) dX9_isDone_5 ?_
    rw [a0]
    refine r_istore_n_2 dX9_isDone_6 rfl ?_
    refine r_aload_n dX9_isDone_7 rfl ?_
    refine getX9_31 rfl dX9_isDone_8 ?_
    refine r_iconst (1) dX9_isDone_11 rfl ?_
    refine ld_23 (t := 1)  (by omega) dX9_isDone_12 ?_
    refine r_istore_n_3 dX9_isDone_13 rfl ?_
    refine r_iload_n dX9_isDone_14 rfl ?_
    refine r_tableOut 305 dX9_isDone_15 (by decide) rfl ?_
    refine r_iload_n dX9_isDone_305 rfl ?_
    refine r_iconst (1) dX9_isDone_306 rfl ?_
    refine r_bipush (60) dX9_isDone_307 rfl ?_
    refine cS_i3 fX9_isIn lkX9_40 rfl dX9_isDone_309 (sp_X9_isIn  ?_)
    rw [isIn60 (by omega)]
    refine r_if_eq 329 dX9_isDone_312 rfl (fun h312 => ?_) (fun h312 => ?_)
    · have hc := of_decide_eq_false ((bi_eq0 _).mp h312)
      exact BAD (by unfold stD; rw [if_neg (fun q => hc ⟨q.1, q.2.1⟩)]) _ _ _ _
    · have hc := of_decide_eq_true (tb_of h312)
      refine r_aload_n dX9_isDone_315 rfl ?_
      refine getX9_9 rfl dX9_isDone_316 ?_
      refine r_iconst (1) dX9_isDone_319 rfl ?_
      refine ld_19 (t := 1)  (by omega) (by omega) dX9_isDone_320 ?_
      refine r_iload_n dX9_isDone_321 rfl ?_
      refine r_iadd dX9_isDone_322 ?_
      refine r_sipush (999) dX9_isDone_323 rfl ?_
      refine r_icmp_le 331 dX9_isDone_326 rfl (fun h326 => ?_) (fun h326 => ?_)
      · have e : stD c p (σ 3) n = some (dayN 0 n (σ 3) (num c (p + 1) 2), n) := by unfold stD; rw [if_pos ⟨hc.1, hc.2, h326⟩]
        rw [e] at K
        refine r_aload_n dX9_isDone_331 rfl ?_
        refine getX9_9 rfl dX9_isDone_332 ?_
        refine r_iload_n dX9_isDone_335 rfl ?_
        refine cS_v2 fX9_daysOn lkX9_123 rfl dX9_isDone_336 (sp_X9_daysOn (by omega) hW.1 hn6 (by omega) ?_)
        refine r_iconst (1) dX9_isDone_339 rfl ?_
        refine r_ireturn rfl (by first | rfl | exact nar_bi _ | assumption) dX9_isDone_340 ⟨_, rfl, ?_⟩
        exact K
      · exact BAD (by unfold stD; rw [if_neg (fun q => h326 q.2.2)]) _ _ _ _
theorem sp_X9_letter {N : Nat} {x : Int32} (hN : σ 15 1 = nI N) (h96 : N ≤ 96) (Kr : ∀ y, vLet N x = y → ¬ y = 0 → Q y (rfs σ 13 y)) (K : ∀ j, j < 256 → x = nI j → N < 96 → vLet N x = 0 → Q (nI (N + 1)) (s2 (s2 σ 11 N x) 15 1 (nI (N + 1)))) : Mi E mX9_letter [.ref (ad E 18 0), .int x] σ Q := by
  have FULL : (outs x 0 255 = -6 ∨ (outs x 0 255 = 0 ∧ ¬ N < 96)) → GW E (ZM E 1 fun v σ' => ∃ r, v = some (.int r) ∧ Q r σ') mX9_letter 27 [some (.ref (ad E 18 0)), some (.int x)] [] σ := by
    intro hf
    refine r_aload_n dX9_letter_27 rfl ?_
    refine r_bipush (-6) dX9_letter_28 rfl ?_
    refine cV_i1 fX9_no rcv_18 lkX9_36 rfl dX9_letter_30 (sp_X9_no (Or.inr (Or.inr (Or.inr (Or.inr rfl)))) ?_)
    refine r_ireturn rfl (by first | rfl | exact nar_bi _ | assumption) dX9_letter_33 ⟨_, rfl, ?_⟩
    refine Kr (-6) ?_ (by decide)
    unfold vLet
    rcases hf with hf | ⟨hf, hn⟩
    · rw [hf]; rfl
    · rw [if_pos hf, if_neg hn]
  refine Mw_of (L0 := [some (.ref (ad E 18 0)), some (.int x)]) pn_X9 rfl rfl (Nat.le_of_ble_eq_true rfl) ?_
  refine r_iload_n dX9_letter_0 rfl ?_
  refine r_if_ge 11 dX9_letter_1 rfl (fun h1 => ?_) (fun h1 => ?_)
  · refine r_iload_n dX9_letter_11 rfl ?_
    refine r_sipush (255) dX9_letter_12 rfl ?_
    refine r_icmp_gt 27 dX9_letter_15 rfl (fun h15 => ?_) (fun h15 => ?_)
    · exact FULL (Or.inl (by unfold outs; rw [if_neg (Int32.not_lt.mpr h1), if_pos h15]))
    · have h0 : outs x 0 255 = 0 := by unfold outs; rw [if_neg (Int32.not_lt.mpr h1), if_neg h15]
      refine r_aload_n dX9_letter_18 rfl ?_
      refine getX9_92 rfl dX9_letter_19 ?_
      rw [hN]
      refine r_bipush (96) dX9_letter_22 rfl ?_
      refine r_icmp_ne 34 dX9_letter_24 rfl (fun h24 => ?_) (fun h24 => ?_)
      · have hn : N < 96 := by
          have : ¬ N = 96 := fun q => h24 (by rw [q]; rfl)
          omega
        obtain ⟨j, hj, rfl⟩ := outs_N (b := 255) (by omega) h0
        have e : (s2 σ 11 N (nI j)) 15 1 = nI N := by unfold s2; rw [up_ne (by omega)]; exact hN
        have e2 : (s2 (s2 σ 11 N (nI j)) 15 1 (nI (N + 1))) 15 1 = nI (N + 1) := by unfold s2; rw [up_at, upd_eq]
        refine r_aload_n dX9_letter_34 rfl ?_
        refine getX9_22 rfl dX9_letter_35 ?_
        refine r_aload_n dX9_letter_38 rfl ?_
        refine getX9_92 rfl dX9_letter_39 ?_
        rw [hN]
        refine r_iload_n dX9_letter_42 rfl ?_
        refine st_20  (by omega) dX9_letter_43 ?_
        refine r_aload_n dX9_letter_44 rfl ?_
        refine r_dup dX9_letter_45 rfl ?_
        refine getX9_92 rfl dX9_letter_46 ?_
        rw [e]
        refine r_iconst (1) dX9_letter_49 rfl ?_
        refine r_iadd dX9_letter_50 ?_
        rw [nI_1]
        refine putX9_92 rfl dX9_letter_51 ?_
        refine r_aload_n dX9_letter_54 rfl ?_
        refine getX9_92 rfl dX9_letter_55 ?_
        rw [e2]
        refine r_ireturn rfl (by first | rfl | exact nar_bi _ | assumption) dX9_letter_58 ⟨_, rfl, ?_⟩
        exact K j (by omega) rfl hn (by unfold vLet; rw [if_pos h0, if_pos hn])
      · have hn : N = 96 := (nI_eq (b := 96) (by omega) (by omega)).mp h24
        exact FULL (Or.inr ⟨h0, by omega⟩)
  · refine r_aload_n dX9_letter_4 rfl ?_
    refine r_bipush (-4) dX9_letter_5 rfl ?_
    refine cV_i1 fX9_no rcv_18 lkX9_36 rfl dX9_letter_7 (sp_X9_no (Or.inr (Or.inr (Or.inr (Or.inl rfl)))) ?_)
    refine r_ireturn rfl (by first | rfl | exact nar_bi _ | assumption) dX9_letter_10 ⟨_, rfl, ?_⟩
    exact Kr (-4) (by unfold vLet outs; rw [if_pos (Int32.not_le.mp h1)]; rfl) (by decide)
end WORKS9
