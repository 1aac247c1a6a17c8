/-! ===== the abstract machine: a store of ints over a fixed shape of cells ===== -/
abbrev Sg : Type := Nat → Nat → Int32
abbrev EnvT : Type := Launch × (Nat → ClassId) × (Nat → Nat → Nat) × (Nat → Nat → Nat) × (Nat → ClassId) × (Nat → Nat) × (Nat → Nat)
abbrev eL (E : EnvT) : Launch := E.1
abbrev eD (E : EnvT) : va_G := (E.2.1, E.2.2.1)
def ad (E : EnvT) : Nat → Nat → Nat := E.2.2.2.1
def cA (E : EnvT) : Nat → ClassId := E.2.2.2.2.1
def sK (E : EnvT) : Nat → Nat := E.2.2.2.2.2.1
def sV (E : EnvT) : Nat → Nat := E.2.2.2.2.2.2
/-- a method: its name, its code, how many locals, what it answers, its level -/
abbrev MI : Type := MethodName × ByteArray × Nat × Option FieldType × Nat
def rmv (d : Nat) : Room := { frames := d, cells := 0, slots := 0, locals := 35 * d }
def TB : List Cond := lw_tbl.filter goodWord
theorem tb_in {w : Cond} (i : Nat) (h : lw_tbl[i]? = some w) (g : goodWord w = true) : w ∈ TB := List.mem_filter.mpr ⟨List.mem_of_getElem? h, g⟩
theorem tb_good {w : Cond} (h : w ∈ TB) : (w.onTables && w.keeps) = true ∨ ∃ ty, w = .arrayClass ty := good_of_word (List.mem_filter.mp h).2
theorem tb_call {a b : Cond} (hb : b ∈ TB) : GoodIn (a :: TB) (b :: TB) := by
  intro w hw
  rcases List.mem_cons.mp hw with rfl | hw
  · exact ⟨List.mem_cons_of_mem _ hb, tb_good hb⟩
  · exact ⟨List.mem_cons_of_mem _ hw, tb_good hw⟩
def isNest : Cond → Bool
  | .methodLinkNest .. => true
  | .fieldLinkNest .. => true
  | _ => false
/-- the places of the cells: kind and number -/
def PL : List (Nat × Nat) := [(0, 0), (1, 0), (1, 1), (1, 2), (2, 0), (2, 1), (2, 2), (3, 0), (3, 1), (3, 2), (4, 0), (4, 1), (4, 2), (5, 0), (5, 1), (5, 2), (6, 0), (6, 1), (6, 2), (7, 0), (7, 1), (7, 2), (8, 0), (8, 1), (8, 2), (9, 0), (9, 1), (9, 2), (10, 0), (10, 1), (10, 2), (11, 0), (11, 1), (11, 2), (12, 0), (12, 1), (12, 2), (13, 0), (13, 1), (13, 2), (14, 0), (15, 0), (16, 0), (17, 0), (18, 0), (19, 3), (19, 4), (19, 5), (19, 6), (20, 0), (21, 0), (22, 0), (23, 0)]
theorem PL_nodup : PL.Nodup := by decide
/-- what a cell holds: crews are rows 0..2, the twin's rows 3..6 -/
def cel (E : EnvT) (σ : Sg) (k i : Nat) : va_E := match k with
  | 0 => .inr (8, [.ref (ad E 1 0), .ref (ad E 1 1), .ref (ad E 1 2), .int (σ 10 0), .ref (ad E 14 0), .ref (ad E 16 0), .int (σ 10 1), .ref (ad E 17 0)])
  | 1 => .inr (1, [.ref (ad E 2 i), .ref (ad E 9 i), .ref (ad E 10 i), .ref (ad E 11 i), .ref (ad E 12 i), .ref (ad E 13 i), .int (σ i 0), .int (σ i 2), .int (σ i 1)])
  | 2 => .inl (cA E 2, 6, .inr (.inr (.inr (.inr (fun j => some (ad E (3 + j) i))))))
  | 3 => .inr (7, [])
  | 4 => .inr (3, [])
  | 5 => .inr (0, [])
  | 6 => .inr (6, [])
  | 7 => .inr (4, [])
  | 8 => .inr (2, [])
  | 9 => .inl (cA E 0, 6, .inl (fun j => σ i (3 + 5 * j)))
  | 10 => .inl (cA E 0, 6, .inl (fun j => σ i (4 + 5 * j)))
  | 11 => .inl (cA E 0, 6, .inl (fun j => σ i (5 + 5 * j)))
  | 12 => .inl (cA E 0, 6, .inl (fun j => σ i (6 + 5 * j)))
  | 13 => .inl (cA E 0, 6, .inl (fun j => σ i (7 + 5 * j)))
  | 14 => .inr (5, [.ref (ad E 15 0), .int (σ 10 2)])
  | 15 => .inl (cA E 1, 96, .inl (fun j => σ 7 j))
  | 16 => .inl (cA E 0, 16, .inl (fun j => σ 8 j))
  | 17 => .inl (cA E 0, 7, .inl (fun j => σ 9 j))
  | 18 => .inr (9, [.ref (ad E 19 3), .ref (ad E 19 4), .ref (ad E 19 5), .ref (ad E 19 6), .int (σ 15 0), .ref (ad E 20 0), .ref (ad E 21 0), .ref (ad E 22 0), .int (σ 15 1), .int (σ 15 2), .int (σ 15 3), .ref (ad E 23 0), .int (σ 15 4)])
  | 19 => .inl (cA E 0, 33, .inl (fun j => σ i j))
  | 20 => .inl (cA E 0, 96, .inl (fun j => σ 11 j))
  | 21 => .inl (cA E 0, 16, .inl (fun j => σ 12 j))
  | 22 => .inl (cA E 0, 7, .inl (fun j => σ 13 j))
  | _ => .inl (cA E 0, 3, .inl (fun j => σ 14 j))
def wsx (E : EnvT) (σ : Sg) : va_W := PL.map fun q => (ad E q.1 q.2, cel E σ q.1 q.2)
def Aof (E : EnvT) : Nat → Prop := fun a => ∃ q, q ∈ PL ∧ a = ad E q.1 q.2
def Dis (E : EnvT) : Prop := ∀ q, q ∈ PL → ∀ r, r ∈ PL → ad E q.1 q.2 = ad E r.1 r.2 → q = r
def tyl (E : EnvT) : List (ClassId × FieldType) := [(cA E 0, .int), (cA E 1, .char), (cA E 2, .object "PaidInDays$WorkerKind")]
/-- a store with one number changed -/
def s2 (σ : Sg) (a b : Nat) (v : Int32) : Sg := va_up σ a (upd (σ a) b v)
theorem wsx_get {E : EnvT} {σ : Sg} {p : Nat} {x : Nat × Nat} (h : PL[p]? = some x) : (wsx E σ)[p]? = some (ad E x.1 x.2, cel E σ x.1 x.2) := by
  unfold wsx
  rw [List.getElem?_map, h]
  rfl
theorem wsx_inv {E : EnvT} {σ : Sg} {p : Nat} {q : Nat × va_E} (h : (wsx E σ)[p]? = some q) : ∃ x, PL[p]? = some x ∧ q = (ad E x.1 x.2, cel E σ x.1 x.2) := by
  unfold wsx at h
  rw [List.getElem?_map] at h
  cases hx : PL[p]? with
  | none => rw [hx] at h; cases h
  | some x =>
    rw [hx] at h
    exact ⟨x, rfl, (Option.some.inj h).symm⟩
theorem PL_inj {p r : Nat} {x : Nat × Nat} (h1 : PL[p]? = some x) (h2 : PL[r]? = some x) : p = r := by
  obtain ⟨l1, e1⟩ := List.getElem?_eq_some_iff.mp h1
  obtain ⟨l2, e2⟩ := List.getElem?_eq_some_iff.mp h2
  exact (List.getElem_inj PL_nodup).mp (e1.trans e2.symm)
theorem wsx_D {E : EnvT} {σ : Sg} (h : Dis E) : va_D (Aof E) (wsx E σ) := by
  refine ⟨fun i j p q hi hj hpq => ?_, fun k q hk => ?_⟩
  · obtain ⟨x, hx, rfl⟩ := wsx_inv hi
    obtain ⟨y, hy, rfl⟩ := wsx_inv hj
    have hxy := h x (List.mem_of_getElem? hx) y (List.mem_of_getElem? hy) hpq
    subst hxy
    exact PL_inj hx hy
  · obtain ⟨x, hx, rfl⟩ := wsx_inv hk
    exact ⟨x, List.mem_of_getElem? hx, rfl⟩
theorem wsx_set {E : EnvT} {σ σ' : Sg} {H : Heap} {p : Nat} {x : Nat × Nat} {c : va_E} (hp : PL[p]? = some x) (h : va_P (eD E) vwCl ((wsx E σ).set p (ad E x.1 x.2, c)) H) (he : cel E σ' x.1 x.2 = c) (ho : ∀ y, y ∈ PL → y ≠ x → cel E σ' y.1 y.2 = cel E σ y.1 y.2) : va_P (eD E) vwCl (wsx E σ') H := by
  intro k q hk
  obtain ⟨y, hy, rfl⟩ := wsx_inv hk
  have hl : p < (wsx E σ).length := (List.getElem?_eq_some_iff.mp (wsx_get (E := E) (σ := σ) hp)).1
  by_cases hkp : k = p
  · subst hkp
    rw [hp] at hy
    cases hy
    have := h k (ad E x.1 x.2, c) (by rw [List.getElem?_set_self hl])
    rw [he]
    exact this
  · have hyx : y ≠ x := fun z => hkp (PL_inj (z ▸ hy) hp)
    have := h k (ad E y.1 y.2, cel E σ y.1 y.2) (by rw [List.getElem?_set_ne (Ne.symm hkp)]; exact wsx_get hy)
    rw [ho y (List.mem_of_getElem? hy) hyx]
    exact this
/-- what is known of the tables -/
def stx (i : Nat) : String := ["k0000;", "00;", "000;", "", "whbtmf"].getD i ""
def sLen : List Nat := [6, 3, 4, 0, 6]
def sByt : List (List Int32) := [[107, 48, 48, 48, 48, 59], [48, 48, 59], [48, 48, 48, 59], [], [119, 104, 98, 116, 109, 102]]
def Knw (E : EnvT) (U : State) : Prop := va_K (eD E) vwCl (tyl E) U ∧ (∀ w ∈ lw_tbl, isNest w = true → va_Nw w U) ∧ ∀ i, i < 5 → vk_R "PaidInDays$Telling" (44 + 2 * i) (stx i) (sK E i) U
def Ext (E : EnvT) (U : State) (H : Heap) : Prop := vk_S 5 sLen sByt (sK E) (sV E) (Aof E) U H ∧ va_Z "java/lang/String" "COMPACT_STRINGS" "Z" (.int 1) (Aof E) U H ∧ va_Zq "jdk/internal/util/Preconditions" "SIOOBE_FORMATTER" "Ljava/util/function/BiFunction;" (Aof E) U H
theorem nest_warm {w : Cond} {s U : State} (hn : isNest w = true) (hW : s.WarmedH U.vm) (h : va_Nw w s) : va_Nw w U := by
  cases w with
  | methodLinkNest a b c d => exact va_Nw.warmM hW h
  | fieldLinkNest a b c d e f => exact va_Nw.warmF hW h
  | _ => cases hn
theorem nest_same {w : Cond} {s U : State} (hn : isNest w = true) (hv : s.vm = U.vm) (h : va_Nw w s) : va_Nw w U := by
  cases w with
  | methodLinkNest a b c d => exact va_Nw.same rfl hv h
  | fieldLinkNest a b c d e f => exact va_Nw.same rfl hv h
  | _ => cases hn
theorem Knw.warm {E : EnvT} {s U : State} (h : Knw E s) (hW : s.WarmedH U.vm) : Knw E U := ⟨va_K.moved hW.alike h.1, fun w hw hn => nest_warm hn hW (h.2.1 w hw hn), fun i hi => (h.2.2 i hi).warm hW⟩
theorem Knw.same {E : EnvT} {s U : State} (h : Knw E s) (hv : s.vm = U.vm) : Knw E U := ⟨va_K.moved (by rw [hv]; exact Vm.Alike.refl _) h.1, fun w hw hn => nest_same hn hv (h.2.1 w hw hn), fun i hi => (h.2.2 i hi).same hv.symm⟩
theorem Ext.moved {E : EnvT} {u U : State} {H : Heap} (hv : u.vm.Alike U.vm) (h : Ext E u H) : Ext E U H := ⟨vk_S.moved hv h.1, va_Z.moved hv h.2.1, va_Zq.moved hv h.2.2⟩
theorem Ext.kept {E : EnvT} {U : State} {H H1 : Heap} (h : Ext E U H) (hq : ∀ a : Nat, a < H.size → ¬ Aof E a → H1[a]? = H[a]?) : Ext E U H1 := ⟨h.1.kept hq, h.2.1.kept hq, h.2.2.kept hq⟩
/-- a method's start and end -/
def Px (E : EnvT) (As : List Value) (σ : Sg) : Array Value → State → Prop := va_Pc As (fun U => va_P (eD E) vwCl (wsx E σ) U.heap ∧ Knw E U ∧ Ext E U U.heap ∧ Dis E)
def Qx (E : EnvT) (Q : Option Value → Sg → Prop) : Array Value → State → Outcome → State → Prop := fun _ st oc t => (∃ (v : Option Value) (σ' : Sg), oc = .returned v ∧ Q v σ' ∧ va_P (eD E) vwCl (wsx E σ') t.heap) ∧ va_F (Aof E) st t
abbrev cw (M : MI) : Cond := .code M.1 M.2.1 M.2.2.1 M.2.2.2.1
/-- the contract: with these arguments in this store it returns, and so does Q hold of the answer and the store -/
def Mw (E : EnvT) (M : MI) (As : List Value) (σ : Sg) (Q : Option Value → Sg → Prop) : Prop := Met (eL E) M.1 (cw M :: TB) (rmv M.2.2.2.2) (Px E As σ) (Qx E Q) 0 0 (Aof E)
theorem Px_blind {E : EnvT} {As : List Value} {σ : Sg} : FrameBlind (Px E As σ) := by
  intro a U g mk h
  obtain ⟨h1, h2, h3, h4, h5⟩ := h
  exact ⟨h1, h2, h3.same rfl, h4.moved (Vm.Alike.refl U.vm), h5⟩
/-- locals by their places -/
def prs : Nat → List (Option Value) → List (Nat × Value)
  | _, [] => []
  | n, none :: t => prs (n + 1) t
  | n, some v :: t => (n, v) :: prs (n + 1) t
theorem prs_mem : ∀ (L : List (Option Value)) (n : Nat) (q : Nat × Value), q ∈ prs n L ↔ ∃ j, q.1 = n + j ∧ L[j]? = some (some q.2)
  | [], n, q => by simp [prs]
  | none :: t, n, q => by
    rw [prs, prs_mem t (n + 1) q]
    constructor
    · rintro ⟨j, h1, h2⟩
      exact ⟨j + 1, by omega, by simpa using h2⟩
    · rintro ⟨j, h1, h2⟩
      cases j with
      | zero => simp at h2
      | succ j => exact ⟨j, by omega, by simpa using h2⟩
  | some v :: t, n, q => by
    rw [prs, List.mem_cons, prs_mem t (n + 1) q]
    constructor
    · rintro (rfl | ⟨j, h1, h2⟩)
      · exact ⟨0, by simp, by simp⟩
      · exact ⟨j + 1, by omega, by simpa using h2⟩
    · rintro ⟨j, h1, h2⟩
      cases j with
      | zero =>
        left
        obtain ⟨a, b⟩ := q
        simp at h1 h2
        rw [h1, h2]
      | succ j => exact Or.inr ⟨j, by omega, by simpa using h2⟩
def LH (ls : Array Slot) (nL : Nat) (L : List (Option Value)) : Prop := lv_has ls nL (prs 0 L) ∧ L.length = nL
theorem LH.at {ls : Array Slot} {nL : Nat} {L : List (Option Value)} (h : LH ls nL L) {i : Nat} {v : Value} (hv : L[i]? = some (some v)) : ls[i]? = some (.val v) := h.1.2.2 (i, v) ((prs_mem L 0 (i, v)).mpr ⟨i, by simp, hv⟩)
/-- a slot that is no long's first half -/
def oc1 (o : Option Value) : Bool := match o with
  | none => true
  | some v => v.category == 1
theorem LH.set1 {ls' : Array Slot} {nL : Nat} {L : List (Option Value)} {i : Nat} {v : Value} (hlen : L.length = nL) (hi : i < nL) (h : lv_has ls' nL ((i, v) :: (prs 0 L).filter (fun q => !(q.1 == i) && !(q.1 + 1 == i && q.2.category == 2)))) (hp : ∀ o, L[i - 1]? = some o → 0 < i → oc1 o = true) : LH ls' nL (L.set i (some v)) := by
  refine ⟨⟨h.1, h.2.1, fun q hq => ?_⟩, by simpa using hlen⟩
  obtain ⟨j, h1, h2⟩ := (prs_mem _ 0 q).mp hq
  simp only [Nat.zero_add] at h1
  refine h.2.2 q ?_
  by_cases hji : j = i
  · subst hji
    rw [List.getElem?_set_self (by omega)] at h2
    have : q = (j, v) := by
      obtain ⟨a, b⟩ := q
      simp at h1 h2
      rw [h1, h2]
    rw [this]
    exact List.mem_cons_self
  · rw [List.getElem?_set_ne (Ne.symm hji)] at h2
    refine List.mem_cons_of_mem _ (List.mem_filter.mpr ⟨(prs_mem _ 0 q).mpr ⟨j, by simpa using h1, h2⟩, ?_⟩)
    simp only [Bool.and_eq_true, Bool.not_eq_true', beq_eq_false_iff_ne, ne_eq, Bool.and_eq_false_iff]
    refine ⟨by omega, ?_⟩
    by_cases hj1 : j + 1 = i
    · right
      have := hp (some q.2) (by rw [show i - 1 = j by omega]; exact h2) (by omega)
      simp only [oc1, beq_iff_eq] at this
      omega
    · left
      omega
theorem LH.set2 {ls' : Array Slot} {nL : Nat} {L : List (Option Value)} {i : Nat} {v : Value} (hlen : L.length = nL) (hi : i + 1 < nL) (h : lv_has ls' nL ((i, v) :: (prs 0 L).filter (fun q => !(q.1 == i) && (!(q.1 == i + 1) && !(q.1 + 1 == i && q.2.category == 2))))) (hp : ∀ o, L[i - 1]? = some o → 0 < i → oc1 o = true) : LH ls' nL ((L.set i (some v)).set (i + 1) none) := by
  refine ⟨⟨h.1, h.2.1, fun q hq => ?_⟩, by simpa using hlen⟩
  obtain ⟨j, h1, h2⟩ := (prs_mem _ 0 q).mp hq
  simp only [Nat.zero_add] at h1
  refine h.2.2 q ?_
  by_cases hj2 : j = i + 1
  · subst hj2
    rw [List.getElem?_set_self (by simp; omega)] at h2
    simp at h2
  · rw [List.getElem?_set_ne (Ne.symm hj2)] at h2
    by_cases hji : j = i
    · subst hji
      rw [List.getElem?_set_self (by omega)] at h2
      have : q = (j, v) := by
        obtain ⟨a, b⟩ := q
        simp at h1 h2
        rw [h1, h2]
      rw [this]
      exact List.mem_cons_self
    · rw [List.getElem?_set_ne (Ne.symm hji)] at h2
      refine List.mem_cons_of_mem _ (List.mem_filter.mpr ⟨(prs_mem _ 0 q).mpr ⟨j, by simpa using h1, h2⟩, ?_⟩)
      simp only [Bool.and_eq_true, Bool.not_eq_true', beq_eq_false_iff_ne, ne_eq, Bool.and_eq_false_iff]
      refine ⟨by omega, by omega, ?_⟩
      by_cases hj1 : j + 1 = i
      · right
        have := hp (some q.2) (by rw [show i - 1 = j by omega]; exact h2) (by omega)
        simp only [oc1, beq_iff_eq] at this
        omega
      · left
        omega
/-- where a walk stands: its room, what it has made, its end, what else is known of the start -/
abbrev ZT : Type := Room × Nat × Nat × (List Frame → Array Value → State → State → Prop) × (State → Prop)
def Cx (E : EnvT) (M : MI) (Sc : State → Prop) (p : Program) (s : State) (m : MethodId) (args : Array Value) (meth : Method) (c : Code) : Prop :=
  p.tables.exec = Jvm.exec ∧ c.code = M.2.1 ∧ c.maxLocals = M.2.2.1 ∧ meth.sig.returnType = M.2.2.2.1 ∧ meth.locks = false ∧ s.vm.findClass M.1.cls = some m.cls ∧ (∀ w ∈ TB, w.before args s = true) ∧ Knw E s ∧ Ext E s s.heap ∧ Dis E ∧ Sc s
/-- the walk: from here, with these locals, this stack, this store, the machine comes to the end -/
def GW (E : EnvT) (Z : ZT) (M : MI) (pc : Nat) (L : List (Option Value)) (S : List Value) (σ : Sg) : Prop :=
  ∀ (p : Program) (e : Env) (s : State) (m : MethodId) (args : Array Value) (below : List Frame) (meth : Method) (c : Code) (H : Heap) (locs : List Loc) (ls : Array Slot), Cx E M Z.2.2.2.2 p s m args meth c → LH ls M.2.2.1 L → va_P (eD E) vwCl (wsx E σ) H → va_S (Aof E) s.heap H locs →
    W p (eL E) e Z.1 s m args below meth c H locs Z.2.1 Z.2.2.1 (Z.2.2.2.1 below args s) (F0 m pc ls S)
abbrev ZM (E : EnvT) (d : Nat) (Q : Option Value → Sg → Prop) : ZT := (rmv d, 0, 0, fun below args s => MQ below (Qx E Q) args s 0 0 (Aof E), fun _ => True)
abbrev G (E : EnvT) (M : MI) (Q : Option Value → Sg → Prop) (pc : Nat) (L : List (Option Value)) (S : List Value) (σ : Sg) : Prop := GW E (ZM E M.2.2.2.2 Q) M pc L S σ
theorem Mw_of {E : EnvT} {M : MI} {As : List Value} {σ : Sg} {Q : Option Value → Sg → Prop} {L0 : List (Option Value)} (hy : plainName M.1.cls = true) (hL0 : prs 0 L0 = lv_args 0 As) (hl0 : L0.length = M.2.2.1) (hle : (lg_sl As).length ≤ M.2.2.1) (h : G E M Q 0 L0 [] σ) : Mw E M As σ Q := by
  refine Met.ofW (cc := M.2.1) (maxL := M.2.2.1) (ret := M.2.2.2.1) hy rfl ?_
  intro p e s m args below meth c s₁ B hml hv
  obtain ⟨rfl, hP, hK, hX, hD⟩ := hv
  have hts := atoms_spec (ws := cw M :: TB) B.pre
  rw [lg_entry_eq]
  have hl := lv_entry As (n := M.2.2.1) hle
  exact h p e s m _ below meth c s.heap [] _ ⟨B.exec, B.bytes, hml, B.returns, B.notSynchronized, findClass_of_methodNamed B.named, fun w hw => hts w (List.mem_cons_of_mem _ hw), hK, hX, hD, trivial⟩ ⟨by rw [hL0]; exact hl, hl0⟩ hP va_S.rf
