/-! ===== the constructors: worlds that grow ===== -/
section CTOR
def kdL : List String := [RX3, RX0, RX6, RX4, RX2]
def Kn2 (E : EnvT) (U : State) : Prop := Knw E U ∧ va_AO "PaidInDays$WorkerKind" U ∧ ∀ C ∈ kdL, va_Nw (.castable C "PaidInDays$WorkerKind") U
theorem Kn2.warm {E : EnvT} {s U : State} (h : Kn2 E s) (hW : s.WarmedH U.vm) : Kn2 E U := ⟨h.1.warm hW, va_AO.moved hW.alike h.2.1, fun C hC => va_Nw.warmC hW (h.2.2 C hC)⟩
theorem Kn2.same {E : EnvT} {s U : State} (h : Kn2 E s) (hv : s.vm = U.vm) : Kn2 E U := ⟨h.1.same hv, va_AO.moved (by rw [hv]; exact Vm.Alike.refl _) h.2.1, fun C hC => va_Nw.same rfl hv (h.2.2 C hC)⟩
/-- where such a walk stands: its room, the heap's size at its start, the cells that it may change, its end -/
abbrev NZ : Type := Room × Nat × (Nat → Prop) × (List Frame → Array Value → State → State → Prop) × (State → Prop)
def CxN (E : EnvT) (Z : NZ) (M : MI) (p : Program) (s : State) (m : MethodId) (args : Array Value) (meth : Method) (c : Code) : Prop :=
  p.tables.exec = Jvm.exec ∧ c.code = M.2.1 ∧ c.maxLocals = M.2.2.1 ∧ meth.sig.returnType = M.2.2.2.1 ∧ meth.locks = false ∧ s.vm.findClass M.1.cls = some m.cls ∧ (∀ w ∈ TB, w.before args s = true) ∧ Kn2 E s ∧ (M.1.name = "<init>" → meth.name = "<init>") ∧ s.heap.size = Z.2.1 ∧ (∀ q, s.heap.size ≤ q → Z.2.2.1 q) ∧ Z.2.2.2.2 s
def NG (E : EnvT) (Z : NZ) (M : MI) (pc : Nat) (L : List (Option Value)) (S : List Value) (k n : Nat) (l : va_W) : Prop :=
  ∀ (p : Program) (e : Env) (s : State) (m : MethodId) (args : Array Value) (below : List Frame) (meth : Method) (c : Code) (H : Heap) (locs : List Loc) (ls : Array Slot), CxN E Z M p s m args meth c → LH ls M.2.2.1 L → va_P (eD E) vwCl l H → va_D Z.2.2.1 l → va_S Z.2.2.1 s.heap H locs →
    W p (eL E) e Z.1 s m args below meth c H locs k n (Z.2.2.2.1 below args s) (F0 m pc ls S)
variable {E : EnvT} {Z : NZ} {M M' : MI} {pc : Nat} {L : List (Option Value)} {S : List Value} {k n : Nat} {l : va_W}
theorem n_aload_n {i : Fin 4} {x : Nat} (d : decode M.2.1 pc = .ok (.aload_n i, 1)) (h : L[(i : Nat)]? = some (some (.ref x))) (K : NG E Z M (pc + 1) L (.ref x :: S) k n l) : NG E Z M pc L S k n l := fun p e s m args below meth c H locs ls C hl hP hD hS => lv_aload_n C.1 C.2.1 d rfl (hl.at h) (K p e s m args below meth c H locs ls C hl hP hD hS)
theorem n_iconst {j : Int} (v : Int32) (d : decode M.2.1 pc = .ok (.iconst j, 1)) (hv : Int32.ofInt j = v) (K : NG E Z M (pc + 1) L (.int v :: S) k n l) : NG E Z M pc L S k n l := fun p e s m args below meth c H locs ls C hl hP hD hS => lv_iconst C.1 C.2.1 d hv (K p e s m args below meth c H locs ls C hl hP hD hS)
theorem n_bipush {j : Int} (v : Int32) (d : decode M.2.1 pc = .ok (.bipush j, 2)) (hv : (Int8.ofInt j).toInt32 = v) (K : NG E Z M (pc + 2) L (.int v :: S) k n l) : NG E Z M pc L S k n l := fun p e s m args below meth c H locs ls C hl hP hD hS => lv_bipush C.1 C.2.1 d hv (K p e s m args below meth c H locs ls C hl hP hD hS)
theorem n_dup {v : Value} (d : decode M.2.1 pc = .ok (.dup, 1)) (hc : v.category = 1) (K : NG E Z M (pc + 1) L (v :: v :: S) k n l) : NG E Z M pc L (v :: S) k n l := fun p e s m args below meth c H locs ls C hl hP hD hS => lv_dup C.1 C.2.1 d hc (K p e s m args below meth c H locs ls C hl hP hD hS)
theorem n_astore_1 {a0 a1 : Option Value} {T : List (Option Value)} {v : Nat} (d : decode M.2.1 pc = .ok (.astore_n 1, 1)) (ho : oc1 a0 = true) (K : NG E Z M (pc + 1) (a0 :: some (.ref v) :: T) S k n l) : NG E Z M pc (a0 :: a1 :: T) (.ref v :: S) k n l := fun p e s m args below meth c H locs ls C hl hP hD hS => lv_astore_n (lv := prs 0 (a0 :: a1 :: T)) C.1 C.2.1 d rfl hl.1 (by have := hl.2; simp only [List.length_cons] at this; omega) rfl (fun ls1 h1 => K p e s m args below meth c H locs ls1 C (LH.set1 hl.2 (by have := hl.2; simp only [List.length_cons] at this; omega) h1 (fun o h0 hz => by cases h0; exact ho)) hP hD hS)
theorem n_astore_2 {a0 a1 a2 : Option Value} {T : List (Option Value)} {v : Nat} (d : decode M.2.1 pc = .ok (.astore_n 2, 1)) (ho : oc1 a1 = true) (K : NG E Z M (pc + 1) (a0 :: a1 :: some (.ref v) :: T) S k n l) : NG E Z M pc (a0 :: a1 :: a2 :: T) (.ref v :: S) k n l := fun p e s m args below meth c H locs ls C hl hP hD hS => lv_astore_n (lv := prs 0 (a0 :: a1 :: a2 :: T)) C.1 C.2.1 d rfl hl.1 (by have := hl.2; simp only [List.length_cons] at this; omega) rfl (fun ls1 h1 => K p e s m args below meth c H locs ls1 C (LH.set1 hl.2 (by have := hl.2; simp only [List.length_cons] at this; omega) h1 (fun o h0 hz => by cases h0; exact ho)) hP hD hS)
theorem wo_im : Cond.instanceMethod objectInit ∈ TB := tbw 25 (by decide +kernel) rfl
set_option maxRecDepth 20000 in
theorem wo_code : Cond.code objectInit ⟨#[0xb1]⟩ 1 none ∈ TB := tbw 26 rfl rfl
theorem wa_int : Cond.arrayClass .int ∈ TB := tbw 119 (by decide +kernel) rfl
theorem wa_char : Cond.arrayClass .char ∈ TB := tbw 134 (by decide +kernel) rfl
theorem n_obj {index x : Nat} (hw : Cond.methodLink M.1.cls index objectInit ∈ TB) (h1 : 1 ≤ Z.1.frames) (h2 : 20 ≤ Z.1.locals) (h3 : (S.map fun v => v.category).sum ≤ 8) (d : decode M.2.1 pc = .ok (.invokespecial index, 3)) (K : NG E Z M (pc + 3) L S k n l) : NG E Z M pc L (.ref x :: S) k n l := fun p e s m args below meth c H locs ls C hl hP hD hS =>
  W.objInit C.1 C.2.1 C.2.2.2.2.2.1 (C.2.2.2.2.2.2.1 _ hw) (C.2.2.2.2.2.2.1 _ wo_im) (C.2.2.2.2.2.2.1 _ wo_code) rfl (by rw [C.2.2.1]; exact hl.1.1) rfl d h1 (by show 2 * 0 + _ + 12 ≤ _; omega) (W.eq (g2 := F0 m (pc + 3) ls S) rfl (K p e s m args below meth c H locs ls C hl hP hD hS))
theorem n_new {index ci N : Nat} {C0 : String} {T0 : u_T} {fs : List Value} (ty : Nat → FieldType) (hty : ∀ j, j < N → parseFieldDescriptor (T0 j).2.2.1 = some (ty j)) (hin : ∀ w ∈ u_ws C0 T0 N, w ∈ TB) (hw : Cond.classLink M.1.cls index C0 ∈ TB) (hi : Cond.instantiable C0 N ∈ TB) (hini : Cond.initialized C0 ∈ TB) (hc : vwCl[ci]? = some (C0, T0, N)) (hfs : ∀ j, j < N → defaultValue (ty j) = vp_V fs j) (h1 : k + 1 ≤ Z.1.cells) (h2 : n + N ≤ Z.1.slots) (d : decode M.2.1 pc = .ok (.new index, 3)) (K : ∀ q, NG E Z M (pc + 3) L (.ref q :: S) (k + 1) (n + N) (l ++ [(q, .inr (ci, fs))])) : NG E Z M pc L S k n l := fun p e s m args below meth c H locs ls C hl hP hD hS =>
  va_new (tys := tyl E) C.1 C.2.1 C.2.2.2.2.2.2.1 hin ty hty C.2.2.2.2.2.1 (C.2.2.2.2.2.2.1 _ hw) (C.2.2.2.2.2.2.1 _ hi) (C.2.2.2.2.2.2.1 _ hini) C.2.2.2.2.2.2.2.1.1.1 hP hD hS C.2.2.2.2.2.2.2.2.2.2.1 hc hfs h1 h2 d (fun q H1 hP1 hD1 hS1 => K q p e s m args below meth c H1 locs ls C hl hP1 hD1 hS1)
theorem n_newi {N : Nat} (hb : N ≤ 1000) (h1 : k + 1 ≤ Z.1.cells) (h2 : n + N ≤ Z.1.slots) (d : decode M.2.1 pc = .ok (.newarray .int, 2)) (K : ∀ q, NG E Z M (pc + 2) L (.ref q :: S) (k + 1) (n + N) (l ++ [(q, .inl (cA E 0, N, .inl (fun _ => 0)))])) : NG E Z M pc L (.int (nI N) :: S) k n l := fun p e s m args below meth c H locs ls C hl hP hD hS => by
  have hK := C.2.2.2.2.2.2.2.1.1.1
  refine va_newa (atype := .int) (ty := .int) (tys := tyl E) (a0 := (N, .inl (fun _ => 0))) C.1 C.2.1 (C.2.2.2.2.2.2.1 _ wa_int) rfl hK hP hD hS C.2.2.2.2.2.2.2.2.2.2.1 (fun cA => rfl) (nI_pos (by omega)) (nI_clamp (by omega)) (by show N * 4 ≤ _; omega) h1 h2 d (fun q cA' H1 hK1 hP1 hD1 hS1 => ?_)
  have e1 : s.vm.findClass ("[" ++ FieldType.int.toString) = some cA' := (hK1.2 3 (cA', .int) rfl).2
  have e2 : s.vm.findClass ("[" ++ FieldType.int.toString) = some (cA E 0) := (hK.2 0 (cA E 0, .int) rfl).2
  have e3 : cA' = cA E 0 := Option.some.inj (e1.symm.trans e2)
  rw [e3] at hP1 hD1
  exact K q p e s m args below meth c H1 locs ls C hl hP1 hD1 hS1
theorem n_newc {N : Nat} (hb : N ≤ 1000) (h1 : k + 1 ≤ Z.1.cells) (h2 : n + N ≤ Z.1.slots) (d : decode M.2.1 pc = .ok (.newarray .char, 2)) (K : ∀ q, NG E Z M (pc + 2) L (.ref q :: S) (k + 1) (n + N) (l ++ [(q, .inl (cA E 1, N, .inl (fun _ => 0)))])) : NG E Z M pc L (.int (nI N) :: S) k n l := fun p e s m args below meth c H locs ls C hl hP hD hS => by
  have hK := C.2.2.2.2.2.2.2.1.1.1
  refine va_newa (atype := .char) (ty := .char) (tys := tyl E) (a0 := (N, .inl (fun _ => 0))) C.1 C.2.1 (C.2.2.2.2.2.2.1 _ wa_char) rfl hK hP hD hS C.2.2.2.2.2.2.2.2.2.2.1 (fun cA => rfl) (nI_pos (by omega)) (nI_clamp (by omega)) (by show N * 2 ≤ _; omega) h1 h2 d (fun q cA' H1 hK1 hP1 hD1 hS1 => ?_)
  have e1 : s.vm.findClass ("[" ++ FieldType.char.toString) = some cA' := (hK1.2 3 (cA', .char) rfl).2
  have e2 : s.vm.findClass ("[" ++ FieldType.char.toString) = some (cA E 1) := (hK.2 1 (cA E 1, .char) rfl).2
  have e3 : cA' = cA E 1 := Option.some.inj (e1.symm.trans e2)
  rw [e3] at hP1 hD1
  exact K q p e s m args below meth c H1 locs ls C hl hP1 hD1 hS1
theorem n_newq {N index : Nat} (hb : N ≤ 1000) (hw : Cond.classLink M.1.cls index "PaidInDays$WorkerKind" ∈ TB) (h1 : k + 1 ≤ Z.1.cells) (h2 : n + N ≤ Z.1.slots) (d : decode M.2.1 pc = .ok (.anewarray index, 3)) (K : ∀ q, NG E Z M (pc + 3) L (.ref q :: S) (k + 1) (n + N) (l ++ [(q, .inl (cA E 2, N, .inr (.inr (.inr (.inr (fun _ => none))))))])) : NG E Z M pc L (.int (nI N) :: S) k n l := fun p e s m args below meth c H locs ls C hl hP hD hS => by
  have hK := C.2.2.2.2.2.2.2.1.1.1
  refine va_newq (tys := tyl E) (C := "PaidInDays$WorkerKind") C.1 C.2.1 C.2.2.2.2.2.1 (C.2.2.2.2.2.2.1 _ hw) C.2.2.2.2.2.2.2.1.2.1 hK hP hD hS C.2.2.2.2.2.2.2.2.2.2.1 (nI_pos (by omega)) (nI_clamp (by omega)) (by omega) h1 h2 d (fun q cA' H1 hK1 hP1 hD1 hS1 => ?_)
  obtain ⟨kA, comp, -, -, -, e1⟩ := (hK1.2 3 (cA', .object "PaidInDays$WorkerKind") rfl).2
  obtain ⟨kA2, comp2, -, -, -, e2⟩ := (hK.2 2 (cA E 2, .object "PaidInDays$WorkerKind") rfl).2
  have e3 : cA' = cA E 2 := Option.some.inj (e1.symm.trans e2)
  rw [e3] at hP1 hD1
  exact K q p e s m args below meth c H1 locs ls C hl hP1 hD1 hS1
theorem n_ast {q0 qk ci N a v i : Nat} {C0 : String} {T0 : u_T} {fs : List Value} {f : Nat → Option Nat} (ha : l[q0]? = some (a, .inl (cA E 2, 6, .inr (.inr (.inr (.inr f)))))) (hv : l[qk]? = some (v, .inr (ci, fs))) (hc : vwCl[ci]? = some (C0, T0, N)) (hk : C0 = "PaidInDays$WorkerKind" ∨ C0 ∈ kdL) (hi : i < 6) (d : decode M.2.1 pc = .ok (.aastore, 1)) (K : NG E Z M (pc + 1) L S k n (l.set q0 (a, .inl (cA E 2, 6, .inr (.inr (.inr (.inr (va_up f i (some v))))))))) : NG E Z M pc L (.ref v :: .int (nI i) :: .ref a :: S) k n l := fun p e s m args below meth c H locs ls C hl hP hD hS => by
  have hK := C.2.2.2.2.2.2.2.1.1.1
  refine vb_astq (tys := tyl E) (E := "PaidInDays$WorkerKind") (C := C0) C.1 C.2.1 hK hP hD hS q0 2 ha rfl (va_recv hK hP hc hv) ?_ (vp_in_nI hi (by omega)) d (fun H1 locs1 hP1 hD1 hS1 => ?_)
  · rcases hk with rfl | hk
    · exact vb_asgS
    · exact vb_asgC (C.2.2.2.2.2.2.2.1.2.2 C0 hk)
  · rw [nI_clamp (by omega)] at hP1 hD1
    exact K p e s m args below meth c H1 locs1 ls C hl hP1 hD1 hS1
theorem n_put {q0 ci N index a : Nat} {C0 : String} {T0 : u_T} {fs : List Value} {v : Value} (he : l[q0]? = some (a, .inr (ci, fs))) (hc : vwCl[ci]? = some (C0, T0, N)) (j : Nat) (hj : j < N) (hin : ∀ w ∈ u_ws C0 T0 N, w ∈ TB) (ty0 : Nat → FieldType) (hty : ∀ k, k < N → parseFieldDescriptor (T0 k).2.2.1 = some (ty0 k)) (hnm : ∀ a, a < N → ∀ b, b < N → a ≠ b → (T0 a).2.1 ≠ (T0 b).2.1) (hw : Cond.fieldLink M.1.cls index C0 (T0 j).2.1 (T0 j).2.2.1 ∈ TB) (hdc : (T0 j).1 = C0) (hfin : (T0 j).2.2.2 = false) (hn : narrow (ty0 j) v = v) (hfit : fits (ty0 j) v = true) (hl0 : j < fs.length) (d : decode M.2.1 pc = .ok (.putfield index, 3)) (K : NG E Z M (pc + 3) L S k n (l.set q0 (a, .inr (ci, fs.set j v)))) : NG E Z M pc L (v :: .ref a :: S) k n l := fun p e s m args below meth c H locs ls C hl hP hD hS =>
  va_put (tys := tyl E) C.1 C.2.1 C.2.2.2.2.2.2.1 hin ty0 hty hnm C.2.2.2.2.2.1 C.2.2.2.2.2.2.2.1.1.1 hP hD hS q0 he hc j hj (C.2.2.2.2.2.2.1 _ hw) (fun x hx => by rw [hdc] at hx; exact hx) hfin (hty j hj) hn hfit hl0 d (fun H1 locs1 hP1 hD1 hS1 => K p e s m args below meth c H1 locs1 ls C hl hP1 hD1 hS1)
theorem n_putF {q0 ci N index a : Nat} {C0 : String} {T0 : u_T} {fs : List Value} {v : Value} (he : l[q0]? = some (a, .inr (ci, fs))) (hc : vwCl[ci]? = some (C0, T0, N)) (j : Nat) (hj : j < N) (hin : ∀ w ∈ u_ws C0 T0 N, w ∈ TB) (ty0 : Nat → FieldType) (hty : ∀ k, k < N → parseFieldDescriptor (T0 k).2.2.1 = some (ty0 k)) (hnm : ∀ a, a < N → ∀ b, b < N → a ≠ b → (T0 a).2.1 ≠ (T0 b).2.1) (hw : Cond.fieldLink M.1.cls index C0 (T0 j).2.1 (T0 j).2.2.1 ∈ TB) (hdc : (T0 j).1 = C0) (hfin : (T0 j).2.2.2 = true) (hi : M.1.name = "<init>") (hcl : M.1.cls = C0) (hn : narrow (ty0 j) v = v) (hfit : fits (ty0 j) v = true) (hl0 : j < fs.length) (d : decode M.2.1 pc = .ok (.putfield index, 3)) (K : NG E Z M (pc + 3) L S k n (l.set q0 (a, .inr (ci, fs.set j v)))) : NG E Z M pc L (v :: .ref a :: S) k n l := fun p e s m args below meth c H locs ls C hl hP hD hS =>
  va_putF (tys := tyl E) C.1 C.2.1 C.2.2.2.2.2.2.1 hin ty0 hty hnm C.2.2.2.2.2.1 C.2.2.2.2.2.2.2.1.1.1 hP hD hS q0 he hc j hj (C.2.2.2.2.2.2.1 _ hw) (fun x hx => by rw [hdc] at hx; exact hx) hfin (C.2.2.2.2.2.2.2.2.1 hi) (hdc.trans hcl.symm) (hty j hj) hn hfit hl0 d (fun H1 locs1 hP1 hD1 hS1 => K p e s m args below meth c H1 locs1 ls C hl hP1 hD1 hS1)
/-- a constructor that changes nothing -/
def Idl (E : EnvT) (M : MI) : Prop := ∀ h0 : Nat, Met (eL E) M.1 (cw M :: TB) (rmv M.2.2.2.2) (va_Pc [.ref h0] (Kn2 E)) (va_Qv (S := Unit) (fun _ => True) (fun _ _ => True) (fun _ => False)) 0 0 (fun _ => False)
/-- a constructor that makes the world Lf g out of the blank object e0 -/
def Mkr (E : EnvT) (M : MI) (mc ms : Nat) (e0 : va_E) {ST : Type} (post : Nat → ST → Prop) (Lf : ST → va_W) : Prop := ∀ h0 sz : Nat, Met (eL E) M.1 (cw M :: TB) { frames := M.2.2.2.2, cells := mc, slots := ms, locals := 35 * M.2.2.2.2 } (va_Pc [.ref h0] (fun U => U.heap.size = sz ∧ va_P (eD E) vwCl [(h0, e0)] U.heap ∧ Kn2 E U)) (va_Qv (post h0) (fun g t => va_P (eD E) vwCl (Lf g) t.heap ∧ va_D (va_A [(h0, e0)] sz) (Lf g)) (va_A [(h0, e0)] sz)) mc ms (va_A [(h0, e0)] sz)
/-- what is known of a constructor -/
def SMi (M : MI) : Prop := cw M ∈ TB ∧ Cond.initialized M.1.cls ∈ TB ∧ (M.1.cls ≠ "java/lang/invoke/MethodHandle" ∧ M.1.cls ≠ "java/lang/invoke/VarHandle") ∧ (parseMethodDescriptor M.1.desc).map (fun d => d.parameters.length) = some 0 ∧ Cond.instanceMethod M.1 ∈ TB ∧ M.1.name = "<init>" ∧ M.2.2.2.1 = none
def nOK (M' : MI) (Z : NZ) (S : List Value) : Bool := decide (M'.2.2.2.2 + 1 ≤ Z.1.frames) && decide (8 + (M'.2.2.1 + 11) + 35 * M'.2.2.2.2 ≤ Z.1.locals) && decide ((S.map fun v => v.category).sum ≤ 8)
theorem Idl_blind {h0 : Nat} : FrameBlind (va_Pc [.ref h0] (Kn2 E)) := by
  intro a U g mk h
  exact ⟨h.1, h.2.same rfl⟩
theorem n_idle {index q : Nat} {host : String} (hM : Idl E M') (f : SMi M') (hw : Cond.methodLinkNest M.1.cls index M'.1 host ∈ lw_tbl) (ok : nOK M' Z S = true) (h1 : k ≤ Z.1.cells) (h2 : n ≤ Z.1.slots) (d : decode M.2.1 pc = .ok (.invokespecial index, 3)) (K : NG E Z M (pc + 3) L S k n l) : NG E Z M pc L (.ref q :: S) k n l := by
  intro p e s m args below meth c H locs ls C hl hP hD hS
  obtain ⟨f1, f2, f3, f4, f5, f6, f7⟩ := f
  simp only [nOK, Bool.and_eq_true, decide_eq_true_eq] at ok
  obtain ⟨⟨o1, o2⟩, o3⟩ := ok
  obtain ⟨c1, c2, c3, c4, c5, c6, c7, c8, c9⟩ := id C
  have cb : va_CN Z.1 s args M.1.cls index M'.1 host M'.2.1 M'.2.2.1 none (cw M' :: TB) (rmv M'.2.2.2.2) 0 0 0 := ⟨⟨rfl, rfl, o1, o2, pay_tb c7 f1, by rw [← f7]; exact List.mem_cons_self⟩, by rw [← f7]; exact c7 _ f1, c7 _ f2, f3, lenOf f4, va_Nw.use rfl (c8.1.2.1 _ hw rfl)⟩
  refine va_callv (va_runIN (As := []) (rest := S) ⟨c1, c2, c3, c6, c7⟩ (hM q) ⟨cb, f6, c7 _ f5⟩ ⟨Idl_blind, fun U hU hW => ⟨rfl, c8.warm hW⟩⟩ rfl rfl hl.1.1 rfl (lv_room o3) d ⟨h1, h2⟩) hS (fun _ _ h => h.elim) (fun _ h => h.elim) (fun u t H1 locs1 ht hvm hw1 hB hz1 hk1 hS1 => ?_)
  exact K p e s m args below meth c H1 locs1 ls C hl (hP.kept (fun i x hx => hk1 x.1 (hP i x hx).lt (fun h => h))) hD hS1
theorem join_last {A0 : Nat → Prop} {D : va_G} {cl : List vw_C} {l w1 : va_W} {q : Nat} {e0 : va_E} {H H1 : Heap} (hP : va_P D cl (l ++ [(q, e0)]) H) (hD : va_D A0 (l ++ [(q, e0)])) (hk : ∀ x : Nat, x < H.size → ¬ va_A [(q, e0)] H.size x → H1[x]? = H[x]?) (hF : ∀ x, va_A [(q, e0)] H.size x → A0 x) (hP1 : va_P D cl w1 H1) (hD1 : va_D (va_A [(q, e0)] H.size) w1) : va_P D cl (l ++ w1) H1 ∧ va_D A0 (l ++ w1) := by
  have hin : ∀ (i : Nat) (x : Nat × va_E), l[i]? = some x → (l ++ [(q, e0)])[i]? = some x := fun i x hx => by
    rw [List.getElem?_append_left (List.getElem?_eq_some_iff.mp hx).1]
    exact hx
  have hlast : (l ++ [(q, e0)])[l.length]? = some (q, e0) := by simp
  have apart : ∀ (i : Nat) (x : Nat × va_E), l[i]? = some x → x.1 < H.size ∧ ¬ va_A [(q, e0)] H.size x.1 := by
    intro i x hx
    have hl := (hP i x (hin i x hx)).lt
    refine ⟨hl, fun h => ?_⟩
    rcases h with ⟨k2, e, h⟩ | h
    · have hz : k2 < 1 := (List.getElem?_eq_some_iff.mp h).1
      rw [show k2 = 0 by omega] at h
      have h3 : q = x.1 := congrArg Prod.fst (Option.some.inj h)
      have := hD.1 i l.length x (q, e0) (hin i x hx) hlast h3.symm
      have := (List.getElem?_eq_some_iff.mp hx).1
      omega
    · omega
  refine ⟨va_P.app (fun i x hx => (hP i x (hin i x hx)).kept (hk x.1 (apart i x hx).1 (apart i x hx).2)) hP1, va_D.app ⟨fun i j x y hx hy h => hD.1 i j x y (hin i x hx) (hin j y hy) h, fun i x hx => hD.2 i x (hin i x hx)⟩ (hD1.weaken (fun i x _ h => hF x.1 h)) (fun i j x y hx hy hxy => ?_)⟩
  exact (apart i x hx).2 (by rw [hxy]; exact hD1.2 j y hy)
theorem at_last {A0 : Nat → Prop} {l : va_W} {q : Nat} {e0 : va_E} (hD : va_D A0 (l ++ [(q, e0)])) {sz : Nat} (hA : ∀ x, sz ≤ x → A0 x) : ∀ x, va_A [(q, e0)] sz x → A0 x := by
  intro x h
  rcases h with ⟨k2, e, h⟩ | h
  · have hz : k2 < 1 := (List.getElem?_eq_some_iff.mp h).1
    rw [show k2 = 0 by omega] at h
    have h3 : q = x := congrArg Prod.fst (Option.some.inj h)
    rw [← h3]
    exact hD.2 l.length (q, e0) (by simp)
  · exact hA x h
theorem Mkr_blind {h0 sz : Nat} {e0 : va_E} : FrameBlind (va_Pc [.ref h0] (fun U => U.heap.size = sz ∧ va_P (eD E) vwCl [(h0, e0)] U.heap ∧ Kn2 E U)) := by
  intro a U g mk h
  exact ⟨h.1, h.2.1, h.2.2.1, h.2.2.2.same rfl⟩
theorem P_last {D : va_G} {cl : List vw_C} {l : va_W} {q : Nat} {e0 : va_E} {H : Heap} (hP : va_P D cl (l ++ [(q, e0)]) H) : va_P D cl [(q, e0)] H := by
  intro i x hx
  have hz : i < 1 := (List.getElem?_eq_some_iff.mp hx).1
  rw [show i = 0 by omega] at hx
  cases hx
  exact hP l.length _ (by simp)
theorem n_mkN {index q mc ms : Nat} {e0 : va_E} {ST : Type} {post : Nat → ST → Prop} {Lf : ST → va_W} {host : String} (hM : Mkr E M' mc ms e0 post Lf) (f : SMi M') (hw : Cond.methodLinkNest M.1.cls index M'.1 host ∈ lw_tbl) (ok : nOK M' Z S = true) (h1 : k + mc ≤ Z.1.cells) (h2 : n + ms ≤ Z.1.slots) (d : decode M.2.1 pc = .ok (.invokespecial index, 3)) (K : ∀ g, post q g → NG E Z M (pc + 3) L S (k + mc) (n + ms) (l ++ Lf g)) : NG E Z M pc L (.ref q :: S) k n (l ++ [(q, e0)]) := by
  intro p e s m args below meth c H locs ls C hl hP hD hS
  obtain ⟨f1, f2, f3, f4, f5, f6, f7⟩ := f
  simp only [nOK, Bool.and_eq_true, decide_eq_true_eq] at ok
  obtain ⟨⟨o1, o2⟩, o3⟩ := ok
  obtain ⟨c1, c2, c3, c4, c5, c6, c7, c8, c9, c10, c11, -⟩ := id C
  have cb : va_CN Z.1 s args M.1.cls index M'.1 host M'.2.1 M'.2.2.1 none (cw M' :: TB) { frames := M'.2.2.2.2, cells := mc, slots := ms, locals := 35 * M'.2.2.2.2 } mc ms 0 := ⟨⟨rfl, rfl, o1, o2, pay_tb c7 f1, by rw [← f7]; exact List.mem_cons_self⟩, by rw [← f7]; exact c7 _ f1, c7 _ f2, f3, lenOf f4, va_Nw.use rfl (c8.1.2.1 _ hw rfl)⟩
  have hF := at_last hD (sz := H.size) (fun x hx => c11 x (Nat.le_trans hS.1 hx))
  refine va_callv (va_runIN (As := []) (rest := S) ⟨c1, c2, c3, c6, c7⟩ (hM q H.size) ⟨cb, f6, c7 _ f5⟩ ⟨Mkr_blind, fun U hU hW => ⟨rfl, by rw [hU], by rw [hU]; exact P_last hP, c8.warm hW⟩⟩ rfl rfl hl.1.1 rfl (lv_room o3) d ⟨h1, h2⟩) hS (fun x _ h => hF x h) hF (fun u t H1 locs1 ht hvm hw1 hB hz1 hk1 hS1 => ?_)
  obtain ⟨hP1, hD1⟩ := hB
  rw [ht] at hP1
  obtain ⟨hP2, hD2⟩ := join_last hP hD hk1 hF hP1 hD1
  exact K u hw1 p e s m args below meth c H1 locs1 ls C hl hP2 hD2 hS1
theorem n_mk {index q mc ms : Nat} {e0 : va_E} {ST : Type} {post : Nat → ST → Prop} {Lf : ST → va_W} (hM : Mkr E M' mc ms e0 post Lf) (f : SMi M') (hw : Cond.methodLink M.1.cls index M'.1 ∈ TB) (ok : nOK M' Z S = true) (h1 : k + mc ≤ Z.1.cells) (h2 : n + ms ≤ Z.1.slots) (d : decode M.2.1 pc = .ok (.invokespecial index, 3)) (K : ∀ g, post q g → NG E Z M (pc + 3) L S (k + mc) (n + ms) (l ++ Lf g)) : NG E Z M pc L (.ref q :: S) k n (l ++ [(q, e0)]) := by
  intro p e s m args below meth c H locs ls C hl hP hD hS
  obtain ⟨f1, f2, f3, f4, f5, f6, f7⟩ := f
  simp only [nOK, Bool.and_eq_true, decide_eq_true_eq] at ok
  obtain ⟨⟨o1, o2⟩, o3⟩ := ok
  obtain ⟨c1, c2, c3, c4, c5, c6, c7, c8, c9, c10, c11, -⟩ := id C
  have cb : CallB Z.1 s args M.1.cls index M'.1 M'.2.1 M'.2.2.1 none (cw M' :: TB) { frames := M'.2.2.2.2, cells := mc, slots := ms, locals := 35 * M'.2.2.2.2 } mc ms 0 := ⟨rfl, rfl, o1, o2, pay_tb c7 f1, by rw [← f7]; exact List.mem_cons_self, by rw [← f7]; exact c7 _ f1, c7 _ f2, f3, lenOf f4, c7 _ hw⟩
  have hF := at_last hD (sz := H.size) (fun x hx => c11 x (Nat.le_trans hS.1 hx))
  refine va_callv (va_runI (As := []) (rest := S) ⟨c1, c2, c3, c6, c7⟩ (hM q H.size) ⟨cb, f6, c7 _ f5⟩ ⟨Mkr_blind, fun U hU hW => ⟨rfl, by rw [hU], by rw [hU]; exact P_last hP, c8.warm hW⟩⟩ rfl rfl hl.1.1 rfl (lv_room o3) d ⟨h1, h2⟩) hS (fun x _ h => hF x h) hF (fun u t H1 locs1 ht hvm hw1 hB hz1 hk1 hS1 => ?_)
  obtain ⟨hP1, hD1⟩ := hB
  rw [ht] at hP1
  obtain ⟨hP2, hD2⟩ := join_last hP hD hk1 hF hP1 hD1
  exact K u hw1 p e s m args below meth c H1 locs1 ls C hl hP2 hD2 hS1
abbrev ZI (M : MI) (sz : Nat) : NZ := (rmv M.2.2.2.2, sz, fun q => sz ≤ q, fun below args s => MQ below (va_Qv (S := Unit) (fun _ => True) (fun _ _ => True) (fun _ => False)) args s 0 0 (fun _ => False), fun _ => True)
abbrev ZK (M : MI) (E : EnvT) (mc ms : Nat) (e0 : va_E) {ST : Type} (post : Nat → ST → Prop) (Lf : ST → va_W) (h0 sz : Nat) : NZ := ({ frames := M.2.2.2.2, cells := mc, slots := ms, locals := 35 * M.2.2.2.2 }, sz, va_A [(h0, e0)] sz, fun below args s => MQ below (va_Qv (post h0) (fun g t => va_P (eD E) vwCl (Lf g) t.heap ∧ va_D (va_A [(h0, e0)] sz) (Lf g)) (va_A [(h0, e0)] sz)) args s mc ms (va_A [(h0, e0)] sz), fun _ => True)
theorem D_one {A : Nat → Prop} {h0 : Nat} {e0 : va_E} (hA : A h0) : va_D A [(h0, e0)] := by
  refine ⟨fun i j x y hi hj _ => ?_, fun i x hx => ?_⟩
  · have h1 : i < 1 := (List.getElem?_eq_some_iff.mp hi).1
    have h2 : j < 1 := (List.getElem?_eq_some_iff.mp hj).1
    omega
  · have h1 : i < 1 := (List.getElem?_eq_some_iff.mp hx).1
    rw [show i = 0 by omega] at hx
    cases hx
    exact hA
theorem Mkr_of {mc ms : Nat} {e0 : va_E} {ST : Type} {post : Nat → ST → Prop} {Lf : ST → va_W} (hy : plainName M.1.cls = true) (hm : M.2.2.1 = 1) (hin : M.1.name = "<init>") (h : ∀ h0 sz, NG E (ZK M E mc ms e0 post Lf h0 sz) M 0 [some (.ref h0)] [] 0 0 [(h0, e0)]) : Mkr E M mc ms e0 post Lf := by
  intro h0 sz
  refine Met.ofW (cc := M.2.1) (maxL := M.2.2.1) (ret := M.2.2.2.1) hy rfl ?_
  intro p e s m args below meth c s₁ B hml hv
  obtain ⟨rfl, hsz, hP, hK⟩ := hv
  have hts := atoms_spec (ws := cw M :: TB) B.pre
  rw [lg_entry_eq]
  have hl := lv_entry [.ref h0] (n := M.2.2.1) (by rw [hm]; exact Nat.le_of_ble_eq_true rfl)
  exact h h0 sz p e s m _ below meth c s.heap [] _ ⟨B.exec, B.bytes, hml, B.returns, B.notSynchronized, findClass_of_methodNamed B.named, fun w hw => hts w (List.mem_cons_of_mem _ hw), hK, fun _ => ((name_of_methodNamed B.named B.method).1).trans hin, hsz, fun q hq => Or.inr (by rw [← hsz]; exact hq), trivial⟩ ⟨hl, by rw [hm]; rfl⟩ hP (D_one (Or.inl ⟨0, e0, rfl⟩)) va_S.rf
theorem Idl_of (hy : plainName M.1.cls = true) (hm : M.2.2.1 = 1) (hin : M.1.name = "<init>") (h : ∀ h0 sz, NG E (ZI M sz) M 0 [some (.ref h0)] [] 0 0 []) : Idl E M := by
  intro h0
  refine Met.ofW (cc := M.2.1) (maxL := M.2.2.1) (ret := M.2.2.2.1) hy rfl ?_
  intro p e s m args below meth c s₁ B hml hv
  obtain ⟨rfl, hK⟩ := hv
  have hts := atoms_spec (ws := cw M :: TB) B.pre
  rw [lg_entry_eq]
  have hl := lv_entry [.ref h0] (n := M.2.2.1) (by rw [hm]; exact Nat.le_of_ble_eq_true rfl)
  exact h h0 s.heap.size p e s m _ below meth c s.heap [] _ ⟨B.exec, B.bytes, hml, B.returns, B.notSynchronized, findClass_of_methodNamed B.named, fun w hw => hts w (List.mem_cons_of_mem _ hw), hK, fun _ => ((name_of_methodNamed B.named B.method).1).trans hin, rfl, fun q hq => hq, trivial⟩ ⟨hl, by rw [hm]; rfl⟩ (fun i x hx => by simp at hx) ⟨fun i j x y hx => by simp at hx, fun i x hx => by simp at hx⟩ va_S.rf
theorem n_reti {sz : Nat} (hr : M.2.2.2.1 = none) (d : decode M.2.1 pc = .ok (.return_, 1)) : NG E (ZI M sz) M pc L [] 0 0 l := fun p e s m args below meth c H locs ls C hl hP hD hS => by
  have hz : s.heap.size = sz := C.2.2.2.2.2.2.2.2.2.1
  refine va_forget (fun q hq => by rw [hz]; exact hS.2.2 q hq) ?_
  show W p (eL E) e (rmv M.2.2.2.2) s m args below meth c H [] 0 0 (MQ below (va_Qv (S := Unit) (fun _ => True) (fun _ _ => True) (fun _ => False)) args s 0 0 (fun _ => False)) (F0 m pc ls [])
  refine W.vret C.1 C.2.1 (C.2.2.2.1.trans hr) (fun t ht hW => ?_) (fun q hq => absurd hq List.not_mem_nil) d C.2.2.2.2.1
  exact ⟨⟨(), rfl, trivial, trivial⟩, by rw [ht]; exact hS.1, fun q h1 _ => by rw [ht]; exact hS.2.1 q h1 (by show ¬ sz ≤ q; omega)⟩
theorem n_retk {mc ms h0 sz : Nat} {e0 : va_E} {ST : Type} {post : Nat → ST → Prop} {Lf : ST → va_W} (g : ST) (hg : post h0 g) (hr : M.2.2.2.1 = none) (hP' : ∀ H : Heap, va_P (eD E) vwCl l H → va_P (eD E) vwCl (Lf g) H) (hD' : ∀ A : Nat → Prop, va_D A l → va_D A (Lf g)) (d : decode M.2.1 pc = .ok (.return_, 1)) : NG E (ZK M E mc ms e0 post Lf h0 sz) M pc L [] mc ms l := fun p e s m args below meth c H locs ls C hl hP hD hS =>
  W.vret C.1 C.2.1 (C.2.2.2.1.trans hr) (fun t ht hW => ⟨⟨g, rfl, hg, by rw [ht]; exact hP' H hP, hD' _ hD⟩, hS.F ht⟩) hS.2.2 d C.2.2.2.2.1
theorem arr_ext {cA n : Nat} {f f' : Nat → Option Nat} (h : ∀ j, j < n → f j = f' j) : vp_cell cA (n, .inr (.inr (.inr (.inr f)))) = vp_cell cA (n, .inr (.inr (.inr (.inr f')))) := by
  rw [vp_cell_q, vp_cell_q]
  unfold arrV
  congr 2
  funext j
  show va_rf (f j.val) = va_rf (f' j.val)
  rw [h j.val j.isLt]
theorem P_arr {D : va_G} {cl : List vw_C} {H : Heap} {q0 a n : Nat} {cA : ClassId} {f f' : Nat → Option Nat} (hP : va_P D cl l H) (he : l[q0]? = some (a, .inl (cA, n, .inr (.inr (.inr (.inr f)))))) (h : ∀ j, j < n → f j = f' j) : va_P D cl (l.set q0 (a, .inl (cA, n, .inr (.inr (.inr (.inr f')))))) H := by
  intro i x hx
  by_cases hi : i = q0
  · subst hi
    rw [List.getElem?_set_self (List.getElem?_eq_some_iff.mp he).1] at hx
    cases hx
    have h1 : H[a]? = some (vp_cell cA (n, .inr (.inr (.inr (.inr f))))) := hP i _ he
    show H[a]? = some (vp_cell cA (n, .inr (.inr (.inr (.inr f')))))
    rw [h1, arr_ext h]
  · rw [List.getElem?_set_ne (Ne.symm hi)] at hx
    exact hP i x hx
end CTOR
