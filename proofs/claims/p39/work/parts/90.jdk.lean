/-! the JDK's texts: contracts over a builder's cells -/
def zTB : u_T := fun k => match k with
  | 0 => ("java/lang/AbstractStringBuilder", "value", "[B", false)
  | 1 => ("java/lang/AbstractStringBuilder", "coder", "B", false)
  | 2 => ("java/lang/AbstractStringBuilder", "maybeLatin1", "Z", false)
  | _ => ("java/lang/AbstractStringBuilder", "count", "I", false)
def zyB : Nat → FieldType := fun k => match k with
  | 0 => .array .byte
  | 1 => .byte
  | 2 => .boolean
  | _ => .int
def zTS : u_T := fun k => match k with
  | 0 => ("java/lang/String", "value", "[B", true)
  | 1 => ("java/lang/String", "coder", "B", true)
  | 2 => ("java/lang/String", "hash", "I", false)
  | _ => ("java/lang/String", "hashIsZero", "Z", false)
def zyS : Nat → FieldType := fun k => match k with
  | 0 => .array .byte
  | 1 => .byte
  | 2 => .int
  | _ => .boolean
abbrev zbC : List vw_C := [("java/lang/StringBuilder", zTB, 4), ("java/lang/String", zTS, 4)]
theorem zTB_n : ∀ a, a < 4 → ∀ b, b < 4 → a ≠ b → (zTB a).2.1 ≠ (zTB b).2.1 := by decide +kernel
theorem zTB_t : ∀ k, k < 4 → parseFieldDescriptor (zTB k).2.2.1 = some (zyB k) := by decide +kernel
theorem zTS_n : ∀ a, a < 4 → ∀ b, b < 4 → a ≠ b → (zTS a).2.1 ≠ (zTS b).2.1 := by decide +kernel
theorem zTS_t : ∀ k, k < 4 → parseFieldDescriptor (zTS k).2.2.1 = some (zyS k) := by decide +kernel
theorem zat_all {ws : List Cond} (h : ws.all (fun w => decide (w ∈ lw_tbl) && goodWord w) = true) : ∀ w ∈ ws, w ∈ zTb := fun w hw => zat_t (List.all_eq_true.mp h w hw)
theorem zu_B : ∀ w ∈ u_ws "java/lang/StringBuilder" zTB 4, w ∈ zTb := zat_all (by decide +kernel)
theorem zu_S : ∀ w ∈ u_ws "java/lang/String" zTS 4, w ∈ zTb := zat_all (by decide +kernel)
/-- the statics that texts ask -/
def zbS (kv : (Nat → Nat) × (Nat → Nat)) (A : Nat → Prop) (U : State) (H : Heap) : Prop := va_Z "java/lang/String" "COMPACT_STRINGS" "Z" (.int 1) A U H ∧ va_Zq "jdk/internal/util/Preconditions" "SIOOBE_FORMATTER" "Ljava/util/function/BiFunction;" A U H ∧ vk_S 1 [8] [[46, 35, 126, 84, 99, 61, 47, 117]] kv.1 kv.2 A U H ∧ (Cond.selects "java/lang/StringBuilder" zyE zyE).before #[] U = true
theorem zbS.to {kv : (Nat → Nat) × (Nat → Nat)} {A B : Nat → Prop} {s U : State} {H H1 : Heap} (h : zbS kv A s H) (hW : s.WarmedH U.vm) (hq : ∀ a : Nat, a < H.size → ¬ A a → H1[a]? = H[a]?) (hAB : ∀ q, B q → A q) : zbS kv B U H1 :=
  ⟨va_Z.moved hW.alike (va_Z.narrow (h.1.kept hq) hAB), va_Zq.moved hW.alike (va_Zq.narrow (va_Zq.kept h.2.1 hq) hAB), vk_S.moved hW.alike (vk_S.narrow (vk_S.kept h.2.2.1 hq) hAB), zyE_warm hW h.2.2.2⟩
def zbPc (kv : (Nat → Nat) × (Nat → Nat)) (D : va_G) (cB : ClassId) (w : va_W) (sz : Nat) (vs : List Value) : Array Value → State → Prop := va_Pc vs (fun U => U.heap.size = sz ∧ va_P D zbC w U.heap ∧ va_K D zbC [(cB, .byte)] U ∧ va_D (fun _ => True) w ∧ zbS kv (va_A w sz) U U.heap)
theorem zbPc_blind (kv : (Nat → Nat) × (Nat → Nat)) (D : va_G) (cB : ClassId) (w : va_W) (sz : Nat) (vs : List Value) : FrameBlind (zbPc kv D cB w sz vs) := by
  intro a U g mk h
  obtain ⟨h1, h2, h3, h4, h5, h6⟩ := h
  exact ⟨h1, h2, h3, va_K.moved (State.WarmedH.refl U).alike h4, h5, h6.to (U := U.calling g mk a) (State.WarmedH.refl U) (fun _ _ _ => rfl) (fun _ q => q)⟩
def zbQc (D : va_G) (A : Nat → Prop) (post : Option Value → va_W → Prop) : Array Value → State → Outcome → State → Prop := fun _ st oc t => (∃ (v : Option Value) (w2 : va_W), oc = .returned v ∧ post v w2 ∧ va_P D zbC w2 t.heap ∧ va_D A w2) ∧ va_F A st t
def zbMet (l : Launch) (q : zM) (kv : (Nat → Nat) × (Nat → Nat)) (D : va_G) (cB : ClassId) (w : va_W) (vs : List Value) (mc ms : Nat) (post : Option Value → va_W → Prop) : Prop := ∀ sz : Nat, Met l (zmN q) (zws q) (zrm q mc ms) (zbPc kv D cB w sz vs) (zbQc D (va_A w sz) post) mc ms (va_A w sz)
/-- an activation of such a method -/
def zbX (q : zM) (kv : (Nat → Nat) × (Nat → Nat)) (D : va_G) (cB : ClassId) (p : Program) (s : State) (m : MethodId) (args : Array Value) (meth : Method) (c : Code) (A : Nat → Prop) : Prop :=
  p.tables.exec = Jvm.exec ∧ c.code = zmB q ∧ c.maxLocals = zmL q ∧ s.vm.findClass (zmN q).cls = some m.cls ∧ (∀ w ∈ zTb, w.before args s = true) ∧ va_K D zbC [(cB, .byte)] s ∧ (∀ a, s.heap.size ≤ a → A a) ∧ zbS kv A s s.heap ∧ meth.sig.returnType = zmR q ∧ meth.locks = false ∧ ((zmN q).name = "<init>" → meth.name = "<init>")
theorem zb_of {l : Launch} {q : zM} {kv : (Nat → Nat) × (Nat → Nat)} {D : va_G} {cB : ClassId} {w : va_W} {vs : List Value} {mc ms : Nat} {post : Option Value → va_W → Prop} (hpl : plainName (zmN q).cls = true) (hH : zmH q = []) (hlen : (lg_sl vs).length ≤ zmL q)
    (K : ∀ (p : Program) (e : Env) (s : State) (m : MethodId) (args : Array Value) (below : List Frame) (meth : Method) (c : Code) (A : Nat → Prop) (R : Room) (rls : Array Slot), R = zrm q mc ms → zbX q kv D cB p s m args meth c A → lv_has rls (zmL q) (lv_args 0 vs) → va_P D zbC w s.heap → va_D A w → va_S A s.heap s.heap [] →
      W p l e R s m args below meth c s.heap [] 0 0 (MQ below (zbQc D A post) args s mc ms A) (F0 m 0 rls [])) : zbMet l q kv D cB w vs mc ms post := by
  intro sz
  refine Met.ofW (cc := zmB q) (maxL := zmL q) (ret := zmR q) (ws' := zTb) hpl (by unfold zws zcw; rw [if_pos hH]) ?_
  intro p e s m args below meth c s₁ B hml hv
  obtain ⟨rfl, hsz, hP, hK, hD0, hZ⟩ := hv
  have hts := atoms_spec (ws := zws q) B.pre
  have hown : s.vm.findClass (zmN q).cls = some m.cls := findClass_of_methodNamed B.named
  subst hsz
  have hD := hD0.self (sz := s.heap.size)
  generalize hAe : va_A w s.heap.size = A at hD hZ ⊢
  have hA : ∀ a : Nat, s.heap.size ≤ a → A a := fun a h => by rw [← hAe]; exact Or.inr h
  have hl := lv_entry vs (n := zmL q) hlen
  rw [lg_entry_eq]
  exact K p e s m _ below meth c A _ _ rfl ⟨B.exec, B.bytes, hml, hown, (fun w hw => hts w (List.mem_cons_of_mem _ hw)), hK, hA, hZ, B.returns, B.notSynchronized, (fun z => (name_of_methodNamed B.named B.method).1.trans z)⟩ hl hP hD va_S.rf
section ZB
variable {p : Program} {l : Launch} {e : Env} {R : Room} {s : State} {m : MethodId} {args : Array Value} {below : List Frame} {meth : Method} {c : Code} {H : Heap} {locs : List Loc} {cells slots : Nat} {Q : State → Prop}
variable {q0 : zM} {kv : (Nat → Nat) × (Nat → Nat)} {D : va_G} {cB : ClassId} {A : Nat → Prop} {w : va_W} {pc : Nat} {rls : Array Slot} {rest vs st0 : List Value} {mc ms : Nat} {post : Option Value → va_W → Prop} {q : zM} {idx : Nat}
theorem zb_back (X : zbX q0 kv D cB p s m args meth c A) {a : Array Value} (hD : va_D A w) (hS : va_S A s.heap H locs)
    (hr : va_Run p l e R s m args below meth c H locs cells slots mc ms (F0 m pc rls st0) rest (zbQc D (va_A w H.size) post a) (va_A w H.size))
    (K : ∀ (v : Option Value) (w2 : va_W) (H1 : Heap) (locs1 : List Loc), post v w2 → va_P D zbC w2 H1 → va_D A w2 → va_S A s.heap H1 locs1 → (H.size ≤ H1.size ∧ (∀ z : Nat, z < H.size → ¬ va_A w H.size z → H1[z]? = H[z]?) ∧ va_D (va_A w H.size) w2) → W p l e R s m args below meth c H1 locs1 (cells + mc) (slots + ms) Q (F0 m (pc + 3) rls (v.toList ++ rest))) : W p l e R s m args below meth c H locs cells slots Q (F0 m pc rls st0) := by
  intro T hT X9
  have hf : ∀ z, va_A w H.size z → A z := fun z hz => by
    rcases hz with ⟨k, e9, hk⟩ | hz
    · exact hD.2 k (z, e9) hk
    · exact X.2.2.2.2.2.2.1 z (Nat.le_trans hS.1 hz)
  obtain ⟨v, st₀, t, T', L, h0, X', hL, e1, e2, ⟨⟨v1, w2, hv, hp, hb, hd⟩, hz, hk⟩, st⟩ := hr T hT X9
  cases hv
  rw [h0] at hz hk
  obtain ⟨t2, a1, b1⟩ := K v w2 T'.heap (locs ++ L) hp (by rw [e1]; exact hb) (hd.weaken (fun _ z _ h => hf z.1 h))
    ⟨Nat.le_trans hS.1 (by rw [e1]; exact hz), fun z h1 h2 => by rw [e1, hk z (Nat.lt_of_lt_of_le h1 hS.1) (fun y => h2 (hf z y))]; exact hS.2.1 z h1 h2, fun z hq => by
      rcases List.mem_append.mp hq with h | h
      · exact hS.2.2 z h
      · exact hf _ (hL z h)⟩ ⟨by rw [e1]; exact hz, fun z h1 h2 => by rw [e1]; exact hk z h1 h2, hd⟩ T' rfl X'
  exact ⟨t2, st t2 a1, b1⟩
theorem zb_pre (X : zbX q0 kv D cB p s m args meth c A) (hP : va_P D zbC w H) (hD : va_D A w) (hS : va_S A s.heap H locs) (U : State) (hU : U.heap = H) (hW : s.WarmedH U.vm) : zbPc kv D cB w H.size vs vs.toArray U := by
  have hf : ∀ z, va_A w H.size z → A z := fun z hz => by
    rcases hz with ⟨k, e9, hk⟩ | hz
    · exact hD.2 k (z, e9) hk
    · exact X.2.2.2.2.2.2.1 z (Nat.le_trans hS.1 hz)
  refine ⟨rfl, by rw [hU], by rw [hU]; exact hP, va_K.moved hW.alike X.2.2.2.2.2.1, hD.weaken (fun _ _ _ _ => trivial), ?_⟩
  have h := X.2.2.2.2.2.2.2.1.to (B := va_A w H.size) (U := U) (H1 := H) hW (fun a h1 h2 => hS.2.1 a h1 h2) hf
  rw [← hU] at h ⊢
  exact h
/-- what a call asks of the tables and of the room -/
def zbD (q0 q : zM) (idx n : Nat) : Prop := zcw q ∈ zTb ∧ Cond.initialized (zmN q).cls ∈ zTb ∧ Cond.methodLink (zmN q0).cls idx (zmN q) ∈ zTb ∧ zmH q = [] ∧ ((zmN q).cls ≠ "java/lang/invoke/MethodHandle" ∧ (zmN q).cls ≠ "java/lang/invoke/VarHandle") ∧ (parseMethodDescriptor (zmN q).desc).map (fun d => d.parameters.length) = some n ∧ zmF q + 1 ≤ zmF q0 ∧ 8 + (zmL q + 11) + zmW q ≤ zmW q0
theorem zb_cb (X : zbX q0 kv D cB p s m args meth c A) {n m0 s0 : Nat} (hR : R = zrm q0 m0 s0) (hc : zbD q0 q idx n) : CallB R s args (zmN q0).cls idx (zmN q) (zmB q) (zmL q) (zmR q) (zws q) (zrm q mc ms) mc ms n := by
  obtain ⟨c1, c2, c3, c4, c5, c6, c7, c8⟩ := hc
  have hsub := X.2.2.2.2.1
  have hG : GoodIn zTb (zws q) := fun w hw => by
    have hw2 : w ∈ zTb := by
      rcases List.mem_cons.mp hw with h | h
      · rw [h]; exact c1
      · exact h
    exact ⟨hw2, good_of_word (List.mem_filter.mp hw2).2⟩
  have hz := zcw_no c4
  refine ⟨rfl, rfl, by rw [hR]; exact c7, by rw [hR]; exact c8, pay_in hsub hG, by rw [← hz]; exact List.mem_cons_self, by rw [← hz]; exact hsub _ c1, hsub _ c2, c5, fun sig h => ?_, hsub _ c3⟩
  rw [h] at c6
  exact (Option.some.inj c6).symm
theorem zb_S (X : zbX q0 kv D cB p s m args meth c A) {m0 s0 : Nat} (hR : R = zrm q0 m0 s0) (hM : zbMet l q kv D cB w vs mc ms post) (hc : zbD q0 q idx vs.length) (hst : Cond.static (zmN q) ∈ zTb) (hf : cells + mc ≤ m0 ∧ slots + ms ≤ s0) (hlow : (rest.map fun v => v.category).sum ≤ 8) (d : decode (zmB q0) pc = .ok (.invokestatic idx, 3)) (hsz : rls.size = zmL q0) (hP : va_P D zbC w H) (hD : va_D A w) (hS : va_S A s.heap H locs) {st0 : List Value} (hs : st0 = vs.reverse ++ rest)
    (K : ∀ (v : Option Value) (w2 : va_W) (H1 : Heap) (locs1 : List Loc), post v w2 → va_P D zbC w2 H1 → va_D A w2 → va_S A s.heap H1 locs1 → (H.size ≤ H1.size ∧ (∀ z : Nat, z < H.size → ¬ va_A w H.size z → H1[z]? = H[z]?) ∧ va_D (va_A w H.size) w2) → W p l e R s m args below meth c H1 locs1 (cells + mc) (slots + ms) Q (F0 m (pc + 3) rls (v.toList ++ rest))) : W p l e R s m args below meth c H locs cells slots Q (F0 m pc rls st0) := by
  subst hs
  have cb := zb_cb X (mc := mc) (ms := ms) hR hc
  refine zb_back X hD hS ?_ K (a := vs.toArray)
  exact va_runS ⟨X.1, X.2.1, X.2.2.1, X.2.2.2.1, X.2.2.2.2.1⟩ (hM H.size) ⟨cb, X.2.2.2.2.1 _ hst⟩ ⟨zbPc_blind _ _ _ _ _ _, fun U hU hW => zb_pre X hP hD hS U hU hW⟩ rfl rfl hsz rfl (lv_room hlow) d (by rw [hR]; exact hf)
theorem zb_V0 (X : zbX q0 kv D cB p s m args meth c A) {m0 s0 : Nat} (hR : R = zrm q0 m0 s0) {b : Nat} {C9 : String} (hM : zbMet l q kv D cB w (.ref b :: vs) mc ms post) (hc : zbD q0 q idx vs.length) (hin : Cond.instanceMethod (zmN q) ∈ zTb) (hse : (Cond.selects C9 (zmN q) (zmN q)).before args s = true) (hrv : ∃ cell : Cell, H[b]? = some cell ∧ cell.vm.isStatics = false ∧ s.vm.findClass C9 = some cell.cls) (hf : cells + mc ≤ m0 ∧ slots + ms ≤ s0) (hlow : (rest.map fun v => v.category).sum ≤ 8) (d : decode (zmB q0) pc = .ok (.invokevirtual idx, 3)) (hsz : rls.size = zmL q0) (hP : va_P D zbC w H) (hD : va_D A w) (hS : va_S A s.heap H locs) {st0 : List Value} (hs : st0 = vs.reverse ++ .ref b :: rest)
    (K : ∀ (v : Option Value) (w2 : va_W) (H1 : Heap) (locs1 : List Loc), post v w2 → va_P D zbC w2 H1 → va_D A w2 → va_S A s.heap H1 locs1 → (H.size ≤ H1.size ∧ (∀ z : Nat, z < H.size → ¬ va_A w H.size z → H1[z]? = H[z]?) ∧ va_D (va_A w H.size) w2) → W p l e R s m args below meth c H1 locs1 (cells + mc) (slots + ms) Q (F0 m (pc + 3) rls (v.toList ++ rest))) : W p l e R s m args below meth c H locs cells slots Q (F0 m pc rls st0) := by
  subst hs
  have cb := zb_cb X (mc := mc) (ms := ms) hR hc
  refine zb_back X hD hS ?_ K (a := (Value.ref b :: vs).toArray)
  exact va_runV ⟨X.1, X.2.1, X.2.2.1, X.2.2.2.1, X.2.2.2.2.1⟩ (hM H.size) ⟨cb, X.2.2.2.2.1 _ hin, hse⟩ ⟨zbPc_blind _ _ _ _ _ _, hrv, fun U hU hW => zb_pre X hP hD hS U hU hW⟩ rfl rfl hsz rfl (lv_room hlow) d (by rw [hR]; exact hf)
theorem zb_V (X : zbX q0 kv D cB p s m args meth c A) {m0 s0 : Nat} (hR : R = zrm q0 m0 s0) {b : Nat} {C9 : String} (hM : zbMet l q kv D cB w (.ref b :: vs) mc ms post) (hc : zbD q0 q idx vs.length) (hin : Cond.instanceMethod (zmN q) ∈ zTb) (hse : (Cond.selects C9 (zmN q) (zmN q)).before args s = true) {ci N : Nat} {T : u_T} {fs : List Value} (k9 : Nat) (hb0 : w[k9]? = some (b, .inr (ci, fs))) (hcl : zbC[ci]? = some (C9, T, N)) (hf : cells + mc ≤ m0 ∧ slots + ms ≤ s0) (hlow : (rest.map fun v => v.category).sum ≤ 8) (d : decode (zmB q0) pc = .ok (.invokevirtual idx, 3)) (hsz : rls.size = zmL q0) (hP : va_P D zbC w H) (hD : va_D A w) (hS : va_S A s.heap H locs) {st0 : List Value} (hs : st0 = vs.reverse ++ .ref b :: rest)
    (K : ∀ (v : Option Value) (w2 : va_W) (H1 : Heap) (locs1 : List Loc), post v w2 → va_P D zbC w2 H1 → va_D A w2 → va_S A s.heap H1 locs1 → (H.size ≤ H1.size ∧ (∀ z : Nat, z < H.size → ¬ va_A w H.size z → H1[z]? = H[z]?) ∧ va_D (va_A w H.size) w2) → W p l e R s m args below meth c H1 locs1 (cells + mc) (slots + ms) Q (F0 m (pc + 3) rls (v.toList ++ rest))) : W p l e R s m args below meth c H locs cells slots Q (F0 m pc rls st0) :=
  zb_V0 X hR hM hc hin hse (va_recv X.2.2.2.2.2.1 hP hcl hb0) hf hlow d hsz hP hD hS hs K
theorem zb_I (X : zbX q0 kv D cB p s m args meth c A) {m0 s0 : Nat} (hR : R = zrm q0 m0 s0) {b : Nat} (hM : zbMet l q kv D cB w (.ref b :: vs) mc ms post) (hc : zbD q0 q idx vs.length) (hin : Cond.instanceMethod (zmN q) ∈ zTb) (hnm : (zmN q).name = "<init>") (hr : zmR q = none) (hf : cells + mc ≤ m0 ∧ slots + ms ≤ s0) (hlow : (rest.map fun v => v.category).sum ≤ 8) (d : decode (zmB q0) pc = .ok (.invokespecial idx, 3)) (hsz : rls.size = zmL q0) (hP : va_P D zbC w H) (hD : va_D A w) (hS : va_S A s.heap H locs) {st0 : List Value} (hs : st0 = vs.reverse ++ .ref b :: rest)
    (K : ∀ (v : Option Value) (w2 : va_W) (H1 : Heap) (locs1 : List Loc), post v w2 → va_P D zbC w2 H1 → va_D A w2 → va_S A s.heap H1 locs1 → (H.size ≤ H1.size ∧ (∀ z : Nat, z < H.size → ¬ va_A w H.size z → H1[z]? = H[z]?) ∧ va_D (va_A w H.size) w2) → W p l e R s m args below meth c H1 locs1 (cells + mc) (slots + ms) Q (F0 m (pc + 3) rls (v.toList ++ rest))) : W p l e R s m args below meth c H locs cells slots Q (F0 m pc rls st0) := by
  subst hs
  have cb := zb_cb X (mc := mc) (ms := ms) hR hc
  rw [hr] at cb
  refine zb_back X hD hS ?_ K (a := (Value.ref b :: vs).toArray)
  exact va_runI ⟨X.1, X.2.1, X.2.2.1, X.2.2.2.1, X.2.2.2.2.1⟩ (hM H.size) ⟨cb, hnm, X.2.2.2.2.1 _ hin⟩ ⟨zbPc_blind _ _ _ _ _ _, fun U hU hW => zb_pre X hP hD hS U hU hW⟩ rfl rfl hsz rfl (lv_room hlow) d (by rw [hR]; exact hf)
/-- a super's method -/
theorem zb_SU (X : zbX q0 kv D cB p s m args meth c A) {m0 s0 : Nat} (hR : R = zrm q0 m0 s0) {b : Nat} (hM : zbMet l q kv D cB w (.ref b :: vs) mc ms post) (hc : zbD q0 q idx vs.length) (hin : Cond.instanceMethod (zmN q) ∈ zTb) (hsm : Cond.sameMethod (zmN q).cls (zmN q).cls (zmN q).name (zmN q).desc ∈ zTb) (hsp : Cond.superclass (zmN q0).cls (zmN q).cls ∈ zTb) (hnm : (zmN q).name ≠ "<init>") {ci N : Nat} {T : u_T} {C9 : String} {fs : List Value} (k9 : Nat) (hb0 : w[k9]? = some (b, .inr (ci, fs))) (hcl : zbC[ci]? = some (C9, T, N)) (hf : cells + mc ≤ m0 ∧ slots + ms ≤ s0) (hlow : (rest.map fun v => v.category).sum ≤ 8) (d : decode (zmB q0) pc = .ok (.invokespecial idx, 3)) (hsz : rls.size = zmL q0) (hP : va_P D zbC w H) (hD : va_D A w) (hS : va_S A s.heap H locs) {st0 : List Value} (hs : st0 = vs.reverse ++ .ref b :: rest)
    (K : ∀ (v : Option Value) (w2 : va_W) (H1 : Heap) (locs1 : List Loc), post v w2 → va_P D zbC w2 H1 → va_D A w2 → va_S A s.heap H1 locs1 → (H.size ≤ H1.size ∧ (∀ z : Nat, z < H.size → ¬ va_A w H.size z → H1[z]? = H[z]?) ∧ va_D (va_A w H.size) w2) → W p l e R s m args below meth c H1 locs1 (cells + mc) (slots + ms) Q (F0 m (pc + 3) rls (v.toList ++ rest))) : W p l e R s m args below meth c H locs cells slots Q (F0 m pc rls st0) := by
  subst hs
  have cb := zb_cb X (mc := mc) (ms := ms) hR hc
  have hsub := X.2.2.2.2.1
  refine zb_back X hD hS ?_ K (a := (Value.ref b :: vs).toArray)
  exact va_runSU (X.2.2.2.2.2.1.1 ci _ hcl).2 ⟨X.1, X.2.1, X.2.2.1, X.2.2.2.1, hsub⟩ (hM H.size) ⟨⟨cb.1, cb.2.1, cb.2.2.1, cb.2.2.2.1, cb.2.2.2.2.1, cb.2.2.2.2.2.1⟩, cb.2.2.2.2.2.2.2.2.2.2, hsub _ hsm, hsub _ hsp, hsub _ hin, cb.2.2.2.2.2.2.2.1, cb.2.2.2.2.2.2.1, hnm, cb.2.2.2.2.2.2.2.2.2.1⟩ ⟨zbPc_blind _ _ _ _ _ _, va_recv X.2.2.2.2.2.1 hP hcl hb0, fun U hU hW => zb_pre X hP hD hS U hU hW⟩ rfl rfl hsz rfl (lv_room hlow) d (by rw [hR]; exact hf)
/-- an overriding method: 'x' is named, 'q' is run -/
theorem zb_O (X : zbX q0 kv D cB p s m args meth c A) {m0 s0 : Nat} (hR : R = zrm q0 m0 s0) {b : Nat} {x : MethodName} (hM : zbMet l q kv D cB w (.ref b :: vs) mc ms post) (hc : zcw q ∈ zTb ∧ Cond.initialized (zmN q).cls ∈ zTb ∧ Cond.methodLink (zmN q0).cls idx x ∈ zTb ∧ zmH q = [] ∧ (x.cls ≠ "java/lang/invoke/MethodHandle" ∧ x.cls ≠ "java/lang/invoke/VarHandle") ∧ (parseMethodDescriptor x.desc).map (fun d => d.parameters.length) = some vs.length ∧ zmF q + 1 ≤ zmF q0 ∧ 8 + (zmL q + 11) + zmW q ≤ zmW q0) (hin : Cond.instanceMethod (zmN q) ∈ zTb) (hsm : Cond.sameMethod x.cls x.cls x.name x.desc ∈ zTb) {b0 : ByteArray} {m9 : Nat} {r0 : Option FieldType} (h0 : Cond.code x b0 m9 r0 ∈ zTb) (hix : Cond.instanceMethod x ∈ zTb) {C9 : String} (hse : Cond.selects C9 x (zmN q) ∈ zTb) {ci N : Nat} {T : u_T} {fs : List Value} (k9 : Nat) (hb0 : w[k9]? = some (b, .inr (ci, fs))) (hcl : zbC[ci]? = some (C9, T, N)) (hf : cells + mc ≤ m0 ∧ slots + ms ≤ s0) (hlow : (rest.map fun v => v.category).sum ≤ 8) (d : decode (zmB q0) pc = .ok (.invokevirtual idx, 3)) (hsz : rls.size = zmL q0) (hP : va_P D zbC w H) (hD : va_D A w) (hS : va_S A s.heap H locs) {st0 : List Value} (hs : st0 = vs.reverse ++ .ref b :: rest)
    (K : ∀ (v : Option Value) (w2 : va_W) (H1 : Heap) (locs1 : List Loc), post v w2 → va_P D zbC w2 H1 → va_D A w2 → va_S A s.heap H1 locs1 → (H.size ≤ H1.size ∧ (∀ z : Nat, z < H.size → ¬ va_A w H.size z → H1[z]? = H[z]?) ∧ va_D (va_A w H.size) w2) → W p l e R s m args below meth c H1 locs1 (cells + mc) (slots + ms) Q (F0 m (pc + 3) rls (v.toList ++ rest))) : W p l e R s m args below meth c H locs cells slots Q (F0 m pc rls st0) := by
  subst hs
  obtain ⟨c1, c2, c3, c4, c5, c6, c7, c8⟩ := hc
  have hsub := X.2.2.2.2.1
  have hG : GoodIn zTb (zws q) := fun w hw => by
    have hw2 : w ∈ zTb := by
      rcases List.mem_cons.mp hw with h | h
      · rw [h]; exact c1
      · exact h
    exact ⟨hw2, good_of_word (List.mem_filter.mp hw2).2⟩
  have hz := zcw_no c4
  refine zb_back X hD hS ?_ K (a := (Value.ref b :: vs).toArray)
  refine va_runU (x := x) (owner := x.cls) (bytes := zmB q) (maxL := zmL q) (ret := zmR q) (n := vs.length) ⟨X.1, X.2.1, X.2.2.1, X.2.2.2.1, hsub⟩ (hM H.size) ⟨⟨rfl, rfl, by rw [hR]; exact c7, by rw [hR]; exact c8, pay_in hsub hG, by rw [← hz]; exact List.mem_cons_self⟩, by rw [← hz]; exact hsub _ c1, hsub _ c2, c5, fun sig h => ?_, hsub _ c3, hsub _ hsm, va_Decl.of (hsub _ hix) (hsub _ h0), hsub _ hse, hsub _ hin⟩ ⟨zbPc_blind _ _ _ _ _ _, va_recv X.2.2.2.2.2.1 hP hcl hb0, fun U hU hW => zb_pre X hP hD hS U hU hW⟩ rfl rfl hsz rfl (lv_room hlow) d (by rw [hR]; exact hf)
  rw [h] at c6
  exact (Option.some.inj c6).symm
end ZB
