/-! calls -/
/-- the activation is one of this method -/
def zOn (q : zM) (X : zX) : Prop := xcc X = zmB q ∧ xnL X = zmL q ∧ xown X = (zmN q).cls ∧ xTs X = zws q ∧ (xme X).locks = false ∧ (xme X).sig.returnType = zmR q ∧ ((zmN q).name = "<init>" → (xme X).name = "<init>") ∧ (xc X).exceptionTable.toList = tableOf (zmH q) ∧ (xR X).frames = zmF q ∧ (xR X).locals = zmW q ∧ (xl X).stackTraces = false
/-- what is so all the time, in an activation -/
def zVx (X : zX) : Prop := 6 ≤ xmo X ∧ xmo X ≤ (xL0 X).length ∧ zVm (xY X) (xL0 X) (xA X) (xs X) (xs X).heap
theorem zCls.mono {cl : List vw_C} {ft : Nat → List FieldType} {T1 T2 : List Cond} (h : zCls cl ft T1) (hs : ∀ w ∈ T1, w ∈ T2) : zCls cl ft T2 := fun k C T N hc => by
  obtain ⟨a1, a2, a3, a4, a5, a6, a7⟩ := h k C T N hc
  exact ⟨a1, a2, fun w hw => hs w (a3 w hw), a4, a5, hs _ a6, hs _ a7⟩
section ZBODY
variable {l : Launch}
/-- after vx_ofW, vx_ofWH, for any method in whose place nothing native runs -/
theorem zx_ofW {y : MethodName} {ws ws' : List Cond} {rm : Room} {Pc : Array Value → State → Prop} {Qc : Array Value → State → Outcome → State → Prop} {XC : String → State → State → Prop} {mc ms : Nat} {free : Addr → Prop} {cc : ByteArray} {maxL : Nat} {ret : Option FieldType}
    (hy : plainFor y = true) (hw : ws = Cond.code y cc maxL ret :: ws')
    (body : ∀ p e s m args below meth c s₁, BodyLoose p l y (headSpec ws rm) cc maxL ret e s m args below meth c s₁ → c.maxLocals = maxL → (∀ x ∈ c.exceptionTable.toList, False) → Pc args s →
      W p l e (headSpec ws rm).room s m args below meth c s.heap [] 0 0 (vx_MQ below Qc XC args s mc ms free) (entryFrame m args maxL)) : vx_Met l y ws rm Pc Qc XC mc ms free := by
  refine MetFree.of_bodySF (code := cc) (maxLocals := maxL) (ret := ret) hy ?_ ?_
  · intro args s m h hn
    obtain ⟨meth, c, h1, h2, h3, h4, h5, h6, -, -⟩ := Cond.code_spec hn (atoms_spec (ws := ws) h _ (by rw [hw]; exact List.mem_cons_self))
    exact ⟨meth, c, h1, h2, h3, h4, h5, h6⟩
  · intro p e s m args below meth c s₁ B hml hP _
    have hh0 : s₁.heap = s.heap := by rw [B.state]; rfl
    have ht : ∀ x ∈ c.exceptionTable.toList, False := by
      obtain ⟨meth9, c9, h1, h2, -, -, -, -, h7, -⟩ := Cond.code_spec B.named (atoms_spec (ws := ws) B.pre _ (by rw [hw]; exact List.mem_cons_self))
      cases Option.some.inj (h1.symm.trans B.method)
      cases Option.some.inj (h2.symm.trans (Stand.of_body B).code)
      intro x hx
      rw [Array.isEmpty_iff.mp h7] at hx
      cases hx
    obtain ⟨t, a1, o, b1, b2, b3⟩ := body p e s m args below meth c s₁ B hml ht hP s₁ hh0 (Stand.of_body B)
    exact ⟨t, o, a1, b1, b2, b3⟩
theorem zx_ofWH {y : MethodName} {ws ws' : List Cond} {rm : Room} {Pc : Array Value → State → Prop} {Qc : Array Value → State → Outcome → State → Prop} {XC : String → State → State → Prop} {mc ms : Nat} {free : Addr → Prop} {cc : ByteArray} {maxL : Nat} {ret : Option FieldType} {hh : List (Nat × Nat × Nat × Nat)}
    (hy : plainFor y = true) (hw : ws = Cond.codeWith y cc maxL ret hh :: ws')
    (body : ∀ p e s m args below meth c s₁, BodyLoose p l y (headSpec ws rm) cc maxL ret e s m args below meth c s₁ → c.maxLocals = maxL → Pc args s →
      W p l e (headSpec ws rm).room s m args below meth c s.heap [] 0 0 (vx_MQ below Qc XC args s mc ms free) (entryFrame m args maxL)) : vx_Met l y ws rm Pc Qc XC mc ms free := by
  refine MetFree.of_bodySF (code := cc) (maxLocals := maxL) (ret := ret) hy ?_ ?_
  · intro args s m h hn
    obtain ⟨m9, meth, c, hn9, h1, h2, h3, h4, -, h5, h6, -⟩ := Cond.codeWith_spec (atoms_spec (ws := ws) h _ (by rw [hw]; exact List.mem_cons_self))
    cases hn.symm.trans hn9
    exact ⟨meth, c, h1, h2, h3, h4, h5, h6⟩
  · intro p e s m args below meth c s₁ B hml hP _
    have hh0 : s₁.heap = s.heap := by rw [B.state]; rfl
    obtain ⟨t, a1, o, b1, b2, b3⟩ := body p e s m args below meth c s₁ B hml hP s₁ hh0 (Stand.of_body B)
    exact ⟨t, o, a1, b1, b2, b3⟩
end ZBODY
set_option maxHeartbeats 4000000 in
/-- a contract, out of the walk of the method's body -/
theorem zmet_of {l : Launch} {Y : zY} {P : Nat → zM} {y : Nat} {vs : List Value} {σ : zS} {o : zO} {σ' : zS} (hl : l.stackTraces = false) (hlen : (zent vs).length ≤ zmL (P y)) (hpl : plainFor (zmN (P y)) = true) (hc : zCls Y.1.2.1 Y.1.2.2.1 zTb)
    (K : ∀ X : zX, zFix X → zOn (P y) X → xl X = l → xY X = Y → zVx X → xnc X = znc σ → xns X = zns σ → (xR X).cells = znc σ' - znc σ → (xR X).slots = zns σ' - zns σ → xQ X = zQ X o σ' → zC X 0 (zfst vs (zmL (P y))) [] σ) : zMet l Y P y vs σ o σ' := by
  intro L sz
  have body : ∀ (S : Spec) (hS : S = headSpec (zws (P y)) (zrm (P y) (znc σ' - znc σ) (zns σ' - zns σ))) (p : Program) (e : Env) (s : State) (m : MethodId) (args : Array Value) (below : List Frame) (meth : Method) (c : Code) (s₁ : State), BodyLoose p l (zmN (P y)) S (zmB (P y)) (zmL (P y)) (zmR (P y)) e s m args below meth c s₁ → c.maxLocals = zmL (P y) → c.exceptionTable.toList = tableOf (zmH (P y)) → zPc Y L σ sz vs args s →
      W p l e S.room s m args below meth c s.heap [] 0 0 (vx_MQ below (zQc Y (va_A (zw Y.1.2.2.1 Y.1.2.2.2 Y.2.1 L σ) sz) L o σ') (zXc Y (va_A (zw Y.1.2.2.1 Y.1.2.2.2 Y.2.1 L σ) sz) L o σ') args s (znc σ' - znc σ) (zns σ' - zns σ) (va_A (zw Y.1.2.2.1 Y.1.2.2.2 Y.2.1 L σ) sz)) (entryFrame m args (zmL (P y))) := by
    intro S hS p e s m args below meth c s₁ B hml hex hv
    subst hS
    obtain ⟨rfl, hsz, h2, h3, h4, h5, h6, h7, h8, h9, h10, h11⟩ := hv
    subst hsz
    have hts := atoms_spec (ws := zws (P y)) B.pre
    have hown : s.vm.findClass (zmN (P y)).cls = some m.cls := findClass_of_methodNamed B.named
    obtain ⟨A, hAe⟩ : ∃ A, A = va_A (zw Y.1.2.2.1 Y.1.2.2.2 Y.2.1 L σ) s.heap.size := ⟨_, rfl⟩
    have hA : ∀ q, s.heap.size ≤ q → A q := fun q hq => by rw [hAe]; exact Or.inr hq
    have hD : va_D A (zw Y.1.2.2.1 Y.1.2.2.2 Y.2.1 L σ) := by rw [hAe]; exact h8.self
    rw [← hAe] at h10 ⊢
    have k := K ((p, l, e, (headSpec (zws (P y)) (zrm (P y) (znc σ' - znc σ) (zns σ' - zns σ))).room, s, m, (vs.map (zt L)).toArray, below, meth, c, vx_MQ below (zQc Y A L o σ') (zXc Y A L o σ') (vs.map (zt L)).toArray s (znc σ' - znc σ) (zns σ' - zns σ) A), Y.1, (Y.2.1, zmL (P y), znc σ, zns σ, A, L, Y.2.2), (zmB (P y), (zmN (P y)).cls, zws (P y)))
      ⟨B.exec, B.bytes, hml, hown, hts, h10.2.2.2.2.2.2.2.2, hA, hc.mono (fun w hw => List.mem_cons_of_mem _ hw), h10.1⟩
      ⟨rfl, rfl, rfl, rfl, B.notSynchronized, B.returns, (fun q => (name_of_methodNamed B.named B.method).1.trans q), hex, rfl, rfl, hl⟩ rfl rfl ⟨h3, h4, h10⟩ rfl rfl rfl rfl rfl
      L _ s.heap [] ⟨List.prefix_refl L, h2, h4, h5, h6, h7, hD, va_S.rf, h9, Nat.le_refl _, Nat.le_refl _⟩ (zfst_lv L hlen) (zfst_ok h11) (fun v hv => nomatch hv)
    rw [lg_entry_eq]
    have e1 : znc σ - xnc ((p, l, e, (headSpec (zws (P y)) (zrm (P y) (znc σ' - znc σ) (zns σ' - zns σ))).room, s, m, (vs.map (zt L)).toArray, below, meth, c, vx_MQ below (zQc Y A L o σ') (zXc Y A L o σ') (vs.map (zt L)).toArray s (znc σ' - znc σ) (zns σ' - zns σ) A), Y.1, (Y.2.1, zmL (P y), znc σ, zns σ, A, L, Y.2.2), (zmB (P y), (zmN (P y)).cls, zws (P y))) = 0 := Nat.sub_self _
    have e2 : zns σ - xns ((p, l, e, (headSpec (zws (P y)) (zrm (P y) (znc σ' - znc σ) (zns σ' - zns σ))).room, s, m, (vs.map (zt L)).toArray, below, meth, c, vx_MQ below (zQc Y A L o σ') (zXc Y A L o σ') (vs.map (zt L)).toArray s (znc σ' - znc σ) (zns σ' - zns σ) A), Y.1, (Y.2.1, zmL (P y), znc σ, zns σ, A, L, Y.2.2), (zmB (P y), (zmN (P y)).cls, zws (P y))) = 0 := Nat.sub_self _
    rw [e1, e2] at k
    exact k
  by_cases hH : zmH (P y) = []
  · have hw : zws (P y) = Cond.code (zmN (P y)) (zmB (P y)) (zmL (P y)) (zmR (P y)) :: zTb := by unfold zws zcw; rw [if_pos hH]
    refine zx_ofW (ws' := zTb) hpl hw fun p e s m args below meth c s₁ B hml hno hv => body _ rfl p e s m args below meth c s₁ B hml ?_ hv
    rw [hH]
    cases hq : c.exceptionTable.toList with
    | nil => rfl
    | cons a r => exact (hno a (by rw [hq]; exact List.mem_cons_self)).elim
  · have hw : zws (P y) = Cond.codeWith (zmN (P y)) (zmB (P y)) (zmL (P y)) (zmR (P y)) (zmH (P y)) :: zTb := by unfold zws zcw; rw [if_neg hH]
    refine zx_ofWH (ws' := zTb) hpl hw fun p e s m args below meth c s₁ B hml hv => body _ rfl p e s m args below meth c s₁ B hml ?_ hv
    exact vx_table (x := zmN (P y)) B (atoms_spec (ws := zws (P y)) B.pre _ (by rw [hw]; exact List.mem_cons_self))
section ZCALL
variable {X : zX} {pc : Nat} {ls : zLs} {st : List Value} {σ : zS}
/-- something is thrown here, by a callee -/
def zHd (X : zX) (pc : Nat) (ls : zLs) (E : Nat) (σ : zS) : Prop := ∀ (L : List Nat) (rls : Array Slot) (H : Heap) (locs : List Loc) (rest : List Value) (q : Addr) (ce : Cell), zRel X L σ H locs → zlv L rls (xnL X) ls → zlo L.length ls → H[q]? = some ce → ce.vm = .none → (xs X).vm.findClass (zEx E) = some ce.cls → vx_W (xp X) (xl X) (xe X) (xR X) (xs X) (xm X) (xa X) (xb X) (xme X) (xc X) H locs (znc σ - xnc X) (zns σ - xns X) (xQ X) (F0 (xm X) pc rls rest) q
theorem zRel.free {L : List Nat} {H : Heap} {locs : List Loc} (F : zFix X) (h : zRel X L σ H locs) : ∀ q, va_A (zw (xft X) (xcA X) (xmo X) L σ) H.size q → xA X q := by
  intro q hq
  rcases hq with ⟨k, e, hk⟩ | hq
  · exact h.2.2.2.2.2.2.1.2 k (q, e) hk
  · exact F.2.2.2.2.2.2.1 q (Nat.le_trans h.2.2.2.2.2.2.2.1.1 hq)
/-- behind a call -/
theorem zs_back (F : zFix X) {L : List Nat} {rls : Array Slot} {H : Heap} {locs : List Loc} {rest st0 : List Value} {a : Array Value} {o : zO} {σ1 : zS} (h1 : zRel X L σ H locs) (h2 : zlv L rls (xnL X) ls) (h3 : zlo L.length ls) (h4 : zso L.length rest) (hm : znc σ ≤ znc σ1 ∧ zns σ ≤ zns σ1)
    (hr : vx_Run (xp X) (xl X) (xe X) (xR X) (xs X) (xm X) (xa X) (xb X) (xme X) (xc X) H locs (znc σ - xnc X) (zns σ - xns X) (znc σ1 - znc σ) (zns σ1 - zns σ) (F0 (xm X) pc rls st0) (rest.map (zt L)) (zQc (xY X) (va_A (zw (xft X) (xcA X) (xmo X) L σ) H.size) L o σ1 a) (zXc (xY X) (va_A (zw (xft X) (xcA X) (xmo X) L σ) H.size) L o σ1) (va_A (zw (xft X) (xcA X) (xmo X) L σ) H.size))
    (K1 : ∀ v, o = .inl v → zC X (pc + 3) ls (v.toList ++ rest) σ1) (K2 : ∀ E, o = .inr E → zHd X pc ls E σ1) : zWX X H locs (znc σ - xnc X) (zns σ - xns X) (F0 (xm X) pc rls st0) := by
  intro T hT XX
  have hfr := h1.free F
  have e1 : znc σ - xnc X + (znc σ1 - znc σ) = znc σ1 - xnc X := by have := h1.2.2.2.2.2.2.2.2.2.1; omega
  have e2 : zns σ - xns X + (zns σ1 - zns σ) = zns σ1 - xns X := by have := h1.2.2.2.2.2.2.2.2.2.2; omega
  have hRel : ∀ (Lf : List Nat) (t T' : State) (locs1 : List Loc), T'.heap = t.heap → zEnd (xY X) (va_A (zw (xft X) (xcA X) (xmo X) L σ) H.size) L Lf σ1 t → va_S (xA X) (xs X).heap T'.heap locs1 → zRel X Lf σ1 T'.heap locs1 := by
    intro Lf t T' locs1 ht ⟨z1, z2, z3, z4, z5, z6, z7⟩ hS
    exact ⟨h1.1.trans z1, z2, h1.2.2.1, z3, z4, by rw [ht]; exact z5, z6.weaken (fun _ q _ h => hfr q.1 h), hS, z7, by have := h1.2.2.2.2.2.2.2.2.2.1; omega, by have := h1.2.2.2.2.2.2.2.2.2.2; omega⟩
  rcases hr T hT XX with ⟨v, st₀, t, T', Ls, h0, X', hL, g1, g2, ⟨⟨Lf, v1, rfl, hv, hw, hE⟩, hF⟩, hst⟩ | ⟨q, st₀, t, T', Ls, E, ce, h0, X', hL, g1, g2, ⟨⟨Lf, kx, rfl, rfl, hE⟩, hF⟩, hce, hcv, hcl, hst⟩
  · obtain ⟨k1, k2, k3⟩ := vx_keep h0 g1 h1.2.2.2.2.2.2.2.1 (fun q _ h => hfr q h) hfr hL hF
    obtain ⟨M, hM⟩ := hE.1
    have hv : v = v1.map (zt Lf) := by injection hv
    subst hv
    have hsr : rest.map (zt L) = rest.map (zt Lf) := by rw [← hM, zt_apps h4]
    have kk := K1 v1 rfl Lf rls T'.heap (locs ++ Ls) (hRel Lf t T' _ g1 hE k3) (by rw [← hM]; exact h2.app h3) (by rw [← hM]; exact h3.mono (by simp)) (fun w hw2 => by
      rcases List.mem_append.mp hw2 with hw2 | hw2
      · cases v1 with
        | none => cases hw2
        | some z => exact (List.mem_singleton.mp hw2) ▸ hw z rfl
      · rw [← hM]; exact zvk_mono (h4 w hw2) (by simp))
    rw [e1, e2] at X'
    obtain ⟨t2, a1, b1⟩ := kk T' rfl X'
    refine ⟨t2, hst t2 ?_, b1⟩
    have e3 : (v1.map (zt Lf)).toList ++ rest.map (zt L) = (v1.toList ++ rest).map (zt Lf) := by
      rw [hsr, List.map_append]
      cases v1 <;> rfl
    show Steps _ _ _ (T'.setTop { method := xm X, pc := pc + 3, locals := rls, stack := (v1.map (zt Lf)).toList ++ rest.map (zt L), locked := none }) t2
    rw [e3]
    exact a1
  · obtain ⟨k1, k2, k3⟩ := vx_keep h0 g1 h1.2.2.2.2.2.2.2.1 (fun q _ h => hfr q h) hfr hL hF
    obtain ⟨M, hM⟩ := hE.1
    rw [e1, e2] at X'
    obtain ⟨t2, a1, b1⟩ := K2 kx rfl Lf rls T'.heap (locs ++ Ls) (rest.map (zt L)) q ce (hRel Lf t T' _ g1 hE k3) (by rw [← hM]; exact h2.app h3) (by rw [← hM]; exact h3.mono (by simp)) (by rw [g1]; exact hce) hcv hcl T' rfl X'
    exact ⟨t2, hst.trans a1, b1⟩
/-- a callee's start, seen from its caller -/
theorem zs_pre (F : zFix X) (V : zVx X) {L : List Nat} {H : Heap} {locs : List Loc} {vs : List Value} (h1 : zRel X L σ H locs) (hv : zso L.length vs) (U : State) (hU : U.heap = H) (hW : (xs X).WarmedH U.vm) : zPc (xY X) L σ H.size vs (vs.map (zt L)).toArray U := by
  obtain ⟨r1, r2, r3, r4, r5, r6, r7, r8, r9, r10, r11⟩ := id h1
  obtain ⟨V1, V2, V3⟩ := V
  have hm : (xY X).2.1 ≤ (xL0 X).length := V2
  refine ⟨rfl, by rw [hU], r2, V1, Nat.le_trans V2 r1.length_le, r4, r5, by rw [hU]; exact r6, r7.weaken (fun _ _ _ _ => trivial), r9, ?_, hv⟩
  have := V3.to (L' := L) (B := va_A (zw (xft X) (xcA X) (xmo X) L σ) H.size) (U := U) (H1 := H) hW r8.1 (fun q h h2 => r8.2.1 q h h2) (h1.free F) r1 hm (by omega)
  rw [← hU] at this ⊢
  exact this
/-- the words and the room of a call -/
theorem zs_cb (F : zFix X) {q0 q : zM} (O : zOn q0 X) {idx n mc ms : Nat} (hH : zmH q = []) (hcw : zcw q ∈ zTb) (hin : Cond.initialized (zmN q).cls ∈ zTb) (hl : Cond.methodLink (xown X) idx (zmN q) ∈ zTb) (hd : (zmN q).cls ≠ "java/lang/invoke/MethodHandle" ∧ (zmN q).cls ≠ "java/lang/invoke/VarHandle" ∧ (parseMethodDescriptor (zmN q).desc).map (fun d => d.parameters.length) = some n) (hR : zmF q + 1 ≤ zmF q0 ∧ 8 + (zmL q + 11) + zmW q ≤ zmW q0) : CallB (xR X) (xs X) (xa X) (xown X) idx (zmN q) (zmB q) (zmL q) (zmR q) (zws q) (zrm q mc ms) mc ms n := by
  obtain ⟨hx, hb, -, hown, hts, hK, hA, hcl, hro⟩ := id F
  obtain ⟨o1, o2, o3, o4, o5, o6, o7, o8, o9, o10, o11⟩ := O
  have hsub : ∀ w ∈ zTb, w.before (xa X) (xs X) = true := fun w hw => hts w (by rw [o4]; exact List.mem_cons_of_mem _ hw)
  have hG : GoodIn zTb (zws q) := fun w hw => by
    have hw2 : w ∈ zTb := by
      rcases List.mem_cons.mp hw with h | h
      · rw [h]; exact hcw
      · exact h
    exact ⟨hw2, good_of_word (List.mem_filter.mp hw2).2⟩
  have hz : zcw q = Cond.code (zmN q) (zmB q) (zmL q) (zmR q) := by unfold zcw; rw [if_pos hH]
  refine ⟨rfl, rfl, by rw [o9]; exact hR.1, by rw [o10]; exact hR.2, pay_in hsub hG, by rw [← hz]; exact List.mem_cons_self, by rw [← hz]; exact hsub _ hcw, hsub _ hin, ⟨hd.1, hd.2.1⟩, fun sig h => ?_, hsub _ hl⟩
  have h2 := hd.2.2
  rw [h] at h2
  exact (Option.some.inj h2).symm
end ZCALL
