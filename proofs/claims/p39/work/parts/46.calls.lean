/-! calls, by kind -/
section ZCALLS
variable {X : zX} {pc : Nat} {ls : zLs} {σ : zS}
/-- what every call asks of the tables and of the room, but its link -/
def zCd (q0 q : zM) (n : Nat) : Prop := zcw q ∈ zTb ∧ Cond.initialized (zmN q).cls ∈ zTb ∧ ((zmN q).cls ≠ "java/lang/invoke/MethodHandle" ∧ (zmN q).cls ≠ "java/lang/invoke/VarHandle" ∧ (parseMethodDescriptor (zmN q).desc).map (fun d => d.parameters.length) = some n) ∧ zmF q + 1 ≤ zmF q0 ∧ 8 + (zmL q + 11) + zmW q ≤ zmW q0
theorem zs_sub (F : zFix X) {q0 : zM} (O : zOn q0 X) : ∀ w ∈ zTb, w.before (xa X) (xs X) = true := fun w hw => F.2.2.2.2.1 w (by rw [O.2.2.2.1]; exact List.mem_cons_of_mem _ hw)
theorem zs_cbA (F : zFix X) {q0 q : zM} (O : zOn q0 X) {n mc ms : Nat} (hc : zCd q0 q n) : ((zrm q mc ms).cells = mc ∧ (zrm q mc ms).slots = ms ∧ (zrm q mc ms).frames + 1 ≤ (xR X).frames ∧ 8 + (zmL q + 11) + (zrm q mc ms).locals ≤ (xR X).locals ∧ (∀ w ∈ zws q, ∀ (a' : Array Value) (U : State), (xs X).WarmedH U.vm → w.before a' U = true) ∧ zcw q ∈ zws q) ∧ (zcw q).before (xa X) (xs X) = true ∧ (Cond.initialized (zmN q).cls).before (xa X) (xs X) = true ∧ ((zmN q).cls ≠ "java/lang/invoke/MethodHandle" ∧ (zmN q).cls ≠ "java/lang/invoke/VarHandle") ∧ ∀ sig, parseMethodDescriptor (zmN q).desc = some sig → n = sig.parameters.length := by
  obtain ⟨hcw, hin, hd, hR1, hR2⟩ := hc
  have hsub := zs_sub F O
  have hG : GoodIn zTb (zws q) := fun w hw => by
    have hw2 : w ∈ zTb := by
      rcases List.mem_cons.mp hw with h | h
      · rw [h]; exact hcw
      · exact h
    exact ⟨hw2, good_of_word (List.mem_filter.mp hw2).2⟩
  refine ⟨⟨rfl, rfl, by rw [O.2.2.2.2.2.2.2.2.1]; exact hR1, by rw [O.2.2.2.2.2.2.2.2.2.1]; exact hR2, pay_in hsub hG, List.mem_cons_self⟩, hsub _ hcw, hsub _ hin, ⟨hd.1, hd.2.1⟩, fun sig h => ?_⟩
  have h2 := hd.2.2
  rw [h] at h2
  exact (Option.some.inj h2).symm
theorem zs_stk {L : List Nat} {vs rest : List Value} : (vs.reverse ++ rest).map (zt L) = (vs.map (zt L)).reverse ++ rest.map (zt L) := by rw [List.map_append, List.map_reverse]
theorem zs_low {L : List Nat} {rest : List Value} (h : (rest.map fun v => v.category).sum ≤ 8) : ((rest.map (zt L)).map fun v => v.category).sum ≤ 8 := by
  rw [List.map_map]
  have : ((fun v : Value => v.category) ∘ zt L) = fun v => v.category := funext fun v => zt_cat L v
  rw [this]
  exact h
theorem zso.rev {n : Nat} {vs rest : List Value} (h : zso n (vs.reverse ++ rest)) : zso n vs ∧ zso n rest := ⟨fun v hv => h v (List.mem_append_left _ (List.mem_reverse.mpr hv)), fun v hv => h v (List.mem_append_right _ hv)⟩
theorem zcw_no {q : zM} (h : zmH q = []) : zcw q = Cond.code (zmN q) (zmB q) (zmL q) (zmR q) := by unfold zcw; rw [if_pos h]
theorem zcw_hs {q : zM} (h : ¬ zmH q = []) : zcw q = Cond.codeWith (zmN q) (zmB q) (zmL q) (zmR q) (zmH q) := by unfold zcw; rw [if_neg h]
/-- invokestatic -/
theorem zs_S (F : zFix X) (V : zVx X) {q0 : zM} (O : zOn q0 X) {P : Nat → zM} {y idx : Nat} {vs rest : List Value} {o : zO} {σ1 : zS} (hM : zMet (xl X) (xY X) P y vs σ o σ1) (hc : zCd q0 (P y) vs.length) (hst : Cond.static (zmN (P y)) ∈ zTb) (hl : Cond.methodLink (xown X) idx (zmN (P y)) ∈ zTb ∨ ∃ host, Cond.methodLinkNest (xown X) idx (zmN (P y)) host ∈ zWs ∧ zmH (P y) = []) (hlow : (rest.map fun v => v.category).sum ≤ 8) (d : decode (xcc X) pc = .ok (.invokestatic idx, 3)) (hm : znc σ ≤ znc σ1 ∧ zns σ ≤ zns σ1) (hr1 : znc σ1 - xnc X ≤ (xR X).cells) (hr2 : zns σ1 - xns X ≤ (xR X).slots)
    (K1 : ∀ v, o = .inl v → zC X (pc + 3) ls (v.toList ++ rest) σ1) (K2 : ∀ E, o = .inr E → zHd X pc ls E σ1) : zC X pc ls (vs.reverse ++ rest) σ := by
  intro L rls H locs h1 h2 h3 h4
  obtain ⟨hx, hb, hml, hown, hts, hK, hA, -, hro⟩ := id F
  have hv := h4.rev
  have hsub := zs_sub F O
  have c1 := h1.2.2.2.2.2.2.2.2.2.1
  have c2 := h1.2.2.2.2.2.2.2.2.2.2
  obtain ⟨b1, b2, b3, b4, b5⟩ := zs_cbA F O (mc := znc σ1 - znc σ) (ms := zns σ1 - zns σ) hc
  refine zs_back F h1 h2 h3 hv.2 hm ?_ K1 K2 (a := (vs.map (zt L)).toArray)
  have hp : PreS (xs X) H (zPc (xY X) L σ H.size vs) (vs.map (zt L)) := ⟨zPc_blind _ _ _ _ _, fun U hU hW => zs_pre F V h1 hv.1 U hU hW⟩
  have hf : znc σ - xnc X + (znc σ1 - znc σ) ≤ (xR X).cells ∧ zns σ - xns X + (zns σ1 - zns σ) ≤ (xR X).slots := ⟨by omega, by omega⟩
  rcases hl with hl | ⟨host, hl, hH⟩
  · by_cases hH : zmH (P y) = []
    · have ez := zcw_no hH
      rw [ez] at b1 b2
      exact vx_runS ⟨hx, hb, hml, hown, hts⟩ (hM L H.size) ⟨⟨b1.1, b1.2.1, b1.2.2.1, b1.2.2.2.1, b1.2.2.2.2.1, b1.2.2.2.2.2, b2, b3, b4, b5, hsub _ hl⟩, hsub _ hst⟩ hp rfl (List.length_map _) h2.1 zs_stk (lv_room (zs_low hlow)) d hf
    · have ez := zcw_hs hH
      rw [ez] at b1 b2
      exact vx_runSX ⟨hx, hb, hml, hown, hts⟩ (hM L H.size) ⟨b1, b2, b3, b4, b5, hsub _ hl, hsub _ hst⟩ hp rfl (List.length_map _) h2.1 zs_stk (lv_room (zs_low hlow)) d hf
  · have ez := zcw_no hH
    rw [ez] at b1 b2
    exact vx_runSN ⟨hx, hb, hml, hown, hts⟩ (hM L H.size) ⟨⟨b1, b2, b3, b4, b5, va_Nw.use rfl (V.2.2.2.2.2.2.2.2.1 _ hl)⟩, hsub _ hst, trivial⟩ hp rfl (List.length_map _) h2.1 zs_stk (lv_room (zs_low hlow)) d hf
/-- invokevirtual -/
theorem zs_V (F : zFix X) (V : zVx X) {q0 : zM} (O : zOn q0 X) {P : Nat → zM} {y idx b k n N : Nat} {T : u_T} {vs rest : List Value} {o : zO} {σ1 : zS} (hM : zMet (xl X) (xY X) P y (.ref b :: vs) σ o σ1) (hc : zCd q0 (P y) vs.length) (hH : zmH (P y) = []) (hb0 : σ.1[b]? = some (k, n)) (hcl : (xcl X)[k]? = some ((zmN (P y)).cls, T, N)) (hin : Cond.instanceMethod (zmN (P y)) ∈ zTb) (hse : Cond.selects (zmN (P y)).cls (zmN (P y)) (zmN (P y)) ∈ zTb) (hl : Cond.methodLink (xown X) idx (zmN (P y)) ∈ zTb) (hlow : (rest.map fun v => v.category).sum ≤ 8) (d : decode (xcc X) pc = .ok (.invokevirtual idx, 3)) (hm : znc σ ≤ znc σ1 ∧ zns σ ≤ zns σ1) (hr1 : znc σ1 - xnc X ≤ (xR X).cells) (hr2 : zns σ1 - xns X ≤ (xR X).slots)
    (K1 : ∀ v, o = .inl v → zC X (pc + 3) ls (v.toList ++ rest) σ1) (K2 : ∀ E, o = .inr E → zHd X pc ls E σ1) : zC X pc ls (vs.reverse ++ .ref b :: rest) σ := by
  intro L rls H locs h1 h2 h3 h4
  obtain ⟨hx, hb, hml, hown, hts, hK, hA, hcls, hro⟩ := id F
  have hv := h4.rev
  have hsub := zs_sub F O
  have c1 := h1.2.2.2.2.2.2.2.2.2.1
  have c2 := h1.2.2.2.2.2.2.2.2.2.2
  obtain ⟨b1, b2, b3, b4, b5⟩ := zs_cbA F O (mc := znc σ1 - znc σ) (ms := zns σ1 - zns σ) hc
  refine zs_back F h1 h2 h3 hv.2.tl hm ?_ K1 K2 (a := (((.ref b :: vs : List Value)).map (zt L)).toArray)
  obtain ⟨q1, -⟩ := hcls k _ T N hcl
  have hp9 := h1.lt hb0 (by omega)
  have hz := zw_at (ft := xft X) (cA := xcA X) (L := L) hp9.1 hp9.2
  rw [ze_obj hb0 q1] at hz
  have hp : PreV (xs X) H (zmN (P y)).cls (L.getD b 0) (zPc (xY X) L σ H.size (.ref b :: vs)) (vs.map (zt L)) := ⟨zPc_blind _ _ _ _ _, va_recv hK h1.2.2.2.2.2.1 hcl hz, fun U hU hW => zs_pre F V h1 (hv.1.cons hv.2.hd) U hU hW⟩
  have hf : znc σ - xnc X + (znc σ1 - znc σ) ≤ (xR X).cells ∧ zns σ - xns X + (zns σ1 - zns σ) ≤ (xR X).slots := ⟨by omega, by omega⟩
  have ez := zcw_no hH
  rw [ez] at b1 b2
  exact vx_runV ⟨hx, hb, hml, hown, hts⟩ (hM L H.size) ⟨⟨b1.1, b1.2.1, b1.2.2.1, b1.2.2.2.1, b1.2.2.2.2.1, b1.2.2.2.2.2, b2, b3, b4, b5, hsub _ hl⟩, hsub _ hin, hsub _ hse⟩ hp rfl (List.length_map _) h2.1 zs_stk (lv_room (zs_low hlow)) d hf
/-- a constructor -/
theorem zs_I (F : zFix X) (V : zVx X) {q0 : zM} (O : zOn q0 X) {P : Nat → zM} {y idx b : Nat} {vs rest : List Value} {o : zO} {σ1 : zS} (hM : zMet (xl X) (xY X) P y (.ref b :: vs) σ o σ1) (hc : zCd q0 (P y) vs.length) (hH : zmH (P y) = []) (hr : zmR (P y) = none) (hnm : (zmN (P y)).name = "<init>") (hin : Cond.instanceMethod (zmN (P y)) ∈ zTb) (hl : Cond.methodLink (xown X) idx (zmN (P y)) ∈ zTb ∨ ∃ host, Cond.methodLinkNest (xown X) idx (zmN (P y)) host ∈ zWs) (hlow : (rest.map fun v => v.category).sum ≤ 8) (d : decode (xcc X) pc = .ok (.invokespecial idx, 3)) (hm : znc σ ≤ znc σ1 ∧ zns σ ≤ zns σ1) (hr1 : znc σ1 - xnc X ≤ (xR X).cells) (hr2 : zns σ1 - xns X ≤ (xR X).slots)
    (K1 : ∀ v, o = .inl v → zC X (pc + 3) ls (v.toList ++ rest) σ1) (K2 : ∀ E, o = .inr E → zHd X pc ls E σ1) : zC X pc ls (vs.reverse ++ .ref b :: rest) σ := by
  intro L rls H locs h1 h2 h3 h4
  obtain ⟨hx, hb, hml, hown, hts, hK, hA, hcls, hro⟩ := id F
  have hv := h4.rev
  have hsub := zs_sub F O
  have c1 := h1.2.2.2.2.2.2.2.2.2.1
  have c2 := h1.2.2.2.2.2.2.2.2.2.2
  obtain ⟨b1, b2, b3, b4, b5⟩ := zs_cbA F O (mc := znc σ1 - znc σ) (ms := zns σ1 - zns σ) hc
  refine zs_back F h1 h2 h3 hv.2.tl hm ?_ K1 K2 (a := (((.ref b :: vs : List Value)).map (zt L)).toArray)
  have hp : PreS (xs X) H (zPc (xY X) L σ H.size (.ref b :: vs)) (.ref (L.getD b 0) :: vs.map (zt L)) := ⟨zPc_blind _ _ _ _ _, fun U hU hW => zs_pre F V h1 (hv.1.cons hv.2.hd) U hU hW⟩
  have hf : znc σ - xnc X + (znc σ1 - znc σ) ≤ (xR X).cells ∧ zns σ - xns X + (zns σ1 - zns σ) ≤ (xR X).slots := ⟨by omega, by omega⟩
  have ez := zcw_no hH
  rw [ez, hr] at b1 b2
  rcases hl with hl | ⟨host, hl⟩
  · exact vx_runI ⟨hx, hb, hml, hown, hts⟩ (hM L H.size) ⟨⟨b1.1, b1.2.1, b1.2.2.1, b1.2.2.2.1, b1.2.2.2.2.1, b1.2.2.2.2.2, b2, b3, b4, b5, hsub _ hl⟩, hnm, hsub _ hin⟩ hp rfl (List.length_map _) h2.1 zs_stk (lv_room (zs_low hlow)) d hf
  · exact vx_runIN ⟨hx, hb, hml, hown, hts⟩ (hM L H.size) ⟨⟨b1, b2, b3, b4, b5, va_Nw.use rfl (V.2.2.2.2.2.2.2.2.1 _ hl)⟩, hnm, hsub _ hin⟩ hp rfl (List.length_map _) h2.1 zs_stk (lv_room (zs_low hlow)) d hf
/-- Object's own constructor -/
theorem zs_O (F : zFix X) {q0 : zM} (O : zOn q0 X) {idx b : Nat} {rest : List Value} (hl : Cond.methodLink (xown X) idx Lib.objectInit ∈ zTb) (hin : Cond.instanceMethod Lib.objectInit ∈ zTb) (hcd : Cond.code Lib.objectInit ⟨#[0xb1]⟩ 1 none ∈ zTb) (hf : 1 ≤ zmF q0) (hw : 20 ≤ zmW q0) (hlow : (rest.map fun v => v.category).sum ≤ 8) (d : decode (xcc X) pc = .ok (.invokespecial idx, 3)) (K : zC X (pc + 3) ls rest σ) : zC X pc ls (.ref b :: rest) σ := by
  intro L rls H locs h1 h2 h3 h4
  obtain ⟨hx, hb, hml, hown, hts, hK, hA, hcls, hro⟩ := id F
  have hsub := zs_sub F O
  have hlw := lv_room (m := xm X) (pc := pc) (ls := rls) (rest := (.ref b :: rest).map (zt L)) (zs_low (L := L) hlow)
  refine W.objInit hx hb hown (hsub _ hl) (hsub _ hin) (hsub _ hcd) rfl (by rw [h2.1, hml]) (rest := rest.map (zt L)) rfl d (by rw [O.2.2.2.2.2.2.2.2.1]; exact hf) ?_ (K L rls H locs h1 h2 h3 h4.tl)
  rw [O.2.2.2.2.2.2.2.2.2.1]
  omega
end ZCALLS
