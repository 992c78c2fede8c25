/-! new cells, statics, ends -/
section ZNEW
variable {X : zX} {pc : Nat} {ls : zLs} {st : List Value} {σ : zS}
theorem zRel.push {L : List Nat} {H H1 : Heap} {locs locs1 : List Loc} {k n a : Nat} {e : va_E} (h : zRel X L σ H locs) (hk : k ≠ 200) (he : ze (xft X) (xcA X) (L ++ [a]) (znw σ k n) σ.1.length = e) (hP : va_P (xD X) (xcl X) (zw (xft X) (xcA X) (xmo X) L σ ++ [(a, e)]) H1) (hD : va_D (xA X) (zw (xft X) (xcA X) (xmo X) L σ ++ [(a, e)])) (hS : va_S (xA X) (xs X).heap H1 locs1) : zRel X (L ++ [a]) (znw σ k n) H1 locs1 := by
  obtain ⟨r1, r2, r3, r4, r5, -, -, -, r9, r10, r11⟩ := h
  have hl : (znw σ k n).1.length = σ.1.length + 1 := by show (σ.1 ++ [(k, n)]).length = _; rw [List.length_append]; rfl
  have hw := zw_push (ft := xft X) (cA := xcA X) (σ' := znw σ k n) (kn := (k, n)) r5.1 r4 r2 rfl (fun q hq => ⟨zupR_ne (by omega), zupR_ne (by omega), zupR_ne (by omega)⟩) he
  rw [hw] at hP hD
  refine ⟨r1.trans (List.prefix_append _ _), by rw [List.length_append, hl, r2]; rfl, r3, r4.new, ⟨by rw [hl]; have := r5.1; omega, fun p k9 n9 hp => ?_⟩, hP, hD, hS, fun p hp => ?_, by show _ ≤ σ.2.2.2.2.1 + 1; exact Nat.le_succ_of_le r10, by show _ ≤ σ.2.2.2.2.2 + n; exact Nat.le_add_right_of_le r11⟩
  · have hp : (σ.1 ++ [(k, n)])[p]? = some (k9, n9) := hp
    by_cases hpl : p < σ.1.length
    · rw [List.getElem?_append_left hpl] at hp
      exact r5.2 p k9 n9 hp
    · have hpl2 : p < (σ.1 ++ [(k, n)]).length := (List.getElem?_eq_some_iff.mp hp).1
      rw [List.length_append] at hpl2
      have hpe : p = σ.1.length := by simp at hpl2; omega
      rw [List.getElem?_append_right (by omega), hpe, Nat.sub_self] at hp
      cases hp
      exact ⟨fun q => absurd q hk, fun q => absurd r5.1 (by omega)⟩
  · obtain ⟨q1, q2⟩ := r9 p hp
    have hpl : p < σ.1.length := Nat.lt_of_lt_of_le hp r5.1
    refine ⟨(zupR_ne (by omega)).trans q1, ?_⟩
    show (σ.1 ++ [(k, n)])[p]? = _
    rw [List.getElem?_append_left hpl]
    exact q2
theorem zgo_new {L : List Nat} {rls : Array Slot} {H1 : Heap} {locs1 : List Loc} {pc2 k n a : Nat} (h : xnc X ≤ znc σ ∧ xns X ≤ zns σ) (hR : zRel X (L ++ [a]) (znw σ k n) H1 locs1) (hL : L.length = σ.1.length) (h2 : zlv L rls (xnL X) ls) (h3 : zlo L.length ls) (h4 : zso L.length st) (K : zC X pc2 ls (.ref σ.1.length :: st) (znw σ k n)) : zWX X H1 locs1 (znc σ - xnc X + 1) (zns σ - xns X + n) (F0 (xm X) pc2 rls (.ref a :: st.map (zt L))) := by
  have k1 := K (L ++ [a]) rls H1 locs1 hR (h2.app h3) (h3.mono (by simp)) ((h4.mono (by simp)).cons (show σ.1.length < _ by rw [List.length_append, hL]; simp))
  rw [List.map_cons, zt_apps h4] at k1
  have e1 : zt (L ++ [a]) (.ref σ.1.length) = .ref a := by
    show Value.ref ((L ++ [a]).getD σ.1.length 0) = _
    rw [← hL, List.getD_eq_getElem?_getD, List.getElem?_append_right (Nat.le_refl _), Nat.sub_self]
    rfl
  rw [e1] at k1
  have e2 : znc (znw σ k n) - xnc X = znc σ - xnc X + 1 := by show znc σ + 1 - _ = _; omega
  have e3 : zns (znw σ k n) - xns X = zns σ - xns X + n := by show zns σ + n - _ = _; omega
  rw [e2, e3] at k1
  exact k1
theorem zs_newi (F : zFix X) {n : Int32} (hn : ¬ n < 0) (hm : n.toNatClampNeg ≤ 100000) (ha : Cond.arrayClass .int ∈ xTs X) (d : decode (xcc X) pc = .ok (.newarray .int, 2)) (hr1 : znc σ + 1 - xnc X ≤ (xR X).cells) (hr2 : zns σ + n.toNatClampNeg - xns X ≤ (xR X).slots) (K : zC X (pc + 2) ls (.ref σ.1.length :: st) (znw σ 100 n.toNatClampNeg)) : zC X pc ls (.int n :: st) σ := by
  intro L rls H locs h1 h2 h3 h4
  obtain ⟨hx, hb, -, hown, hts, hK, hA, hcl, hro⟩ := id F
  have c1 := h1.2.2.2.2.2.2.2.2.2.1
  have c2 := h1.2.2.2.2.2.2.2.2.2.2
  refine va_newa (atype := .int) hx hb (hts _ ha) rfl hK h1.2.2.2.2.2.1 h1.2.2.2.2.2.2.1 h1.2.2.2.2.2.2.2.1 hA (a0 := (n.toNatClampNeg, .inl (fun _ => 0))) (fun cA => rfl) hn rfl (by show _ * 4 ≤ _; omega) (by omega) (by omega) d fun q cA' H1 gK gP gD gS => ?_
  have hcA : cA' = xcA X 0 := by
    have e1 : (xs X).vm.findClass ("[" ++ FieldType.int.toString) = some cA' := (gK.2 4 (cA', .int) rfl).2
    have e2 : (xs X).vm.findClass ("[" ++ FieldType.int.toString) = some (xcA X 0) := (hK.2 0 (xcA X 0, .int) rfl).2
    exact Option.some.inj (e1.symm.trans e2)
  subst hcA
  refine zgo_new ⟨c1, c2⟩ (h1.push (k := 100) (by decide) ?_ gP gD gS) h1.2.1 h2 h3 h4.tl K
  have hk : (znw σ 100 n.toNatClampNeg).1[σ.1.length]? = some (100, n.toNatClampNeg) := by
    show (σ.1 ++ [(100, n.toNatClampNeg)])[σ.1.length]? = _
    rw [List.getElem?_append_right (Nat.le_refl _), Nat.sub_self]; rfl
  rw [ze_int hk (by omega) (by omega)]
  refine congrArg (fun z => Sum.inl (xcA X 0, n.toNatClampNeg, Sum.inl z)) (funext fun j => ?_)
  show zupR σ.2.1 σ.1.length (fun _ => 0) σ.1.length j = 0
  rw [zupR_at]
theorem zs_newq (F : zFix X) {k idx : Nat} {n : Int32} (hn : ¬ n < 0) (hm : n.toNatClampNeg ≤ 100000) (hkk : k = 103 ∨ k = 104 ∨ k = 105) (ha : va_AO (zAC k) (xs X)) (hcl1 : Cond.classLink (xown X) idx (zAC k) ∈ xTs X) (d : decode (xcc X) pc = .ok (.anewarray idx, 3)) (hr1 : znc σ + 1 - xnc X ≤ (xR X).cells) (hr2 : zns σ + n.toNatClampNeg - xns X ≤ (xR X).slots) (K : zC X (pc + 3) ls (.ref σ.1.length :: st) (znw σ k n.toNatClampNeg)) : zC X pc ls (.int n :: st) σ := by
  intro L rls H locs h1 h2 h3 h4
  obtain ⟨hx, hb, -, hown, hts, hK, hA, hcl, hro⟩ := id F
  have c1 := h1.2.2.2.2.2.2.2.2.2.1
  have c2 := h1.2.2.2.2.2.2.2.2.2.2
  refine va_newq hx hb hown (hts _ hcl1) ha hK h1.2.2.2.2.2.1 h1.2.2.2.2.2.2.1 h1.2.2.2.2.2.2.2.1 hA hn rfl (by omega) (by omega) (by omega) d fun q cA' H1 gK gP gD gS => ?_
  have hcA : cA' = xcA X (k - 100) := by
    obtain ⟨kA, comp, -, -, -, e1⟩ := (gK.2 4 (cA', .object (zAC k)) rfl).2
    have e2 : (xs X).vm.findClass ("[" ++ (FieldType.object (zAC k)).toString) = some (xcA X (k - 100)) := by
      rcases hkk with rfl | rfl | rfl
      · obtain ⟨_, _, -, -, -, e⟩ := (hK.2 1 (xcA X 3, .object (zAC 103)) rfl).2
        exact e
      · obtain ⟨_, _, -, -, -, e⟩ := (hK.2 2 (xcA X 4, .object (zAC 104)) rfl).2
        exact e
      · obtain ⟨_, _, -, -, -, e⟩ := (hK.2 3 (xcA X 5, .object (zAC 105)) rfl).2
        exact e
    exact Option.some.inj (e1.symm.trans e2)
  subst hcA
  refine zgo_new ⟨c1, c2⟩ (h1.push (k := k) (by omega) ?_ gP gD gS) h1.2.1 h2 h3 h4.tl K
  have hk : (znw σ k n.toNatClampNeg).1[σ.1.length]? = some (k, n.toNatClampNeg) := by
    show (σ.1 ++ [(k, n.toNatClampNeg)])[σ.1.length]? = _
    rw [List.getElem?_append_right (Nat.le_refl _), Nat.sub_self]; rfl
  rw [ze_ref hk (by omega)]
  refine congrArg (fun z => Sum.inl (xcA X (k - 100), n.toNatClampNeg, Sum.inr (Sum.inr (Sum.inr (Sum.inr z))))) (funext fun j => ?_)
  show (zupR σ.2.2.1 σ.1.length (fun _ => none) σ.1.length j).map _ = none
  rw [zupR_at]
  rfl
theorem zs_new (F : zFix X) {k idx N : Nat} {C : String} {T : u_T} (hc : (xcl X)[k]? = some (C, T, N)) (hcl1 : Cond.classLink (xown X) idx C ∈ xTs X) (d : decode (xcc X) pc = .ok (.new idx, 3)) (hr1 : znc σ + 1 - xnc X ≤ (xR X).cells) (hr2 : zns σ + (xft X k).length - xns X ≤ (xR X).slots) (K : zC X (pc + 3) ls (.ref σ.1.length :: st) (znw σ k (xft X k).length)) : zC X pc ls st σ := by
  intro L rls H locs h1 h2 h3 h4
  obtain ⟨hx, hb, -, hown, hts, hK, hA, hcl, hro⟩ := id F
  obtain ⟨q1, q2, q3, q4, q5, q6, q7⟩ := hcl k C T N hc
  have c1 := h1.2.2.2.2.2.2.2.2.2.1
  have c2 := h1.2.2.2.2.2.2.2.2.2.2
  refine va_new hx hb hts q3 (fun j => (xft X k).getD j .int) (fun j hj => (q4 j hj).1) hown (hts _ hcl1) (hts _ q6) (hts _ q7) hK h1.2.2.2.2.2.1 h1.2.2.2.2.2.2.1 h1.2.2.2.2.2.2.2.1 hA hc (fs := (List.range N).map (fun j => defaultValue ((xft X k).getD j .int))) (fun j hj => ?_) (by omega) (by omega) d fun q H1 gP gD gS => ?_
  · unfold vp_V
    rw [List.getD_eq_getElem?_getD (l := List.map (fun j => defaultValue ((xft X k).getD j .int)) (List.range N)), List.getElem?_map, List.getElem?_range hj]
    rfl
  · rw [q2]
    refine zgo_new ⟨c1, c2⟩ (h1.push (k := k) (by omega) ?_ gP gD gS) h1.2.1 h2 h3 h4 K
    have hk : (znw σ k (xft X k).length).1[σ.1.length]? = some (k, (xft X k).length) := by
      show (σ.1 ++ [(k, (xft X k).length)])[σ.1.length]? = _
      rw [List.getElem?_append_right (Nat.le_refl _), Nat.sub_self]; rfl
    rw [ze_obj hk q1, q2]
    refine congrArg (fun z => Sum.inr (k, z)) (List.map_congr_left fun j hj => ?_)
    have hj2 := (q4 j (by rw [q2]; exact List.mem_range.mp hj)).2
    generalize (xft X k).getD j .int = t at hj2
    have z1 : (znw σ k (xft X k).length).2.1 σ.1.length j = 0 := by show zupR σ.2.1 σ.1.length (fun _ => 0) σ.1.length j = 0; rw [zupR_at]
    have z2 : (znw σ k (xft X k).length).2.2.1 σ.1.length j = none := by show zupR σ.2.2.1 σ.1.length (fun _ => none) σ.1.length j = none; rw [zupR_at]
    have z3 : (znw σ k (xft X k).length).2.2.2.1 σ.1.length j = 0 := by show zupR σ.2.2.2.1 σ.1.length (fun _ => 0) σ.1.length j = 0; rw [zupR_at]
    cases t <;> first | (cases hj2; done) | (simp only [zfv, z1, z2, z3]; rfl)
/-- the statics: which field is at which place -/
def zSN (k : Nat) : String := if k = 0 then "BY_NUMBERS" else if k = 1 then "SQUARE_FACTS" else if k = 2 then "GUN_FACTS" else if k = 3 then "COMPANY_FACTS" else "MINE_FACTS"
def zSt (X : zX) : Prop := ∀ k, k < 5 → va_Z "Siegelines" (zSN k) "[I" (.ref ((xL0 X).getD k 0)) (xA X) (xs X) (xs X).heap
theorem zs_gets (F : zFix X) (hS : zSt X) {k idx : Nat} (hk : k < 5) (hmo : 5 < xmo X) (hl : Cond.fieldLink (xown X) idx "Siegelines" (zSN k) "[I" ∈ xTs X ∨ Cond.fieldLinkNest (xown X) idx "Siegelines" (zSN k) "[I" "Siegelines" ∈ xTs X) (d : decode (xcc X) pc = .ok (.getstatic idx, 3)) (K : zC X (pc + 3) ls (.ref k :: st) σ) : zC X pc ls st σ := by
  intro L rls H locs h1 h2 h3 h4
  obtain ⟨hx, hb, -, hown, hts, hK, hA, hcl, hro⟩ := id F
  have hz := hS k hk
  have hm := h1.2.2.1
  have e : (xL0 X).getD k 0 = L.getD k 0 := (zget_pre h1.1 (by omega)).symm
  rw [e] at hz
  have k1 := K L rls H locs h1 h2 h3 (h4.cons (show k < L.length by have := h1.1.length_le; omega))
  rcases hl with hl | hl
  · exact va_gets hx hb hz h1.2.2.2.2.2.2.2.1 hown (hts _ hl) (fun x h => h) d k1
  · exact va_getsN hx hb hz h1.2.2.2.2.2.2.2.1 hown (hts _ hl) (fun x h => h) d k1
/-- the world behind a method -/
abbrev zY : Type := (va_G × List vw_C × (Nat → List FieldType) × (Nat → ClassId)) × (Nat × ((Nat → Nat → Int32) × (Nat → Nat)))
abbrev xY (X : zX) : zY := (X.2.1, (xmo X, xRO X))
def zEnd (Y : zY) (A : Nat → Prop) (L0 Lf : List Nat) (σ' : zS) (t : State) : Prop := L0 <+: Lf ∧ Lf.length = σ'.1.length ∧ zVH σ' ∧ zKi Y.2.1 σ'.1 ∧ va_P Y.1.1 Y.1.2.1 (zw Y.1.2.2.1 Y.1.2.2.2 Y.2.1 Lf σ') t.heap ∧ va_D A (zw Y.1.2.2.1 Y.1.2.2.2 Y.2.1 Lf σ') ∧ (∀ p, p < Y.2.1 → σ'.2.1 p = Y.2.2.1 p ∧ σ'.1[p]? = some (200, Y.2.2.2 p))
def zQc (Y : zY) (A : Nat → Prop) (L0 : List Nat) (o : zO) (σ' : zS) : Array Value → State → Outcome → State → Prop := fun _ st oc t => (∃ (Lf : List Nat) (v : Option Value), o = .inl v ∧ oc = .returned (v.map (zt Lf)) ∧ (∀ w, v = some w → zvk Lf.length w) ∧ zEnd Y A L0 Lf σ' t) ∧ va_F A st t
/-- the classes of what is thrown, by numbers -/
def zEx (k : Nat) : String := if k = 86 then "java/lang/IllegalStateException" else if k = 43 then "java/lang/IndexOutOfBoundsException" else "java/lang/IllegalArgumentException"
def zXc (Y : zY) (A : Nat → Prop) (L0 : List Nat) (o : zO) (σ' : zS) : String → State → State → Prop := fun E st t => (∃ (Lf : List Nat) (k : Nat), o = .inr k ∧ E = zEx k ∧ zEnd Y A L0 Lf σ' t) ∧ va_F A st t
theorem zRel.end_ {L : List Nat} {H : Heap} {locs : List Loc} {t : State} (h : zRel X L σ H locs) (ht : t.heap = H) : zEnd (xY X) (xA X) (xL0 X) L σ t ∧ va_F (xA X) (xs X) t := by
  obtain ⟨r1, r2, r3, r4, r5, r6, r7, r8, r9, r10, r11⟩ := h
  exact ⟨⟨r1, r2, r4, r5, by rw [ht]; exact r6, r7, r9⟩, r8.F ht⟩
def zQ (X : zX) (o : zO) (σ' : zS) : State → Prop := vx_MQ (xb X) (zQc (xY X) (xA X) (xL0 X) o σ') (zXc (xY X) (xA X) (xL0 X) o σ') (xa X) (xs X) (xR X).cells (xR X).slots (xA X)
theorem zs_iret (F : zFix X) {x : Int32} {ty : FieldType} (hQ : xQ X = zQ X (.inl (some (.int x))) σ) (hlk : (xme X).locks = false) (hr : (xme X).sig.returnType = some ty) (hn : narrow ty (.int x) = .int x) (d : decode (xcc X) pc = .ok (.ireturn, 1)) (hr1 : znc σ - xnc X ≤ (xR X).cells) (hr2 : zns σ - xns X ≤ (xR X).slots) : zC X pc ls [.int x] σ := by
  intro L rls H locs h1 h2 h3 h4
  obtain ⟨hx, hb, -, hown, hts, hK, hA, hcl, hro⟩ := id F
  unfold zWX
  rw [hQ]
  refine vx_ret ?_
  refine W.widen hr1 hr2 ?_
  exact W.zret hx hb hr hn (fun t ht _ => ⟨⟨L, some (.int x), rfl, rfl, fun w hw => by cases hw; trivial, (h1.end_ ht).1⟩, (h1.end_ ht).2⟩) h1.2.2.2.2.2.2.2.1.2.2 d hlk
theorem zs_lret (F : zFix X) {x : Int64} (hQ : xQ X = zQ X (.inl (some (.long x))) σ) (hlk : (xme X).locks = false) (hr : (xme X).sig.returnType = some .long) (d : decode (xcc X) pc = .ok (.lreturn, 1)) (hr1 : znc σ - xnc X ≤ (xR X).cells) (hr2 : zns σ - xns X ≤ (xR X).slots) : zC X pc ls [.long x] σ := by
  intro L rls H locs h1 h2 h3 h4
  obtain ⟨hx, hb, -, hown, hts, hK, hA, hcl, hro⟩ := id F
  unfold zWX
  rw [hQ]
  refine vx_ret ?_
  refine W.widen hr1 hr2 ?_
  exact W.lret hx hb hr (fun t ht _ => ⟨⟨L, some (.long x), rfl, rfl, fun w hw => by cases hw; trivial, (h1.end_ ht).1⟩, (h1.end_ ht).2⟩) h1.2.2.2.2.2.2.2.1.2.2 d hlk
theorem zs_aret (F : zFix X) {v : Value} {C : String} (hv : v = .null ∨ ∃ a, v = .ref a) (hQ : xQ X = zQ X (.inl (some v)) σ) (hlk : (xme X).locks = false) (hr : (xme X).sig.returnType = some (.object C)) (d : decode (xcc X) pc = .ok (.areturn, 1)) (hr1 : znc σ - xnc X ≤ (xR X).cells) (hr2 : zns σ - xns X ≤ (xR X).slots) : zC X pc ls [v] σ := by
  intro L rls H locs h1 h2 h3 h4
  obtain ⟨hx, hb, -, hown, hts, hK, hA, hcl, hro⟩ := id F
  unfold zWX
  rw [hQ]
  refine vx_ret ?_
  refine W.widen hr1 hr2 ?_
  refine W.aret (v := zt L v) hx hb hr (Or.inl ⟨C, rfl⟩) ?_ (fun t ht _ => ⟨⟨L, some v, rfl, rfl, fun w hw => by cases hw; exact h4.hd, (h1.end_ ht).1⟩, (h1.end_ ht).2⟩) h1.2.2.2.2.2.2.2.1.2.2 d hlk
  rcases hv with rfl | ⟨a, rfl⟩
  · exact Or.inl rfl
  · exact Or.inr ⟨_, rfl⟩
theorem zs_vret (F : zFix X) (hQ : xQ X = zQ X (.inl none) σ) (hlk : (xme X).locks = false) (hr : (xme X).sig.returnType = none) (d : decode (xcc X) pc = .ok (.return_, 1)) (hr1 : znc σ - xnc X ≤ (xR X).cells) (hr2 : zns σ - xns X ≤ (xR X).slots) : zC X pc ls [] σ := by
  intro L rls H locs h1 h2 h3 h4
  obtain ⟨hx, hb, -, hown, hts, hK, hA, hcl, hro⟩ := id F
  unfold zWX
  rw [hQ]
  refine vx_ret ?_
  refine W.widen hr1 hr2 ?_
  exact W.vret hx hb hr (fun t ht _ => ⟨⟨L, none, rfl, rfl, (fun w hw => by cases hw), (h1.end_ ht).1⟩, (h1.end_ ht).2⟩) h1.2.2.2.2.2.2.2.1.2.2 d hlk
end ZNEW
