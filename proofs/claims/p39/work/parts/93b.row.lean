/-! the map's rows: Siegelines.row -/
def zm_row : zM := (⟨"Siegelines", "row", "(I)Ljava/lang/String;"⟩, prog_1_method_30_code, 4, some (.object "java/lang/String"), [], [], 6, 151)
def zPk (Y : zY) (D : va_G) (cB : ClassId) (L : List Nat) (σ : zS) (sz : Nat) (vs : List Value) : Array Value → State → Prop := fun a U => zPc Y L σ sz vs a U ∧ va_K D zbC [(cB, .byte)] U
theorem zPk_blind (Y : zY) (D : va_G) (cB : ClassId) (L : List Nat) (σ : zS) (sz : Nat) (vs : List Value) : FrameBlind (zPk Y D cB L σ sz vs) := by
  intro a U g mk h
  exact ⟨zPc_blind Y L σ sz vs a U g mk h.1, va_K.moved (State.WarmedH.refl U).alike h.2⟩
set_option maxHeartbeats 4000000 in
theorem zmet_ofQ {l : Launch} {Y : zY} {q9 : zM} {vs : List Value} {σ : zS} {mc ms : Nat} {D9 : va_G} {cB9 : ClassId} {Qc : (Nat → Prop) → List Nat → Array Value → State → Outcome → State → Prop} (hl : l.stackTraces = false) (hlen : (zent vs).length ≤ zmL q9) (hpl : plainFor (zmN q9) = true) (hc : zCls Y.1.2.1 Y.1.2.2.1 zTb) (hH : zmH q9 = [])
    (K : ∀ X : zX, zFix X → zOn q9 X → xl X = l → xY X = Y → zVx X → xnc X = znc σ → xns X = zns σ → (xR X).cells = mc → (xR X).slots = ms → va_K D9 zbC [(cB9, .byte)] (xs X) → xQ X = vx_MQ (xb X) (Qc (xA X) (xL0 X)) (fun _ _ _ => False) (xa X) (xs X) (xR X).cells (xR X).slots (xA X) → zC X 0 (zfst vs (zmL q9)) [] σ) : ∀ (L : List Nat) (sz : Nat), vx_Met l (zmN q9) (zws q9) (zrm q9 mc ms) (zPk Y D9 cB9 L σ sz vs) (Qc (va_A (zw Y.1.2.2.1 Y.1.2.2.2 Y.2.1 L σ) sz) L) (fun _ _ _ => False) mc ms (va_A (zw Y.1.2.2.1 Y.1.2.2.2 Y.2.1 L σ) sz) := by
  intro L sz
  have body : ∀ (S : Spec) (hS : S = headSpec (zws q9) (zrm q9 mc ms)) (p : Program) (e : Env) (s : State) (m : MethodId) (args : Array Value) (below : List Frame) (meth : Method) (c : Code) (s₁ : State), BodyLoose p l (zmN q9) S (zmB q9) (zmL q9) (zmR q9) e s m args below meth c s₁ → c.maxLocals = zmL q9 → c.exceptionTable.toList = tableOf (zmH q9) → zPk Y D9 cB9 L σ sz vs args s →
      W p l e S.room s m args below meth c s.heap [] 0 0 (vx_MQ below (Qc (va_A (zw Y.1.2.2.1 Y.1.2.2.2 Y.2.1 L σ) sz) L) (fun _ _ _ => False) args s mc ms (va_A (zw Y.1.2.2.1 Y.1.2.2.2 Y.2.1 L σ) sz)) (entryFrame m args (zmL q9)) := by
    intro S hS p e s m args below meth c s₁ B hml hex hv
    subst hS
    obtain ⟨⟨rfl, hsz, h2, h3, h4, h5, h6, h7, h8, h9, h10, h11⟩, hK9⟩ := hv
    subst hsz
    have hts := atoms_spec (ws := zws q9) B.pre
    have hown : s.vm.findClass (zmN q9).cls = some m.cls := findClass_of_methodNamed B.named
    obtain ⟨A, hAe⟩ : ∃ A, A = va_A (zw Y.1.2.2.1 Y.1.2.2.2 Y.2.1 L σ) s.heap.size := ⟨_, rfl⟩
    have hA : ∀ q, s.heap.size ≤ q → A q := fun q hq => by rw [hAe]; exact Or.inr hq
    have hD : va_D A (zw Y.1.2.2.1 Y.1.2.2.2 Y.2.1 L σ) := by rw [hAe]; exact h8.self
    rw [← hAe] at h10 ⊢
    have k := K ((p, l, e, (headSpec (zws q9) (zrm q9 mc ms)).room, s, m, (vs.map (zt L)).toArray, below, meth, c, vx_MQ below (Qc A L) (fun _ _ _ => False) (vs.map (zt L)).toArray s mc ms A), Y.1, (Y.2.1, zmL q9, znc σ, zns σ, A, L, Y.2.2), (zmB q9, (zmN q9).cls, zws q9))
      ⟨B.exec, B.bytes, hml, hown, hts, h10.2.2.2.2.2.2.2.2, hA, hc.mono (fun w hw => List.mem_cons_of_mem _ hw), h10.1⟩
      ⟨rfl, rfl, rfl, rfl, B.notSynchronized, B.returns, (fun q => (name_of_methodNamed B.named B.method).1.trans q), hex, rfl, rfl, hl⟩ rfl rfl ⟨h3, h4, h10⟩ rfl rfl rfl rfl hK9 rfl
      L _ s.heap [] ⟨List.prefix_refl L, h2, h4, h5, h6, h7, hD, va_S.rf, h9, Nat.le_refl _, Nat.le_refl _⟩ (zfst_lv L hlen) (zfst_ok h11) (fun v hv => nomatch hv)
    rw [lg_entry_eq]
    have e1 : znc σ - xnc ((p, l, e, (headSpec (zws q9) (zrm q9 mc ms)).room, s, m, (vs.map (zt L)).toArray, below, meth, c, vx_MQ below (Qc A L) (fun _ _ _ => False) (vs.map (zt L)).toArray s mc ms A), Y.1, (Y.2.1, zmL q9, znc σ, zns σ, A, L, Y.2.2), (zmB q9, (zmN q9).cls, zws q9)) = 0 := Nat.sub_self _
    have e2 : zns σ - xns ((p, l, e, (headSpec (zws q9) (zrm q9 mc ms)).room, s, m, (vs.map (zt L)).toArray, below, meth, c, vx_MQ below (Qc A L) (fun _ _ _ => False) (vs.map (zt L)).toArray s mc ms A), Y.1, (Y.2.1, zmL q9, znc σ, zns σ, A, L, Y.2.2), (zmB q9, (zmN q9).cls, zws q9)) = 0 := Nat.sub_self _
    rw [e1, e2] at k
    exact k
  have hw : zws q9 = Cond.code (zmN q9) (zmB q9) (zmL q9) (zmR q9) :: zTb := by unfold zws zcw; rw [if_pos hH]
  refine zx_ofW (ws' := zTb) hpl hw fun p e s m args below meth c s₁ B hml hno hv => body _ rfl p e s m args below meth c s₁ B hml ?_ hv
  rw [hH]
  cases hq : c.exceptionTable.toList with
  | nil => rfl
  | cons a r => exact (hno a (by rw [hq]; exact List.mem_cons_self)).elim
theorem zX_zbK {X : zX} (F : zFix X) (V : zVx X) {q : zM} (O : zOn q X) {D : va_G} {cB : ClassId} (hK : va_K D zbC [(cB, .byte)] (xs X)) : ∃ kv : (Nat → Nat) × (Nat → Nat), zbX q kv D cB (xp X) (xs X) (xm X) (xa X) (xme X) (xc X) (xA X) := by
  obtain ⟨a0, a1, a2, ka, va, a3, a4⟩ := V.2.2.2.2.2.2.2.2.2.1.1
  refine ⟨(ka, va), F.1, ?_, ?_, ?_, zs_sub F O, hK, F.2.2.2.2.2.2.1, ⟨a1, a2, a4, a0⟩, O.2.2.2.2.2.1, O.2.2.2.2.1, O.2.2.2.2.2.2.1⟩
  · rw [← O.1]; exact F.2.1
  · rw [← O.2.1]; exact F.2.2.1
  · rw [← O.2.2.1]; exact F.2.2.2.1
section ZRW
variable {p : Program} {l : Launch} {e : Env} {R : Room} {s : State} {m : MethodId} {args : Array Value} {below : List Frame} {meth : Method} {c : Code} {H : Heap} {locs : List Loc} {cells slots : Nat} {Q : State → Prop}
variable {cc : ByteArray} {pc : Nat} {ls : Array Slot} {rest : List Value} {D : va_G} {cl : List vw_C} {A : Nat → Prop} {tys : List (ClassId × FieldType)} {ws : va_W} {H0 : Heap}
/-- va_new, and that what was there stays -/
theorem zb_new {c0 : Code} (hexec : p.tables.exec = Jvm.exec) (hb : c0.code = cc) {own C : String} {T : u_T} {N ci index : Nat} {Ts : List Cond} (hts : ∀ w ∈ Ts, w.before args s = true) (hin : ∀ w ∈ u_ws C T N, w ∈ Ts) (ty : Nat → FieldType) (hty : ∀ k, k < N → parseFieldDescriptor (T k).2.2.1 = some (ty k)) (hown : s.vm.findClass own = some m.cls) (hcl : (Cond.classLink own index C).before args s = true) (hinst : (Cond.instantiable C N).before args s = true) (hini : (Cond.initialized C).before args s = true)
    (hK : va_K D cl tys s) (hP : va_P D cl ws H) (hD : va_D A ws) (hS : va_S A H0 H locs) (hA : ∀ q, H0.size ≤ q → A q) (hc : cl[ci]? = some (C, T, N)) {fs : List Value} (hfs : ∀ j, j < N → defaultValue (ty j) = vp_V fs j) (hcells : cells + 1 ≤ R.cells) (hslots : slots + N ≤ R.slots) (hdg : decode cc pc = .ok (.new index, 3))
    (kk : ∀ (q : Nat) (H1 : Heap), H.size ≤ q → H.size ≤ H1.size → (∀ z : Nat, z < H.size → H1[z]? = H[z]?) → va_P D cl (ws ++ [(q, .inr (ci, fs))]) H1 → va_D A (ws ++ [(q, .inr (ci, fs))]) → va_S A H0 H1 locs →
      W p l e R s m args below meth c0 H1 locs (cells + 1) (slots + N) Q (F0 m (pc + 3) ls (.ref q :: rest))) : W p l e R s m args below meth c0 H locs cells slots Q (F0 m pc ls rest) := by
  have hKn := hK.1 ci _ hc
  refine W.newcK hexec hb hown hcl hinst hini rfl hdg hcells hslots hKn.2.1 rfl fun H1 kC hkC e1 z1 o1 => ?_
  have hk : ∀ (k : Nat) (x : Nat × va_E), ws[k]? = some x → H1[x.1]? = H[x.1]? := fun k x hx => o1 x.1 ((hP k x hx).lt)
  refine kk H.size H1 (Nat.le_refl _) (by omega) o1 ((hP.kept hk).app (fun k x hx => ?_)) (hD.push hP rfl (hA _ hS.1)) ⟨Nat.le_trans hS.1 (by omega), fun x h1 h2 => (o1 x (Nat.lt_of_lt_of_le h1 hS.1)).trans (hS.2.1 x h1 h2), hS.2.2⟩
  have hz : k < 1 := (List.getElem?_eq_some_iff.mp hx).1
  rw [show k = 0 by omega] at hx
  cases hx
  exact ⟨_, hc, (u_born ty hts hin hKn hkC e1 hty).to hfs⟩
end ZRW
section ZRV
variable {X : zX} {pc : Nat} {σ : zS} {L : List Nat} {H : Heap} {locs : List Loc} {rls : Array Slot} {rest : List Value} {c9 s9 : Nat}
/-- a field, whatever else is at hand -/
theorem zr_get (F : zFix X) {idx a k n j N : Nat} {C : String} {T : u_T} {v : Value} (h1 : zRel X L σ H locs) (hc : (xcl X)[k]? = some (C, T, N)) (hj : j < N) (hl : Cond.fieldLink (xown X) idx (T j).1 (T j).2.1 (T j).2.2.1 ∈ xTs X) (d : decode (xcc X) pc = .ok (.getfield idx, 3)) (hk : σ.1[a]? = some (k, n)) (hv : zt L (zfv ((xft X k).getD j .int) σ a j) = v) (K : zWX X H locs c9 s9 (F0 (xm X) (pc + 3) rls (v :: rest))) : zWX X H locs c9 s9 (F0 (xm X) pc rls (.ref (L.getD a 0) :: rest)) := by
  subst hv
  obtain ⟨hx, hb, -, hown, hts, hK, hA, hcl, hro⟩ := id F
  obtain ⟨q1, q2, q3, q4, q5, -⟩ := hcl k C T N hc
  have hp := h1.lt hk (by omega)
  have hz := zw_at (ft := xft X) (cA := xcA X) (L := L) hp.1 hp.2
  rw [ze_obj hk q1] at hz
  refine va_get hx hb hts q3 hown hK h1.2.2.2.2.2.1 (a - xmo X) hz hc j hj (hts _ hl) (fun x h => h) (v := zt L (zfv ((xft X k).getD j .int) σ a j)) ?_ d K
  rw [List.getElem?_map, List.getElem?_range (by rw [← q2]; exact hj)]
  rfl
/-- a sign, whatever else is at hand -/
theorem zr_sign (F : zFix X) (V : zVx X) (O : zOn zm_row X) (ecl : xcl X = zCl) {k x : Int32} (hM : zMet (xl X) (xY X) (fun _ => zm_sign) 0 [.ref 6, .int k] σ (.inl (some (.int x))) σ) (hb0 : σ.1[6]? = some (0, 2)) (h1 : zRel X L σ H locs) (hsz : rls.size = 4) (hlow : (rest.map fun v => v.category).sum ≤ 8) (hf : c9 ≤ (xR X).cells ∧ s9 ≤ (xR X).slots)
    (K : ∀ (H1 : Heap) (locs1 : List Loc), zRel X L σ H1 locs1 → H.size ≤ H1.size → (∀ z : Nat, z < H.size → ¬ va_A (zw (xft X) (xcA X) (xmo X) L σ) H.size z → H1[z]? = H[z]?) → zWX X H1 locs1 c9 s9 (F0 (xm X) 72 rls (.int x :: rest))) : zWX X H locs c9 s9 (F0 (xm X) 69 rls (.int k :: .ref (L.getD 6 0) :: rest)) := by
  obtain ⟨hx, hb, hml, hown, hts, hK, hA, hcls, hro⟩ := id F
  have hsub := zs_sub F O
  obtain ⟨b1, b2, b3, b4, b5⟩ := zs_cbA F O (q := zm_sign) (n := 1) (mc := znc σ - znc σ) (ms := zns σ - zns σ) ⟨zat_t (by decide +kernel), zat_t (by decide +kernel), ⟨by decide +kernel, by decide +kernel, by decide +kernel⟩, by decide, by decide⟩
  have hcl : (xcl X)[0]? = some ((zmN zm_sign).cls, F_Main, 2) := by rw [ecl]; rfl
  obtain ⟨q1, -⟩ := hcls 0 _ F_Main 2 hcl
  have hp9 := h1.lt hb0 (by omega)
  have hz := zw_at (ft := xft X) (cA := xcA X) (L := L) hp9.1 hp9.2
  rw [ze_obj hb0 q1] at hz
  have hvs : zso L.length [.int k] := fun v hv => by
    rcases List.mem_singleton.mp hv with rfl
    trivial
  have hvb : zso L.length [.ref 6, .int k] := hvs.cons (by rw [show L.length = σ.1.length from h1.2.1]; exact hp9.2)
  have hp : PreV (xs X) H (zmN zm_sign).cls (L.getD 6 0) (zPc (xY X) L σ H.size [.ref 6, .int k]) ([.int k].map (zt L)) := ⟨zPc_blind _ _ _ _ _, va_recv hK h1.2.2.2.2.2.1 hcl hz, fun U hU hW => zs_pre F V h1 hvb U hU hW⟩
  have ez := zcw_no (q := zm_sign) rfl
  rw [ez] at b1 b2
  have hr := vx_runV (g := F0 (xm X) 69 rls (.int k :: .ref (L.getD 6 0) :: rest)) (rest := rest) (cells := c9) (slots := s9) (locs := locs) (l := xl X) (p := xp X) (e := xe X) (below := xb X) (meth := xme X) ⟨hx, hb, hml, hown, hts⟩ (hM L H.size) ⟨⟨b1.1, b1.2.1, b1.2.2.1, b1.2.2.2.1, b1.2.2.2.2.1, b1.2.2.2.2.2, b2, b3, b4, b5, by rw [O.2.2.1]; exact hsub _ (zat_t (by decide +kernel))⟩, hsub _ (zat_t (by decide +kernel)), hsub _ (zat_t (by decide +kernel))⟩ hp rfl rfl (by rw [O.2.1]; exact hsz) rfl (lv_room hlow) (show decode (xcc X) 69 = .ok (.invokevirtual 375, 3) from by rw [O.1]; decide +kernel) (by rw [Nat.sub_self, Nat.sub_self]; exact hf)
  have hfr := h1.free F
  intro T hT XX
  rcases hr T hT XX with ⟨v, st₀, t, T', Ls, h0, X', hL, g1, g2, ⟨⟨Lf, v1, hv1, hv, hw, hE⟩, hF⟩, hst⟩ | ⟨q, st₀, t, T', Ls, E, ce, h0, X', hL, g1, g2, ⟨⟨Lf, kx, hkx, -⟩, -⟩, -⟩
  · obtain ⟨k1, k2, k3⟩ := vx_keep h0 g1 h1.2.2.2.2.2.2.2.1 (fun q _ h => hfr q h) hfr hL hF
    have hLf : L = Lf := hE.1.eq_of_length (h1.2.1.trans hE.2.1.symm)
    subst hLf
    cases hv1
    have hv : v = some (.int x) := by injection hv
    subst hv
    obtain ⟨z1, z2, z3, z4, z5, z6, z7⟩ := hE
    rw [Nat.sub_self, Nat.sub_self] at X'
    obtain ⟨t2, a1, b1⟩ := K T'.heap (locs ++ Ls) ⟨h1.1, h1.2.1, h1.2.2.1, z3, z4, by rw [g1]; exact z5, h1.2.2.2.2.2.2.1, k3, z7, h1.2.2.2.2.2.2.2.2.2.1, h1.2.2.2.2.2.2.2.2.2.2⟩ k1 k2 T' rfl X'
    exact ⟨t2, hst t2 a1, b1⟩
  · cases hkx
end ZRV
