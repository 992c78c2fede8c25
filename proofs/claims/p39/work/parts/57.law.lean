/-! the law's entry: one run of the interpreter is enough -/
def zs0 (L : Nat) (xs : Nat → Int32) : zS := ([(200, 4), (200, 4), (200, 6), (200, 6), (200, 6), (200, L)], (zRO L xs).1, fun _ _ => none, fun _ _ => 0, 0, 0)
theorem zKn_ok {args : Array Value} {s : State} (hts : ∀ w ∈ zTb, w.before args s = true) (hcl : zCls zCl zFt zTb) : ∃ (dC : Nat → ClassId) (dI : Nat → Nat → Nat), ∀ (k : Nat) (q : vw_C), zCl[k]? = some q → u_Kn s q.1 q.2.1 q.2.2 (dC k) (dI k) := by
  have h : ∀ k : Nat, ∃ r : ClassId × (Nat → Nat), ∀ q : vw_C, zCl[k]? = some q → u_Kn s q.1 q.2.1 q.2.2 r.1 r.2 := by
    intro k
    cases hk : zCl[k]? with
    | none => exact ⟨(0, fun _ => 0), fun q hq => by cases hq⟩
    | some q0 =>
      obtain ⟨C, T, N⟩ := q0
      obtain ⟨a1, a2, a3, a4, a5, a6, a7⟩ := hcl k C T N hk
      obtain ⟨cC, iS, hK⟩ := u_known (C := C) (T := T) (N := N) hts a3 (hts _ a6)
      exact ⟨(cC, iS), fun q hq => by cases hq; exact hK⟩
  exact ⟨fun k => (Classical.choose (h k)).1, fun k => (Classical.choose (h k)).2, fun k q hq => Classical.choose_spec (h k) q hq⟩
theorem zAr_ok {args : Array Value} {s : State} (hts : ∀ w ∈ lw_tbl, w.before args s = true) (ha : Cond.arrayClass .int ∈ lw_tbl) (hao : ∀ k, k = 103 ∨ k = 104 ∨ k = 105 → va_AO (zAC k) s) : ∃ cA : Nat → ClassId, ∀ (k : Nat) (q : ClassId × FieldType), (zTys cA)[k]? = some q → ArrOfT s q.1 q.2 ∧ va_RA s q.1 q.2 := by
  obtain ⟨c0, k0, comp0, a1, a2, a3⟩ := Cond.arrayClass_spec (hts _ ha)
  obtain ⟨p3, c3, k3, b1, -, b2, b3, b4⟩ := Cond.arrayOver_spec (va_AO.use (A := #[]) (hao 103 (Or.inl rfl)))
  obtain ⟨p4, c4, k4, d1, -, d2, d3, d4⟩ := Cond.arrayOver_spec (va_AO.use (A := #[]) (hao 104 (Or.inr (Or.inl rfl))))
  obtain ⟨p5, c5, k5, e1, -, e2, e3, e4⟩ := Cond.arrayOver_spec (va_AO.use (A := #[]) (hao 105 (Or.inr (Or.inr rfl))))
  refine ⟨fun k => if k = 0 then c0 else if k = 3 then c3 else if k = 4 then c4 else c5, fun k q hq => ?_⟩
  match k, hq with
  | 0, hq => cases hq; exact ⟨fun n z => ⟨fun k h => (by cases h), k0, a2, comp0, a3⟩, a1⟩
  | 1, hq => cases hq; exact ⟨fun n z => ⟨fun k h => (by cases h), k3, b2, p3, b3⟩, k3, p3, b2, b3, b1, b4⟩
  | 2, hq => cases hq; exact ⟨fun n z => ⟨fun k h => (by cases h), k4, d2, p4, d3⟩, k4, p4, d2, d3, d1, d4⟩
  | 3, hq => cases hq; exact ⟨fun n z => ⟨fun k h => (by cases h), k5, e2, p5, e3⟩, k5, p5, e2, e3, e1, e4⟩
  | n + 4, hq => cases hq
theorem zQ_end {below : List Frame} {a : Array Value} {s t : State} {Y : zY} {A : Nat → Prop} {L0 : List Nat} {σ' : zS} {mc ms : Nat} (hA : ∀ q, A q → s.heap.size ≤ q) (hc : mc ≤ room_1.cells) (hs : ms ≤ room_1.slots) (h : vx_MQ below (zQc Y A L0 (.inl (some (.int 1))) σ') (zXc Y A L0 (.inl (some (.int 1))) σ') a s mc ms A t) : ∃ o, t.status = .running ∧ Ended t below o ∧ o = .returned (some (.int 1)) ∧ Framed s o t [] room_1.cells room_1.slots := by
  obtain ⟨o, h1, h2, h3⟩ := h
  rcases h3 with ⟨⟨⟨Lf, v, hv, ho, -⟩, -⟩, Ls, ⟨⟨w, hw⟩, hW, hsm⟩, hf⟩ | ⟨q, -, E, ce, Ls, ⟨⟨Lf, k, hk, -⟩, -⟩, -⟩
  · cases hv
    refine ⟨o, h1, h2, ho, ⟨w, hw⟩, hW, hsm.weaken (fun y hy hlt => absurd hlt (Nat.not_lt.mpr (hA _ (hf y hy)))) hc hs⟩
  · cases hk
set_option maxRecDepth 100000 in
set_option maxHeartbeats 4000000 in
theorem zlaw {p : Program} {e : Env} {s : State} {m : MethodId} {below : List Frame} {meth : Method} {c : Code} (l : Launch) (hl : l.stackTraces = false) {b L : Nat} {xs : Nat → Int32} (hx : p.tables.exec = Jvm.exec) (hb : c.code = code) (hr : meth.sig.returnType = ret) (hml : c.maxLocals = 14) (hown : s.vm.findClass "SiegelinesLaw" = some m.cls) (hts : ∀ w ∈ lw_tbl, w.before #[Value.ref b] s = true) (hX : va_X b L xs s s.heap) (hbl : b < s.heap.size) (hlocks : meth.locks = false) (hgv : (Jvm.Cond.and given_1 narrow_1).before #[Value.ref b] s = true) (hcd : (Jvm.Cond.code x code 14 ret).before #[Value.ref b] s = true) (hex : c.exceptionTable.toList = [])
    (hcls : zCls zCl zFt zTb) (ro : Nat → Int32 → zS → Option (zO × zS)) (Hy : ∀ Y : zY, Y.1.2.1 = zCl → Y.1.2.2.1 = zFt → zHyp l Y zP zic ro) {n : Nat} {σ' : zS} (hz : zx zP zFt ro n 166 0 (zfst [.ref 5] 14) [] (zs0 L xs) = some (.inl (some (.int 1)), σ')) (hc : znc σ' ≤ room_1.cells) (hs : zns σ' ≤ room_1.slots) : W p l e room_1 s m #[Value.ref b] below meth c s.heap [] 0 0 (fun t => ∃ o, t.status = .running ∧ Ended t below o ∧ o = .returned (some (.int 1)) ∧ Framed s o t [] room_1.cells room_1.slots) (entryFrame m ([Value.ref b] : List Value).toArray 14) := by
  have hAn : ∀ a : Nat, a < s.heap.size → ¬ (fun q : Nat => s.heap.size ≤ q) a := fun a h => Nat.not_le.mpr h
  obtain ⟨t0, e0, T0⟩ := zT_0 L xs hgv hAn
  obtain ⟨t1, e1, T1⟩ := zT_1 L xs hgv hAn
  obtain ⟨t2, e2, T2⟩ := zT_2 L xs hgv hAn
  obtain ⟨t3, e3, T3⟩ := zT_3 L xs hgv hAn
  obtain ⟨t4, e4, T4⟩ := zT_4 L xs hgv hAn
  have hao := zAO_ok hts
  obtain ⟨dC, dI, hKn⟩ := zKn_ok (zTb_sub hts) hcls
  obtain ⟨cA, hAr⟩ := zAr_ok hts (List.mem_of_getElem? (i := zArI) rfl) hao
  have hZq := zZq_ok hts hgv hAn
  have hvm : zVm (((dC, dI), zCl, zFt, cA), (6, zRO L xs)) [t0, t1, t2, t3, t4, b] (fun q : Nat => s.heap.size ≤ q) s s.heap := by
    refine ⟨fun q hq => ?_, fun k hk => ?_, hZq.1, hZq.2, zStr_ok hts hgv, zNcs_ok hgv, fun w hw => va_Nw.of (zWk_tabs (List.mem_filter.mp hw).2) (hts w (List.mem_filter.mp hw).1), ⟨zTx_ok hts hgv hAn, hao⟩, hKn, hAr⟩
    · match q, hq with
      | 0, _ => exact T0
      | 1, _ => exact T1
      | 2, _ => exact T2
      | 3, _ => exact T3
      | 4, _ => exact T4
      | 5, _ =>
        obtain ⟨scr, h1, h2, h3, h4, h5⟩ := hX
        exact ⟨scr, h1, h2, h3, Nat.le_of_eq h4.symm, by rw [h4]; rfl, fun j hj => h5 j hj, hAn b hbl⟩
      | n + 6, h9 => exact absurd h9 (by show ¬ n + 6 < 6; omega)
    · match k, hk with
      | 0, _ => exact zZ_0 hts hAn e0
      | 1, _ => exact zZ_1 hts hAn e1
      | 2, _ => exact zZ_2 hts hAn e2
      | 3, _ => exact zZ_3 hts hAn e3
      | 4, _ => exact zZ_4 hts hAn e4
      | n + 5, h9 => exact absurd h9 (by omega)
  have hzw : zw zFt cA 6 [t0, t1, t2, t3, t4, b] (zs0 L xs) = [] := rfl
  have k := zx_sim (Hy (((dC, dI), zCl, zFt, cA), (6, zRO L xs)) rfl rfl) n ((p, l, e, room_1, s, m, #[Value.ref b], below, meth, c, vx_MQ below (zQc (((dC, dI), zCl, zFt, cA), (6, zRO L xs)) (fun q : Nat => s.heap.size ≤ q) [t0, t1, t2, t3, t4, b] (.inl (some (.int 1))) σ') (zXc (((dC, dI), zCl, zFt, cA), (6, zRO L xs)) (fun q : Nat => s.heap.size ≤ q) [t0, t1, t2, t3, t4, b] (.inl (some (.int 1))) σ') #[Value.ref b] s room_1.cells room_1.slots (fun q : Nat => s.heap.size ≤ q)), ((dC, dI), zCl, zFt, cA), (6, 14, 0, 0, (fun q : Nat => s.heap.size ≤ q), [t0, t1, t2, t3, t4, b], zRO L xs), (code, "SiegelinesLaw", zws zm_L_law)) 166 0 (zfst [.ref 5] 14) [] (zs0 L xs) (.inl (some (.int 1))) σ'
    ⟨hx, hb, hml, hown, (fun w hw => by
      rcases List.mem_cons.mp hw with h | h
      · rw [h]; exact hcd
      · exact zTb_sub hts w h), ⟨hKn, hAr⟩, (fun q hq => hq), hcls.mono (fun w hw => List.mem_cons_of_mem _ hw), hvm.1⟩
    ⟨rfl, rfl, rfl, rfl, hlocks, hr, (fun q => absurd q (by decide)), hex, rfl, rfl, hl⟩ rfl rfl ⟨Nat.le_refl 6, Nat.le_refl 6, hvm⟩ rfl hc hs hz
    [t0, t1, t2, t3, t4, b] _ s.heap []
    ⟨List.prefix_refl _, rfl, Nat.le_refl 6, (fun a j q h9 => nomatch h9), ⟨Nat.le_refl 6, fun q k n9 hq => by
      match q, hq with
      | 0, hq => cases hq; exact ⟨fun _ => (by decide : 0 < 6), fun _ => rfl⟩
      | 1, hq => cases hq; exact ⟨fun _ => (by decide : 1 < 6), fun _ => rfl⟩
      | 2, hq => cases hq; exact ⟨fun _ => (by decide : 2 < 6), fun _ => rfl⟩
      | 3, hq => cases hq; exact ⟨fun _ => (by decide : 3 < 6), fun _ => rfl⟩
      | 4, hq => cases hq; exact ⟨fun _ => (by decide : 4 < 6), fun _ => rfl⟩
      | 5, hq => cases hq; exact ⟨fun _ => (by decide : 5 < 6), fun _ => rfl⟩
      | n + 6, hq => cases hq⟩, (fun k q hq => by rw [hzw] at hq; cases hq), ⟨(fun i j q1 q2 h1 h2 _ => by rw [hzw] at h1; cases h1), (fun k q hq => by rw [hzw] at hq; cases hq)⟩, va_S.rf, (fun q hq => ⟨rfl, by
      match q, hq with
      | 0, _ => rfl
      | 1, _ => rfl
      | 2, _ => rfl
      | 3, _ => rfl
      | 4, _ => rfl
      | 5, _ => rfl
      | n + 6, h9 => exact absurd h9 (by show ¬ n + 6 < 6; omega)⟩), Nat.le_refl 0, Nat.le_refl 0⟩
    (zfst_lv [t0, t1, t2, t3, t4, b] (vs := [.ref 5]) (n := 14) (by decide)) (zfst_ok (n := 6) (fun v hv => by rw [List.mem_singleton.mp hv]; exact (by decide : 5 < 6))) (fun v hv => nomatch hv)
  rw [lg_entry_eq]
  intro T hT XX
  obtain ⟨t, a1, a2⟩ := k T hT XX
  exact ⟨t, a1, zQ_end (fun q hq => hq) (Nat.le_refl _) (Nat.le_refl _) a2⟩
