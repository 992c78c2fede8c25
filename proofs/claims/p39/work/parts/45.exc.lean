/-! what is thrown: out of a method, into a handler, at its beginning -/
section ZEXC
variable {X : zX} {pc : Nat} {ls : zLs} {st : List Value} {σ : zS}
theorem zHd_out (F : zFix X) (V : zVx X) {q : zM} (O : zOn q X) {E : Nat} (hn : ∀ x ∈ zmH q, ¬ (x.1 ≤ pc ∧ pc < x.2.1) ∨ (x.2.2.2 ≠ 0 ∧ Cond.classLink (xown X) x.2.2.2 (zEx x.2.2.2) ∈ zTb ∧ (zEx E, zEx x.2.2.2) ∈ zNcs)) (hQ : xQ X = zQ X (.inr E) σ) (hr1 : znc σ - xnc X ≤ (xR X).cells) (hr2 : zns σ - xns X ≤ (xR X).slots) : zHd X pc ls E σ := by
  intro L rls H locs rest a ce h1 h2 h3 hc hv hcl
  obtain ⟨hx, hb, -, hown, hts, hK, hA, -, hro⟩ := id F
  obtain ⟨o1, o2, o3, o4, o5, o6, o7, o8, o9, o10, o11⟩ := O
  rw [hQ]
  refine vx_outP hown o5 (fun z hz => ?_) hc hv hcl (fun t ht _ => ⟨⟨L, E, rfl, rfl, (h1.end_ ht).1⟩, (h1.end_ ht).2⟩) h1.2.2.2.2.2.2.2.1.2.2 hr1 hr2
  rw [o8] at hz
  obtain ⟨x, hx1, rfl⟩ := List.mem_map.mp hz
  rcases hn x hx1 with h | ⟨g1, g2, g3⟩
  · refine Or.inl ?_
    show (decide _ && decide _) = false
    by_cases hs : x.1 ≤ pc
    · have : ¬ pc < x.2.1 := fun h9 => h ⟨hs, h9⟩
      rw [decide_eq_false this, Bool.and_false]
    · rw [decide_eq_false hs, Bool.false_and]
  · exact Or.inr ⟨g1, _, hts _ (by rw [o4]; exact List.mem_cons_of_mem _ g2), V.2.2.2.2.2.2.2.1 _ g3⟩
theorem zHd_in (F : zFix X) (V : zVx X) {q : zM} (O : zOn q X) {E h9 : Nat} (pre suf : List (Nat × Nat × Nat × Nat)) {x : Nat × Nat × Nat × Nat} (hs : zmH q = pre ++ x :: suf) (hp : ∀ z ∈ pre, ¬ (z.1 ≤ pc ∧ pc < z.2.1) ∨ (z.2.2.2 ≠ 0 ∧ Cond.classLink (xown X) z.2.2.2 (zEx z.2.2.2) ∈ zTb ∧ (zEx E, zEx z.2.2.2) ∈ zNcs)) (hx1 : x.1 ≤ pc ∧ pc < x.2.1) (hx0 : x.2.2.2 ≠ 0) (hxE : x.2.2.2 = E) (hxh : x.2.2.1 = h9) (hl : Cond.classLink (xown X) E (zEx E) ∈ zTb) (hca : Cond.castable (zEx E) (zEx E) ∈ zWs)
    (kk : ∀ (L : List Nat) (rls : Array Slot) (H : Heap) (locs : List Loc) (a : Nat), zRel X L σ H locs → zlv L rls (xnL X) ls → zlo L.length ls → zWX X H locs (znc σ - xnc X) (zns σ - xns X) (F0 (xm X) h9 rls [.ref a])) : zHd X pc ls E σ := by
  intro L rls H locs rest a ce h1 h2 h3 hc hv hcl
  obtain ⟨hx, hb, -, hown, hts, hK, hA, -, hro⟩ := id F
  obtain ⟨o1, o2, o3, o4, o5, o6, o7, o8, o9, o10, o11⟩ := O
  have hca2 : (Cond.castable (zEx E) (zEx E)).before (xa X) (xs X) = true := va_Nw.use rfl (V.2.2.2.2.2.2.2.2.1 _ hca)
  refine vx_catch (name := zEx E) (E := zEx E) hown (tableOf pre) ⟨x.1, x.2.1, x.2.2.1, x.2.2.2⟩ (tableOf suf) (by rw [o8, hs]; exact List.map_append) (fun z hz => ?_) ?_ hx0 (by rw [show (⟨x.1, x.2.1, x.2.2.1, x.2.2.2⟩ : ExceptionTableEntry).catchType = E from hxE]; exact hts _ (by rw [o4]; exact List.mem_cons_of_mem _ hl)) hca2 hc hv hcl ?_
  · obtain ⟨x9, hx9, rfl⟩ := List.mem_map.mp hz
    rcases hp x9 hx9 with h | ⟨g1, g2, g3⟩
    · refine Or.inl ?_
      show (decide _ && decide _) = false
      by_cases hs : x9.1 ≤ pc
      · have : ¬ pc < x9.2.1 := fun h9 => h ⟨hs, h9⟩
        rw [decide_eq_false this, Bool.and_false]
      · rw [decide_eq_false hs, Bool.false_and]
    · exact Or.inr ⟨g1, _, hts _ (by rw [o4]; exact List.mem_cons_of_mem _ g2), V.2.2.2.2.2.2.2.1 _ g3⟩
  · show (decide _ && decide _) = true
    rw [decide_eq_true hx1.1, decide_eq_true hx1.2]
    rfl
  · show W _ _ _ _ _ _ _ _ _ _ _ _ _ _ _ (F0 _ x.2.2.1 _ _)
    rw [hxh]
    exact kk L rls H locs a h1 h2 h3
theorem zHd_st (F : zFix X) (V : zVx X) {q : zM} (O : zOn q X) {E h9 k : Nat} (pre suf : List (Nat × Nat × Nat × Nat)) {x : Nat × Nat × Nat × Nat} (hs : zmH q = pre ++ x :: suf) (hp : ∀ z ∈ pre, ¬ (z.1 ≤ pc ∧ pc < z.2.1) ∨ (z.2.2.2 ≠ 0 ∧ Cond.classLink (xown X) z.2.2.2 (zEx z.2.2.2) ∈ zTb ∧ (zEx E, zEx z.2.2.2) ∈ zNcs)) (hx1 : x.1 ≤ pc ∧ pc < x.2.1) (hx0 : x.2.2.2 ≠ 0) (hxE : x.2.2.2 = E) (hxh : x.2.2.1 = h9) (hl : Cond.classLink (xown X) E (zEx E) ∈ zTb) (hca : Cond.castable (zEx E) (zEx E) ∈ zWs)
    (d : decode (xcc X) h9 = .ok (.astore k, 2)) (hk : k < ls.length) (K : zC X (h9 + 2) ((zkl ls k).set k none) [] σ) : zHd X pc ls E σ :=
  zHd_in F V O pre suf hs hp hx1 hx0 hxE hxh hl hca fun L rls H locs a h1 h2 h3 => lv_astore F.1 F.2.1 d h2.has (by rw [← h2.2.2.1]; exact hk) rfl fun rls' h' => K L rls' H locs h1 (h2.st0 (by rw [← h2.2.2.1]; exact hk) h') h3.st0 (fun v hv => nomatch hv)
theorem zHd_stn (F : zFix X) (V : zVx X) {q : zM} (O : zOn q X) {E h9 : Nat} {k : Fin 4} (pre suf : List (Nat × Nat × Nat × Nat)) {x : Nat × Nat × Nat × Nat} (hs : zmH q = pre ++ x :: suf) (hp : ∀ z ∈ pre, ¬ (z.1 ≤ pc ∧ pc < z.2.1) ∨ (z.2.2.2 ≠ 0 ∧ Cond.classLink (xown X) z.2.2.2 (zEx z.2.2.2) ∈ zTb ∧ (zEx E, zEx z.2.2.2) ∈ zNcs)) (hx1 : x.1 ≤ pc ∧ pc < x.2.1) (hx0 : x.2.2.2 ≠ 0) (hxE : x.2.2.2 = E) (hxh : x.2.2.1 = h9) (hl : Cond.classLink (xown X) E (zEx E) ∈ zTb) (hca : Cond.castable (zEx E) (zEx E) ∈ zWs)
    (d : decode (xcc X) h9 = .ok (.astore_n k, 1)) (hk : (k : Nat) < ls.length) (K : zC X (h9 + 1) ((zkl ls k).set k none) [] σ) : zHd X pc ls E σ :=
  zHd_in F V O pre suf hs hp hx1 hx0 hxE hxh hl hca fun L rls H locs a h1 h2 h3 => lv_astore_n F.1 F.2.1 d rfl h2.has (by rw [← h2.2.2.1]; exact hk) rfl fun rls' h' => K L rls' H locs h1 (h2.st0 (by rw [← h2.2.2.1]; exact hk) h') h3.st0 (fun v hv => nomatch hv)
/-- the superclasses of what is thrown, up to Throwable -/
def zNm : List String := ["java/lang/RuntimeException", "java/lang/Exception"]
/-- the words of a throw that isn't of the kinds of zTb -/
theorem zs_at (F : zFix X) (V : zVx X) {q : zM} (O : zOn q X) {ic : Nat} {cls : String} (hg : ∀ w ∈ vx_atS (xown X) ic cls zNm, w ∈ zTb ∨ w ∈ zWs) : ∀ w ∈ vx_atS (xown X) ic cls zNm, w.before (xa X) (xs X) = true := by
  intro w hw
  rcases hg w hw with h | h
  · exact F.2.2.2.2.1 _ (by rw [O.2.2.2.1]; exact List.mem_cons_of_mem _ h)
  · exact va_Nw.use (zWk_tabs (List.mem_filter.mp h).2) (V.2.2.2.2.2.2.2.2.1 _ h)
theorem zs_ot {w : Cond} (h : w ∈ zTb ∨ w ∈ zWs) : vx_ot w = true := by
  rcases h with h | h
  · show (w.onTables || goodWord w) = true
    rw [(List.mem_filter.mp h).2, Bool.or_true]
  · show (w.onTables || goodWord w) = true
    rw [zWk_tabs (List.mem_filter.mp h).2, Bool.true_or]
theorem zs_tX {E : Nat} {L : List Nat} {H : Heap} {locs : List Loc} (h1 : zRel X L σ H locs) (t : State) (hz : H.size ≤ t.heap.size) (hq : ∀ q : Nat, q < H.size → t.heap[q]? = H[q]?) : zXc (xY X) (xA X) (xL0 X) (.inr E) (zthr σ) (zEx E) (xs X) t := by
  obtain ⟨r1, r2, r3, r4, r5, r6, r7, r8, r9, r10, r11⟩ := h1
  refine ⟨⟨L, E, rfl, rfl, r1, r2, r4, r5, fun k q hk => (r6 k q hk).kept (hq q.1 (r6 k q hk).lt), r7, r9⟩, Nat.le_trans r8.1 hz, fun q h h2 => ?_⟩
  rw [hq q (Nat.lt_of_lt_of_le h r8.1)]
  exact r8.2.1 q h h2
theorem zs_throw (F : zFix X) (V : zVx X) {q : zM} (O : zOn q X) {E ik is ic : Nat} {text : String} (hcls : Bundle.fit (zEx E) = true) (hk : Cond.classLink (xown X) ik (zEx E) ∈ zTb) (hini : Cond.initialized (zEx E) ∈ zTb) (hstr : (xown X, is, text) ∈ zStr) (hg : ∀ w ∈ vx_atS (xown X) ic (zEx E) zNm, w ∈ zTb ∨ w ∈ zWs) (hH : zmH q = [])
    (d0 : decode (xcc X) pc = .ok (.new ik, 3)) (d3 : decode (xcc X) (pc + 3) = .ok (.dup, 1)) (hd : (decode (xcc X) (pc + 4) = .ok (.ldc is, 2) ∧ decode (xcc X) (pc + 6) = .ok (.invokespecial ic, 3) ∧ decode (xcc X) (pc + 9) = .ok (.athrow, 1)) ∨ (decode (xcc X) (pc + 4) = .ok (.ldc_w is, 3) ∧ decode (xcc X) (pc + 7) = .ok (.invokespecial ic, 3) ∧ decode (xcc X) (pc + 10) = .ok (.athrow, 1)))
    (hf : 6 ≤ zmF q) (hw : 82 ≤ zmW q) (hQ : xQ X = zQ X (.inr E) (zthr σ)) (hr1 : znc (zthr σ) - xnc X ≤ (xR X).cells) (hr2 : zns (zthr σ) - xns X ≤ (xR X).slots) : zC X pc ls [] σ := by
  intro L rls H locs h1 h2 h3 h4
  obtain ⟨hx, hb, hml, hown, hts, hK, hA, -, hro⟩ := id F
  obtain ⟨o1, o2, o3, o4, o5, o6, o7, o8, o9, o10, o11⟩ := id O
  have c1 := h1.2.2.2.2.2.2.2.2.2.1
  have c2 := h1.2.2.2.2.2.2.2.2.2.2
  obtain ⟨sa, hsa⟩ := V.2.2.2.2.2.2.1 _ hstr
  have hsub : ∀ w ∈ zTb, w.before (xa X) (xs X) = true := fun w hw => hts w (by rw [o4]; exact List.mem_cons_of_mem _ hw)
  have hout : ∀ pc9, ∀ x ∈ (xc X).exceptionTable.toList, covers x pc9 = false := by
    intro pc9 x hx9
    rw [o8, hH] at hx9
    cases hx9
  have hgood : ∀ w ∈ Cond.classLink (xown X) ik (zEx E) :: Cond.initialized (zEx E) :: vx_atS (xown X) ic (zEx E) zNm, vx_ot w = true := by
    intro w hw9
    rcases List.mem_cons.mp hw9 with h | hw9
    · exact zs_ot (Or.inl (by rw [h]; exact hk))
    · rcases List.mem_cons.mp hw9 with h | hw9
      · exact zs_ot (Or.inl (by rw [h]; exact hini))
      · exact zs_ot (hg w hw9)
  have hnm : ∀ n ∈ zNm, Bundle.fit n = true := by decide +kernel
  have g1 : znc σ - xnc X + 1 = znc (zthr σ) - xnc X := by show _ = znc σ + 1 - _; omega
  have g2 : zns σ - xns X + 6 = zns (zthr σ) - xns X := by show _ = zns σ + 6 - _; omega
  unfold zWX
  rw [hQ]
  rcases hd with ⟨d4, d6, d9⟩ | ⟨d4, d6, d9⟩
  · exact vx_throwS (names := zNm) (ik := ik) (is := is) (ic := ic) (text := text) (sa := sa) (A := xA X) hx hb o11 hown hcls hnm (hsub _ hk) (hsub _ hini) hsa (zs_at F V O hg) hgood V.2.2.2.2.1 V.2.2.2.2.2.1 h1.2.2.2.2.2.2.2.1 (by rw [hml]; exact h2.1) d0 d3 d4 d6 d9 (hout _) (by rw [o9]; exact Nat.lt_of_lt_of_le (by decide) hf) (by rw [o10]; exact Nat.le_trans (show 0 + (13 * (2 + 1) + 43) ≤ 82 by decide) hw) (by rw [g1]; exact hr1) (by rw [g2]; exact hr2) o5 (fun t _ hz hq => zs_tX h1 t hz hq) h1.2.2.2.2.2.2.2.1.2.2 (by rw [g1]; exact hr1) (by rw [g2]; exact hr2)
  · exact vx_throwSW (names := zNm) (ik := ik) (is := is) (ic := ic) (text := text) (sa := sa) (A := xA X) hx hb o11 hown hcls hnm (hsub _ hk) (hsub _ hini) hsa (zs_at F V O hg) hgood V.2.2.2.2.1 V.2.2.2.2.2.1 h1.2.2.2.2.2.2.2.1 (by rw [hml]; exact h2.1) d0 d3 d4 d6 d9 (hout _) (by rw [o9]; exact Nat.lt_of_lt_of_le (by decide) hf) (by rw [o10]; exact Nat.le_trans (show 0 + (13 * (2 + 1) + 43) ≤ 82 by decide) hw) (by rw [g1]; exact hr1) (by rw [g2]; exact hr2) o5 (fun t _ hz hq => zs_tX h1 t hz hq) h1.2.2.2.2.2.2.2.1.2.2 (by rw [g1]; exact hr1) (by rw [g2]; exact hr2)
end ZEXC
