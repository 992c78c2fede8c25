/-! the instructions that read or write the heap -/
section ZHEAP
variable {X : zX} {pc : Nat} {ls : zLs} {st : List Value} {σ : zS}
theorem zRel.lt {L : List Nat} {H : Heap} {locs : List Loc} (h : zRel X L σ H locs) {a k n : Nat} (hk : σ.1[a]? = some (k, n)) (h2 : k ≠ 200) : xmo X ≤ a ∧ a < σ.1.length := by
  have h5 := (h.2.2.2.2.1.2 a k n hk)
  have h6 : ¬ a < xmo X := fun q => h2 (h5.mpr q)
  exact ⟨by omega, (List.getElem?_eq_some_iff.mp hk).1⟩
theorem zget_pre {L0 L : List Nat} {p : Nat} (h : L0 <+: L) (hp : p < L0.length) : L.getD p 0 = L0.getD p 0 := by
  obtain ⟨M, rfl⟩ := h
  rw [List.getD_eq_getElem?_getD, List.getD_eq_getElem?_getD, List.getElem?_append_left hp]
theorem zRel.ro {L : List Nat} {H : Heap} {locs : List Loc} (F : zFix X) (h : zRel X L σ H locs) {a n : Nat} (hk : σ.1[a]? = some (200, n)) : va_T .int (L.getD a 0) n (fun j => .int (σ.2.1 a j)) (xA X) (xs X) (xs X).heap := by
  have hp := (h.2.2.2.2.1.2 a 200 n hk).mp rfl
  obtain ⟨e1, e2⟩ := h.2.2.2.2.2.2.2.2.1 a hp
  rw [hk] at e2
  have e3 : n = (xRO X).2 a := (Prod.mk.inj (Option.some.inj e2)).2
  rw [e1, e3, zget_pre h.1 (Nat.lt_of_lt_of_le hp h.2.2.1)]
  exact F.2.2.2.2.2.2.2.2 a hp
theorem zs_getf (F : zFix X) {idx a k n j N : Nat} {C : String} {T : u_T} (hc : (xcl X)[k]? = some (C, T, N)) (hj : j < N) (hl : Cond.fieldLink (xown X) idx (T j).1 (T j).2.1 (T j).2.2.1 ∈ xTs X) (d : decode (xcc X) pc = .ok (.getfield idx, 3)) (hk : σ.1[a]? = some (k, n)) (K : zC X (pc + 3) ls (zfv ((xft X k).getD j .int) σ a j :: st) σ) : zC X pc ls (.ref a :: st) σ := by
  intro L rls H locs h1 h2 h3 h4
  obtain ⟨hx, hb, -, hown, hts, hK, hA, hcl, hro⟩ := id F
  obtain ⟨q1, q2, q3, q4, q5, -⟩ := hcl k C T N hc
  have hp := h1.lt hk (by omega)
  have hz := zw_at (ft := xft X) (cA := xcA X) (L := L) hp.1 hp.2
  rw [ze_obj hk q1] at hz
  refine va_get hx hb hts q3 hown hK h1.2.2.2.2.2.1 (a - xmo X) hz hc j hj (hts _ hl) (fun x h => h) (v := zt L (zfv ((xft X k).getD j .int) σ a j)) ?_ d (K L rls H locs h1 h2 h3 (h4.tl.cons ?_))
  · rw [List.getElem?_map, List.getElem?_range (by rw [← q2]; exact hj)]
    rfl
  · rw [h1.2.1]
    exact zfv_ok h1.2.2.2.1
theorem zfp_ne {a j b i : Nat} {v : Value} {σ1 : zS} (h : zfp σ a j v = some σ1) (hn : ¬ (b = a ∧ i = j)) : σ1.2.1 b i = σ.2.1 b i ∧ σ1.2.2.1 b i = σ.2.2.1 b i ∧ σ1.2.2.2.1 b i = σ.2.2.2.1 b i := by
  cases v <;> first | (cases h; done) | (cases h; refine ⟨?_, ?_, ?_⟩ <;> first | rfl | exact if_neg hn)
theorem zfp_K {a j : Nat} {v : Value} {σ1 : zS} (h : zfp σ a j v = some σ1) : σ1.1 = σ.1 ∧ znc σ1 = znc σ ∧ zns σ1 = zns σ := by
  cases v <;> first | (cases h; done) | (cases h; exact ⟨rfl, rfl, rfl⟩)
theorem zfp_VH {a j : Nat} {v : Value} {σ1 : zS} (hV : zVH σ) (hv : zvk σ.1.length v) (h : zfp σ a j v = some σ1) : zVH σ1 := by
  cases v with
  | int x => cases h; exact hV
  | long x => cases h; exact hV
  | ref x => cases h; exact hV.put hv
  | null => cases h; exact hV.putN
  | _ => cases h
theorem zfv_eq {ty : FieldType} {σ1 : zS} {b i : Nat} (h : σ1.2.1 b i = σ.2.1 b i ∧ σ1.2.2.1 b i = σ.2.2.1 b i ∧ σ1.2.2.2.1 b i = σ.2.2.2.1 b i) : zfv ty σ1 b i = zfv ty σ b i := by
  obtain ⟨h1, h2, h3⟩ := h
  cases ty <;> simp only [zfv, h1, h2, h3]
/-- a field's new value, in the list of an object's fields -/
theorem zfp_set {L : List Nat} {ty : Nat → FieldType} {N a j : Nat} {v : Value} {σ1 : zS} (hj : j < N) (h : zfp σ a j v = some σ1) (hf : fits (ty j) v = true) : (List.range N).map (fun i => zt L (zfv (ty i) σ1 a i)) = ((List.range N).map (fun i => zt L (zfv (ty i) σ a i))).set j (zt L v) := by
  refine List.ext_getElem? fun i => ?_
  by_cases hij : i = j
  · subst hij
    rw [List.getElem?_set_self (by rw [List.length_map, List.length_range]; exact hj), List.getElem?_map, List.getElem?_range hj]
    show some (zt L _) = some (zt L v)
    refine congrArg (fun z => some (zt L z)) ?_
    cases v with
    | int x =>
      cases h
      generalize ty i = t at hf
      cases t <;> first | exact congrArg Value.int (zup_at (h := σ.2.1) (p := a) (f := i) (v := x)) | (cases hf; done)
    | long x =>
      cases h
      generalize ty i = t at hf
      cases t <;> first | exact congrArg Value.long (zup_at (h := σ.2.2.2.1) (p := a) (f := i) (v := x)) | (cases hf; done)
    | ref x =>
      cases h
      generalize ty i = t at hf
      cases t <;> first | exact congrArg va_rf (zup_at (h := σ.2.2.1) (p := a) (f := i) (v := some x)) | (cases hf; done)
    | null =>
      cases h
      generalize ty i = t at hf
      cases t <;> first | exact congrArg va_rf (zup_at (h := σ.2.2.1) (p := a) (f := i) (v := none)) | (cases hf; done)
    | _ => cases h
  · rw [List.getElem?_set_ne (fun q => hij q.symm), List.getElem?_map, List.getElem?_map]
    by_cases hi : i < N
    · rw [List.getElem?_range hi]
      show some (zt L _) = some (zt L _)
      rw [zfv_eq (zfp_ne h (fun q => hij q.2))]
    · rw [List.getElem?_eq_none (by rw [List.length_range]; omega)]
      rfl
/-- one cell of the world has changed -/
theorem zRel.upd {L : List Nat} {σ1 : zS} {H H1 : Heap} {locs locs1 : List Loc} {a k n : Nat} {e : va_E} (h : zRel X L σ H locs) (hk : σ.1[a]? = some (k, n)) (h2 : k ≠ 200) (hK : σ1.1 = σ.1) (hn : znc σ1 = znc σ ∧ zns σ1 = zns σ) (hV : zVH σ1) (he : ze (xft X) (xcA X) L σ1 a = e) (ho : ∀ q, q ≠ a → σ1.2.1 q = σ.2.1 q ∧ σ1.2.2.1 q = σ.2.2.1 q ∧ σ1.2.2.2.1 q = σ.2.2.2.1 q)
    (hP : va_P (xD X) (xcl X) ((zw (xft X) (xcA X) (xmo X) L σ).set (a - xmo X) (L.getD a 0, e)) H1) (hD : va_D (xA X) ((zw (xft X) (xcA X) (xmo X) L σ).set (a - xmo X) (L.getD a 0, e))) (hS : va_S (xA X) (xs X).heap H1 locs1) : zRel X L σ1 H1 locs1 := by
  have hp := h.lt hk h2
  obtain ⟨r1, r2, r3, r4, r5, -, -, -, r9, r10, r11⟩ := h
  have hw := zw_set (ft := xft X) (cA := xcA X) (L := L) hK hp.1 hp.2 he (fun q hq => ze_same (by rw [hK]) (ho q hq).1 (ho q hq).2.1 (ho q hq).2.2)
  rw [hw] at hP hD
  refine ⟨r1, by rw [hK]; exact r2, r3, hV, by rw [hK]; exact r5, hP, hD, hS, fun p hp9 => ?_, by rw [hn.1]; exact r10, by rw [hn.2]; exact r11⟩
  rw [hK, (ho p (by omega)).1]
  exact r9 p hp9
theorem zs_putf (F : zFix X) {idx a k n j N : Nat} {C : String} {T : u_T} {v : Value} {σ1 : zS} (hc : (xcl X)[k]? = some (C, T, N)) (hj : j < N) (hl : Cond.fieldLink (xown X) idx (T j).1 (T j).2.1 (T j).2.2.1 ∈ xTs X) (hfin : (T j).2.2.2 = false ∨ ((T j).2.2.2 = true ∧ (xme X).name = "<init>" ∧ (T j).1 = xown X)) (d : decode (xcc X) pc = .ok (.putfield idx, 3)) (hk : σ.1[a]? = some (k, n)) (hna : narrow ((xft X k).getD j .int) v = v) (hfi : fits ((xft X k).getD j .int) v = true) (hz1 : zfp σ a j v = some σ1) (K : zC X (pc + 3) ls st σ1) : zC X pc ls (v :: .ref a :: st) σ := by
  intro L rls H locs h1 h2 h3 h4
  obtain ⟨hx, hb, -, hown, hts, hK, hA, hcl, hro⟩ := id F
  obtain ⟨q1, q2, q3, q4, q5, -⟩ := hcl k C T N hc
  have hp := h1.lt hk (by omega)
  have hz := zw_at (ft := xft X) (cA := xcA X) (L := L) hp.1 hp.2
  rw [ze_obj hk q1] at hz
  have hk1 := zfp_K hz1
  have hkn : σ1.1[a]? = some (k, n) := by rw [hk1.1]; exact hk
  have hset := zfp_set (L := L) (ty := fun i => (xft X k).getD i .int) (N := N) hj hz1 hfi
  rw [q2] at hset
  have hna' : narrow ((xft X k).getD j .int) (zt L v) = zt L v := by
    cases v with
    | ref x => generalize (xft X k).getD j .int = t at *; cases t <;> rfl
    | int x => exact hna
    | long x => exact hna
    | null => exact hna
    | float x => exact hna
    | double x => exact hna
    | retAddr x => exact hna
  have hfi' : fits ((xft X k).getD j .int) (zt L v) = true := by
    cases v with
    | ref x => generalize (xft X k).getD j .int = t at *; cases t <;> first | rfl | (cases hfi; done)
    | int x => exact hfi
    | long x => exact hfi
    | null => exact hfi
    | float x => exact hfi
    | double x => exact hfi
    | retAddr x => exact hfi
  have go : ∀ (H1 : Heap) (locs1 : List Loc), va_P (xD X) (xcl X) ((zw (xft X) (xcA X) (xmo X) L σ).set (a - xmo X) (L.getD a 0, .inr (k, ((List.range (xft X k).length).map (fun j => zt L (zfv ((xft X k).getD j .int) σ a j))).set j (zt L v)))) H1 → va_D (xA X) ((zw (xft X) (xcA X) (xmo X) L σ).set (a - xmo X) (L.getD a 0, .inr (k, ((List.range (xft X k).length).map (fun j => zt L (zfv ((xft X k).getD j .int) σ a j))).set j (zt L v)))) → va_S (xA X) (xs X).heap H1 locs1 → zWX X H1 locs1 (znc σ - xnc X) (zns σ - xns X) (F0 (xm X) (pc + 3) rls (st.map (zt L))) := by
    intro H1 locs1 gP gD gS
    have hv : zvk σ.1.length v := by rw [← h1.2.1]; exact h4.hd
    have hR := h1.upd hk (by omega) hk1.1 hk1.2 (zfp_VH h1.2.2.2.1 hv hz1) (by rw [ze_obj hkn q1, hset]) (fun q hq => ⟨funext fun i => (zfp_ne hz1 (fun z => hq z.1)).1, funext fun i => (zfp_ne hz1 (fun z => hq z.1)).2.1, funext fun i => (zfp_ne hz1 (fun z => hq z.1)).2.2⟩) gP gD gS
    have := K L rls H1 locs1 hR h2 h3 h4.tl.tl
    rw [hk1.2.1, hk1.2.2] at this
    exact this
  have hl2 : j < ((List.range (xft X k).length).map (fun j => zt L (zfv ((xft X k).getD j .int) σ a j))).length := by rw [List.length_map, List.length_range, ← q2]; exact hj
  rcases hfin with hf | ⟨hf, hi, ho⟩
  · exact va_put hx hb hts q3 (fun j => (xft X k).getD j .int) (fun j hj => (q4 j hj).1) q5 hown hK h1.2.2.2.2.2.1 h1.2.2.2.2.2.2.1 h1.2.2.2.2.2.2.2.1 (a - xmo X) hz hc j hj (hts _ hl) (fun x h => h) hf (q4 j hj).1 hna' hfi' hl2 d go
  · exact va_putF hx hb hts q3 (fun j => (xft X k).getD j .int) (fun j hj => (q4 j hj).1) q5 hown hK h1.2.2.2.2.2.1 h1.2.2.2.2.2.2.1 h1.2.2.2.2.2.2.2.1 (a - xmo X) hz hc j hj (hts _ hl) (fun x h => h) hf hi ho (q4 j hj).1 hna' hfi' hl2 d go
theorem zs_alen (F : zFix X) {a k n : Nat} (hk : σ.1[a]? = some (k, n)) (hkk : k = 100 ∨ k = 103 ∨ k = 104 ∨ k = 105 ∨ k = 200) (d : decode (xcc X) pc = .ok (.arraylength, 1)) (K : zC X (pc + 1) ls (.int (Int32.ofNat n) :: st) σ) : zC X pc ls (.ref a :: st) σ := by
  intro L rls H locs h1 h2 h3 h4
  obtain ⟨hx, hb, -, hown, hts, hK, hA, hcl, hro⟩ := id F
  by_cases h200 : k = 200
  · subst h200
    exact va_tlen hx hb (h1.ro F hk) h1.2.2.2.2.2.2.2.1 rfl d (K L rls H locs h1 h2 h3 (h4.tl.cons trivial))
  · have hp := h1.lt hk h200
    have hz := zw_at (ft := xft X) (cA := xcA X) (L := L) hp.1 hp.2
    have hk2 : k = 100 ∨ k = 103 ∨ k = 104 ∨ k = 105 := by omega
    rcases hk2 with rfl | rfl | rfl | rfl
    · rw [ze_int hk (by omega) (by omega)] at hz
      exact va_alen hx hb hK h1.2.2.2.2.2.1 (a - xmo X) 0 hz rfl rfl d (K L rls H locs h1 h2 h3 (h4.tl.cons trivial))
    · rw [ze_ref hk (by omega)] at hz
      exact va_alen hx hb hK h1.2.2.2.2.2.1 (a - xmo X) 1 hz rfl rfl d (K L rls H locs h1 h2 h3 (h4.tl.cons trivial))
    · rw [ze_ref hk (by omega)] at hz
      exact va_alen hx hb hK h1.2.2.2.2.2.1 (a - xmo X) 2 hz rfl rfl d (K L rls H locs h1 h2 h3 (h4.tl.cons trivial))
    · rw [ze_ref hk (by omega)] at hz
      exact va_alen hx hb hK h1.2.2.2.2.2.1 (a - xmo X) 3 hz rfl rfl d (K L rls H locs h1 h2 h3 (h4.tl.cons trivial))
theorem zs_iald (F : zFix X) {a k n : Nat} {i : Int32} (hk : σ.1[a]? = some (k, n)) (hkk : k = 100 ∨ k = 200) (hi : zin i n = true) (d : decode (xcc X) pc = .ok (.iaload, 1)) (K : zC X (pc + 1) ls (.int (σ.2.1 a i.toNatClampNeg) :: st) σ) : zC X pc ls (.int i :: .ref a :: st) σ := by
  intro L rls H locs h1 h2 h3 h4
  obtain ⟨hx, hb, -, hown, hts, hK, hA, hcl, hro⟩ := id F
  rcases hkk with rfl | rfl
  · have hp := h1.lt hk (by omega)
    have hz := zw_at (ft := xft X) (cA := xcA X) (L := L) hp.1 hp.2
    rw [ze_int hk (by omega) (by omega)] at hz
    exact va_iald hx hb hK h1.2.2.2.2.2.1 (a - xmo X) 0 hz rfl (zin_in hi) d (K L rls H locs h1 h2 h3 (h4.tl.tl.cons trivial))
  · exact va_ti hx hb (h1.ro F hk) h1.2.2.2.2.2.2.2.1 (zin_in hi) rfl d (K L rls H locs h1 h2 h3 (h4.tl.tl.cons trivial))
theorem zs_iast (F : zFix X) {a n : Nat} {i x : Int32} (hk : σ.1[a]? = some (100, n)) (hi : zin i n = true) (d : decode (xcc X) pc = .ok (.iastore, 1)) (K : zC X (pc + 1) ls st (σ.1, zup σ.2.1 a i.toNatClampNeg x, σ.2.2)) : zC X pc ls (.int x :: .int i :: .ref a :: st) σ := by
  intro L rls H locs h1 h2 h3 h4
  obtain ⟨hx, hb, -, hown, hts, hK, hA, hcl, hro⟩ := id F
  have hp := h1.lt hk (by omega)
  have hz := zw_at (ft := xft X) (cA := xcA X) (L := L) hp.1 hp.2
  rw [ze_int hk (by omega) (by omega)] at hz
  refine va_iast hx hb hK h1.2.2.2.2.2.1 h1.2.2.2.2.2.2.1 h1.2.2.2.2.2.2.2.1 (a - xmo X) 0 hz rfl (zin_in hi) d fun H1 locs1 gP gD gS => ?_
  refine K L rls H1 locs1 (h1.upd (σ1 := (σ.1, zup σ.2.1 a i.toNatClampNeg x, σ.2.2)) hk (by omega) rfl ⟨rfl, rfl⟩ h1.2.2.2.1 ?_ (fun q hq => ⟨zup_ne hq, rfl, rfl⟩) gP gD gS) h2 h3 h4.tl.tl.tl
  rw [ze_int (σ := (σ.1, zup σ.2.1 a i.toNatClampNeg x, σ.2.2)) (show (σ.1)[a]? = _ from hk) (by omega) (by omega)]
  refine congrArg (fun z => Sum.inl (xcA X 0, n, Sum.inl z)) (funext fun j => ?_)
  show (if a = a ∧ j = _ then x else _) = (if j = _ then x else _)
  by_cases hj : j = i.toNatClampNeg
  · rw [if_pos ⟨rfl, hj⟩, if_pos hj]
  · rw [if_neg (fun q => hj q.2), if_neg hj]
theorem zs_aald (F : zFix X) {a k n : Nat} {i : Int32} (hk : σ.1[a]? = some (k, n)) (hkk : k = 103 ∨ k = 104 ∨ k = 105) (hi : zin i n = true) (d : decode (xcc X) pc = .ok (.aaload, 1)) (K : zC X (pc + 1) ls (va_rf (σ.2.2.1 a i.toNatClampNeg) :: st) σ) : zC X pc ls (.int i :: .ref a :: st) σ := by
  intro L rls H locs h1 h2 h3 h4
  obtain ⟨hx, hb, -, hown, hts, hK, hA, hcl, hro⟩ := id F
  have hp := h1.lt hk (by omega)
  have hz := zw_at (ft := xft X) (cA := xcA X) (L := L) hp.1 hp.2
  rw [ze_ref hk (by omega)] at hz
  have hv : zvk L.length (va_rf (σ.2.2.1 a i.toNatClampNeg)) := by
    cases hq : σ.2.2.1 a i.toNatClampNeg with
    | none => trivial
    | some q => rw [h1.2.1]; exact h1.2.2.2.1 _ _ _ hq
  have k1 := K L rls H locs h1 h2 h3 (h4.tl.tl.cons hv)
  rw [List.map_cons, zt_rf] at k1
  rcases hkk with rfl | rfl | rfl
  · exact va_aldq hx hb hK h1.2.2.2.2.2.1 (a - xmo X) 1 hz rfl (zin_in hi) d k1
  · exact va_aldq hx hb hK h1.2.2.2.2.2.1 (a - xmo X) 2 hz rfl (zin_in hi) d k1
  · exact va_aldq hx hb hK h1.2.2.2.2.2.1 (a - xmo X) 3 hz rfl (zin_in hi) d k1
theorem zs_aast (F : zFix X) {a v k kv n nv N : Nat} {T : u_T} {i : Int32} (hk : σ.1[a]? = some (k, n)) (hkk : k = 103 ∨ k = 104 ∨ k = 105) (hkv : σ.1[v]? = some (kv, nv)) (hc : (xcl X)[kv]? = some (zAC k, T, N)) (hi : zin i n = true) (d : decode (xcc X) pc = .ok (.aastore, 1)) (K : zC X (pc + 1) ls st (σ.1, σ.2.1, zup σ.2.2.1 a i.toNatClampNeg (some v), σ.2.2.2)) : zC X pc ls (.ref v :: .int i :: .ref a :: st) σ := by
  intro L rls H locs h1 h2 h3 h4
  obtain ⟨hx, hb, -, hown, hts, hK, hA, hcl, hro⟩ := id F
  obtain ⟨q1, q2, q3, q4, q5, -⟩ := hcl kv _ T N hc
  have hp := h1.lt hk (by omega)
  have hz := zw_at (ft := xft X) (cA := xcA X) (L := L) hp.1 hp.2
  rw [ze_ref hk (by omega)] at hz
  have hpv := h1.lt hkv (by omega)
  have hzv := zw_at (ft := xft X) (cA := xcA X) (L := L) hpv.1 hpv.2
  rw [ze_obj hkv q1] at hzv
  have go : ∀ (H1 : Heap) (locs1 : List Loc), va_P (xD X) (xcl X) ((zw (xft X) (xcA X) (xmo X) L σ).set (a - xmo X) (L.getD a 0, .inl (xcA X (k - 100), n, .inr (.inr (.inr (.inr (va_up (fun j => (σ.2.2.1 a j).map (fun q => L.getD q 0)) i.toNatClampNeg (some (L.getD v 0))))))))) H1 → va_D (xA X) ((zw (xft X) (xcA X) (xmo X) L σ).set (a - xmo X) (L.getD a 0, .inl (xcA X (k - 100), n, .inr (.inr (.inr (.inr (va_up (fun j => (σ.2.2.1 a j).map (fun q => L.getD q 0)) i.toNatClampNeg (some (L.getD v 0))))))))) → va_S (xA X) (xs X).heap H1 locs1 → zWX X H1 locs1 (znc σ - xnc X) (zns σ - xns X) (F0 (xm X) (pc + 1) rls (st.map (zt L))) := by
    intro H1 locs1 gP gD gS
    refine K L rls H1 locs1 (h1.upd (σ1 := (σ.1, σ.2.1, zup σ.2.2.1 a i.toNatClampNeg (some v), σ.2.2.2)) hk (by omega) rfl ⟨rfl, rfl⟩ (h1.2.2.2.1.put hpv.2) ?_ (fun q hq => ⟨rfl, zup_ne hq, rfl⟩) gP gD gS) h2 h3 h4.tl.tl.tl
    rw [ze_ref (σ := (σ.1, σ.2.1, zup σ.2.2.1 a i.toNatClampNeg (some v), σ.2.2.2)) (show (σ.1)[a]? = _ from hk) (by omega)]
    refine congrArg (fun z => Sum.inl (xcA X (k - 100), n, Sum.inr (Sum.inr (Sum.inr (Sum.inr z))))) (funext fun j => ?_)
    show (if a = a ∧ j = _ then some v else _).map _ = (if j = _ then some _ else _)
    by_cases hj : j = i.toNatClampNeg
    · rw [if_pos ⟨rfl, hj⟩, if_pos hj]
      rfl
    · rw [if_neg (fun q => hj q.2), if_neg hj]
  rcases hkk with rfl | rfl | rfl
  · exact va_astq hx hb hK h1.2.2.2.2.2.1 h1.2.2.2.2.2.2.1 h1.2.2.2.2.2.2.2.1 (a - xmo X) 1 (v - xmo X) kv hz rfl hzv hc (zin_in hi) d go
  · exact va_astq hx hb hK h1.2.2.2.2.2.1 h1.2.2.2.2.2.2.1 h1.2.2.2.2.2.2.2.1 (a - xmo X) 2 (v - xmo X) kv hz rfl hzv hc (zin_in hi) d go
  · exact va_astq hx hb hK h1.2.2.2.2.2.1 h1.2.2.2.2.2.2.1 h1.2.2.2.2.2.2.2.1 (a - xmo X) 3 (v - xmo X) kv hz rfl hzv hc (zin_in hi) d go
end ZHEAP
