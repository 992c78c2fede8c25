/-! places and addresses: what the interpreter's values, locals and cells are in the machine -/
def zt (L : List Nat) : Value → Value
  | .ref k => .ref (L.getD k 0)
  | .int x => .int x
  | .long x => .long x
  | .null => .null
  | .float x => .float x
  | .double x => .double x
  | .retAddr x => .retAddr x
def zvk (n : Nat) : Value → Prop
  | .ref k => k < n
  | _ => True
theorem zt_cat (L : List Nat) (v : Value) : (zt L v).category = v.category := by cases v <;> rfl
theorem zt_rf (L : List Nat) (r : Option Nat) : zt L (va_rf r) = va_rf (r.map fun q => L.getD q 0) := by cases r <;> rfl
theorem zt_app {L M : List Nat} {v : Value} (h : zvk L.length v) : zt (L ++ M) v = zt L v := by
  cases v with
  | ref k =>
    have hk : k < L.length := h
    simp only [zt, List.getD_eq_getElem?_getD, List.getElem?_append_left hk]
  | _ => rfl
theorem zvk_mono {n k : Nat} {v : Value} (h : zvk n v) (hn : n ≤ k) : zvk k v := by
  cases v with
  | ref a => exact Nat.lt_of_lt_of_le (show a < n from h) hn
  | _ => trivial
theorem zt_apps {L M : List Nat} : ∀ {st : List Value}, (∀ v ∈ st, zvk L.length v) → st.map (zt (L ++ M)) = st.map (zt L)
  | [], _ => rfl
  | v :: st, h => by
    rw [List.map_cons, List.map_cons, zt_app (h v List.mem_cons_self), zt_apps (fun w hw => h w (List.mem_cons_of_mem _ hw))]
/-- the locals -/
def zlv (L : List Nat) (rls : Array Slot) (n : Nat) (ls : zLs) : Prop := rls.size = n ∧ lv_wf rls ∧ ls.length = n ∧ ∀ (i : Nat) (v : Value), zg ls i = some v → rls[i]? = some (.val (zt L v))
def zal (L : List Nat) (n : Nat) (ls : zLs) : List (Nat × Value) := (List.range n).filterMap (fun j => (zg ls j).map (fun v => (j, zt L v)))
theorem zal_mem {L : List Nat} {n : Nat} {ls : zLs} {q : Nat × Value} : q ∈ zal L n ls ↔ ∃ v, q.1 < n ∧ zg ls q.1 = some v ∧ q.2 = zt L v := by
  unfold zal
  rw [List.mem_filterMap]
  constructor
  · rintro ⟨j, hj, h⟩
    cases hz : zg ls j with
    | none => rw [hz] at h; cases h
    | some v =>
      rw [hz] at h
      cases h
      exact ⟨v, List.mem_range.mp hj, hz, rfl⟩
  · rintro ⟨v, h1, h2, h3⟩
    refine ⟨q.1, List.mem_range.mpr h1, ?_⟩
    rw [h2]
    exact congrArg some (Prod.ext rfl h3.symm)
theorem zg_lt {ls : zLs} {i : Nat} {v : Value} (h : zg ls i = some v) : i < ls.length := by
  unfold zg at h
  rcases Nat.lt_or_ge i ls.length with hl | hl
  · exact hl
  · rw [List.getElem?_eq_none hl] at h
    cases h
theorem zlv.has {L : List Nat} {rls : Array Slot} {n : Nat} {ls : zLs} (h : zlv L rls n ls) : lv_has rls n (zal L n ls) := by
  refine ⟨h.1, h.2.1, fun q hq => ?_⟩
  obtain ⟨v, h1, h2, h3⟩ := zal_mem.mp hq
  rw [h3]
  exact h.2.2.2 _ _ h2
theorem zkl_len (ls : zLs) (i : Nat) : (zkl ls i).length = ls.length := by
  unfold zkl
  cases i with
  | zero => rfl
  | succ k =>
    dsimp only
    split
    · exact List.length_set
    · rfl
theorem zg_some {ls : zLs} {i : Nat} {v : Value} : zg ls i = some v ↔ ls[i]? = some (some v) := by
  unfold zg
  constructor
  · intro h
    split at h
    · rename_i w hw
      cases h
      exact hw
    · cases h
  · intro h
    rw [h]
/-- what is left of the locals, where one is about to be stored -/
theorem zkl_at {ls : zLs} {i j : Nat} {w : Value} (h : (zkl ls i)[j]? = some (some w)) : zg ls j = some w ∧ ¬ (j + 1 = i ∧ w.category = 2) := by
  unfold zkl at h
  cases i with
  | zero => exact ⟨zg_some.mpr h, fun q => by omega⟩
  | succ k =>
    dsimp only at h
    by_cases hz : zc2 (ls.getD k none) = true
    · rw [if_pos hz] at h
      by_cases hk : j = k
      · subst hk
        have hl : j < (ls.set j none).length := by
          rcases Nat.lt_or_ge j (ls.set j none).length with q | q
          · exact q
          · rw [List.getElem?_eq_none q] at h; cases h
        rw [List.length_set] at hl
        rw [List.getElem?_set_self hl] at h
        cases h
      · rw [List.getElem?_set_ne (fun q => hk q.symm)] at h
        exact ⟨zg_some.mpr h, fun q => hk (by omega)⟩
    · rw [if_neg hz] at h
      refine ⟨zg_some.mpr h, fun q => hz ?_⟩
      have hk : j = k := by omega
      subst hk
      rw [List.getD_eq_getElem?_getD, h]
      simp [zc2, q.2]
theorem zlv.st1 {L : List Nat} {rls rls' : Array Slot} {n i : Nat} {ls : zLs} {v : Value} (h : zlv L rls n ls) (hi : i < n) (h' : lv_has rls' n ((i, zt L v) :: (zal L n ls).filter (fun q => !(q.1 == i) && !(q.1 + 1 == i && q.2.category == 2)))) : zlv L rls' n (zs1 ls i v) := by
  refine ⟨h'.1, h'.2.1, ?_, fun j w hj => ?_⟩
  · unfold zs1
    rw [List.length_set, zkl_len]
    exact h.2.2.1
  · have hj := zg_some.mp hj
    unfold zs1 at hj
    by_cases hji : j = i
    · subst hji
      rw [List.getElem?_set_self (by rw [zkl_len, h.2.2.1]; exact hi)] at hj
      cases hj
      exact h'.2.2 (j, zt L v) List.mem_cons_self
    · rw [List.getElem?_set_ne (fun q => hji q.symm)] at hj
      obtain ⟨h1, h2⟩ := zkl_at hj
      have hl := zg_lt h1
      refine h'.2.2 (j, zt L w) (List.mem_cons_of_mem _ (List.mem_filter.mpr ⟨zal_mem.mpr ⟨w, by rw [← h.2.2.1]; exact hl, h1, rfl⟩, ?_⟩))
      simp only [Bool.and_eq_true, Bool.not_eq_true', beq_eq_false_iff_ne, ne_eq, Bool.and_eq_false_iff, zt_cat]
      refine ⟨hji, ?_⟩
      by_cases hc : j + 1 = i
      · exact Or.inr (fun q => h2 ⟨hc, q⟩)
      · exact Or.inl hc
/-- a place is stored over, but not told -/
theorem zlv.st0 {L : List Nat} {rls rls' : Array Slot} {n i : Nat} {ls : zLs} {v : Value} (h : zlv L rls n ls) (hi : i < n) (h' : lv_has rls' n ((i, v) :: (zal L n ls).filter (fun q => !(q.1 == i) && !(q.1 + 1 == i && q.2.category == 2)))) : zlv L rls' n ((zkl ls i).set i none) := by
  refine ⟨h'.1, h'.2.1, ?_, fun j w hj => ?_⟩
  · rw [List.length_set, zkl_len]
    exact h.2.2.1
  · have hj := zg_some.mp hj
    by_cases hji : j = i
    · subst hji
      rw [List.getElem?_set_self (by rw [zkl_len, h.2.2.1]; exact hi)] at hj
      cases hj
    · rw [List.getElem?_set_ne (fun q => hji q.symm)] at hj
      obtain ⟨h1, h2⟩ := zkl_at hj
      have hl := zg_lt h1
      refine h'.2.2 (j, zt L w) (List.mem_cons_of_mem _ (List.mem_filter.mpr ⟨zal_mem.mpr ⟨w, by rw [← h.2.2.1]; exact hl, h1, rfl⟩, ?_⟩))
      simp only [Bool.and_eq_true, Bool.not_eq_true', beq_eq_false_iff_ne, ne_eq, Bool.and_eq_false_iff, zt_cat]
      refine ⟨hji, ?_⟩
      by_cases hc : j + 1 = i
      · exact Or.inr (fun q => h2 ⟨hc, q⟩)
      · exact Or.inl hc
theorem zlv.st2 {L : List Nat} {rls rls' : Array Slot} {n i : Nat} {ls : zLs} {v : Value} (h : zlv L rls n ls) (hi : i + 1 < n) (h' : lv_has rls' n ((i, zt L v) :: (zal L n ls).filter (fun q => !(q.1 == i) && (!(q.1 == i + 1) && !(q.1 + 1 == i && q.2.category == 2))))) : zlv L rls' n (zs2 ls i v) := by
  refine ⟨h'.1, h'.2.1, ?_, fun j w hj => ?_⟩
  · unfold zs2
    rw [List.length_set, List.length_set, zkl_len]
    exact h.2.2.1
  · have hj := zg_some.mp hj
    unfold zs2 at hj
    by_cases hj1 : j = i + 1
    · subst hj1
      rw [List.getElem?_set_self (by rw [List.length_set, zkl_len, h.2.2.1]; exact hi)] at hj
      cases hj
    · rw [List.getElem?_set_ne (fun q => hj1 q.symm)] at hj
      by_cases hji : j = i
      · subst hji
        rw [List.getElem?_set_self (by rw [zkl_len, h.2.2.1]; omega)] at hj
        cases hj
        exact h'.2.2 (j, zt L v) List.mem_cons_self
      · rw [List.getElem?_set_ne (fun q => hji q.symm)] at hj
        obtain ⟨h1, h2⟩ := zkl_at hj
        have hl := zg_lt h1
        refine h'.2.2 (j, zt L w) (List.mem_cons_of_mem _ (List.mem_filter.mpr ⟨zal_mem.mpr ⟨w, by rw [← h.2.2.1]; exact hl, h1, rfl⟩, ?_⟩))
        simp only [Bool.and_eq_true, Bool.not_eq_true', beq_eq_false_iff_ne, ne_eq, Bool.and_eq_false_iff, zt_cat]
        refine ⟨hji, hj1, ?_⟩
        by_cases hc : j + 1 = i
        · exact Or.inr (fun q => h2 ⟨hc, q⟩)
        · exact Or.inl hc
theorem zlv.app {L M : List Nat} {rls : Array Slot} {n : Nat} {ls : zLs} (h : zlv L rls n ls) (hv : ∀ i v, zg ls i = some v → zvk L.length v) : zlv (L ++ M) rls n ls := ⟨h.1, h.2.1, h.2.2.1, fun i v hi => by rw [zt_app (hv i v hi)]; exact h.2.2.2 i v hi⟩
/-- which locals are valid -/
def zlo (n : Nat) (ls : zLs) : Prop := ∀ (i : Nat) (v : Value), zg ls i = some v → zvk n v
def zso (n : Nat) (st : List Value) : Prop := ∀ v ∈ st, zvk n v
theorem zlo.st1 {n i : Nat} {ls : zLs} {v : Value} (h : zlo n ls) (hv : zvk n v) : zlo n (zs1 ls i v) := by
  intro j w hj
  have hj := zg_some.mp hj
  unfold zs1 at hj
  by_cases hji : j = i
  · subst hji
    rw [List.getElem?_set_self'] at hj
    cases hq : (zkl ls j)[j]? with
    | none => rw [hq] at hj; cases hj
    | some x => rw [hq] at hj; cases hj; exact hv
  · rw [List.getElem?_set_ne (fun q => hji q.symm)] at hj
    exact h j w (zkl_at hj).1
theorem zlo.st0 {n i : Nat} {ls : zLs} (h : zlo n ls) : zlo n ((zkl ls i).set i none) := by
  intro j w hj
  have hj := zg_some.mp hj
  by_cases hji : j = i
  · subst hji
    rw [List.getElem?_set_self'] at hj
    cases hq : (zkl ls j)[j]? with
    | none => rw [hq] at hj; cases hj
    | some x => rw [hq] at hj; cases hj
  · rw [List.getElem?_set_ne (fun q => hji q.symm)] at hj
    exact h j w (zkl_at hj).1
theorem zlo.st2 {n i : Nat} {ls : zLs} {v : Value} (h : zlo n ls) (hv : zvk n v) : zlo n (zs2 ls i v) := by
  intro j w hj
  have hj := zg_some.mp hj
  unfold zs2 at hj
  by_cases hj1 : j = i + 1
  · subst hj1
    rw [List.getElem?_set_self'] at hj
    cases hq : ((zkl ls i).set i (some v))[i + 1]? with
    | none => rw [hq] at hj; cases hj
    | some x => rw [hq] at hj; cases hj
  · rw [List.getElem?_set_ne (fun q => hj1 q.symm)] at hj
    exact (zlo.st1 (i := i) h hv) j w (zg_some.mpr (by unfold zs1; exact hj))
theorem zlo.mono {n k : Nat} {ls : zLs} (h : zlo n ls) (hn : n ≤ k) : zlo k ls := fun i v hi => zvk_mono (h i v hi) hn
theorem zso.mono {n k : Nat} {st : List Value} (h : zso n st) (hn : n ≤ k) : zso k st := fun v hv => zvk_mono (h v hv) hn
theorem zso.cons {n : Nat} {v : Value} {st : List Value} (hv : zvk n v) (h : zso n st) : zso n (v :: st) := fun w hw => (List.mem_cons.mp hw).elim (fun e => e ▸ hv) (h w)
theorem zso.tl {n : Nat} {v : Value} {st : List Value} (h : zso n (v :: st)) : zso n st := fun w hw => h w (List.mem_cons_of_mem _ hw)
theorem zso.hd {n : Nat} {v : Value} {st : List Value} (h : zso n (v :: st)) : zvk n v := h v List.mem_cons_self
/-- a method's first locals -/
theorem zent_at (L : List Nat) : ∀ (vs : List Value) (k i : Nat) (v : Value), (zent vs)[i]? = some (some v) → (k + i, zt L v) ∈ lv_args k (vs.map (zt L))
  | [], _, _, _, h => by cases h
  | w :: vs, k, i, v, h => by
    unfold zent at h
    rw [List.map_cons]
    unfold lv_args
    rw [zt_cat]
    by_cases hc : w.category = 2
    · rw [if_pos hc] at h
      rw [if_pos hc]
      match i, h with
      | 0, h => cases h; exact List.mem_cons_self
      | 1, h => cases h
      | i + 2, h =>
        have h := zent_at L vs (k + 2) i v h
        rw [show k + 2 + i = k + (i + 2) by omega] at h
        exact List.mem_cons_of_mem _ h
    · rw [if_neg hc] at h
      rw [if_neg hc]
      match i, h with
      | 0, h => cases h; exact List.mem_cons_self
      | i + 1, h =>
        have h := zent_at L vs (k + 1) i v h
        rw [show k + 1 + i = k + (i + 1) by omega] at h
        exact List.mem_cons_of_mem _ h
theorem zent_len (L : List Nat) : ∀ vs : List Value, (zent vs).length = (lg_sl (vs.map (zt L))).length
  | [] => rfl
  | v :: vs => by
    have ih := zent_len L vs
    unfold lg_sl at ih ⊢
    unfold zent
    rw [List.map_cons, List.flatMap_cons, List.length_append, ← ih, zt_cat]
    by_cases hc : v.category = 2
    · rw [if_pos hc, if_pos hc]
      simp
      omega
    · rw [if_neg hc, if_neg hc]
      simp
      omega
theorem zent_ok {n : Nat} : ∀ {vs : List Value}, zso n vs → ∀ (i : Nat) (v : Value), (zent vs)[i]? = some (some v) → zvk n v
  | [], _, _, _, h => by cases h
  | w :: vs, hs, i, v, h => by
    unfold zent at h
    by_cases hc : w.category = 2
    · rw [if_pos hc] at h
      match i, h with
      | 0, h => cases h; exact hs.hd
      | 1, h => cases h
      | i + 2, h => exact zent_ok hs.tl i v h
    · rw [if_neg hc] at h
      match i, h with
      | 0, h => cases h; exact hs.hd
      | i + 1, h => exact zent_ok hs.tl i v h
theorem zfst_at {vs : List Value} {n i : Nat} {v : Value} (h : zg (zfst vs n) i = some v) : (zent vs)[i]? = some (some v) := by
  have h := zg_some.mp h
  unfold zfst at h
  rcases Nat.lt_or_ge i (zent vs).length with q | q
  · rw [List.getElem?_append_left q] at h
    exact h
  · rw [List.getElem?_append_right q, List.getElem?_replicate] at h
    split at h <;> cases h
theorem zfst_ok {n k : Nat} {vs : List Value} (hs : zso n vs) : zlo n (zfst vs k) := fun i v h => zent_ok hs i v (zfst_at h)
theorem zfst_lv (L : List Nat) {vs : List Value} {n : Nat} (hn : (zent vs).length ≤ n) : zlv L ((lg_sl (vs.map (zt L)) ++ List.replicate (n - (lg_sl (vs.map (zt L))).length) Slot.unset).toArray) n (zfst vs n) := by
  have h := lv_entry (vs.map (zt L)) (n := n) (by rw [← zent_len]; exact hn)
  refine ⟨h.1, h.2.1, ?_, fun i v hi => ?_⟩
  · unfold zfst
    rw [List.length_append, List.length_replicate]
    omega
  · have h2 := zent_at L vs 0 i v (zfst_at hi)
    rw [Nat.zero_add] at h2
    exact h.2.2 (i, zt L v) h2
