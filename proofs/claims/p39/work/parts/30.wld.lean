/-! the world: the cells of the interpreter in the heap -/
def ze (ft : Nat → List FieldType) (cA : Nat → ClassId) (L : List Nat) (σ : zS) (p : Nat) : va_E := match σ.1.getD p (0, 0) with
  | (k, n) => if k < 100 then .inr (k, (List.range (ft k).length).map (fun j => zt L (zfv ((ft k).getD j .int) σ p j)))
    else if k < 103 then .inl (cA (k - 100), n, .inl (σ.2.1 p))
    else .inl (cA (k - 100), n, .inr (.inr (.inr (.inr (fun j => (σ.2.2.1 p j).map (fun q => L.getD q 0))))))
/-- the cells from place mo on are the world's; those ahead of it were there before -/
def zw (ft : Nat → List FieldType) (cA : Nat → ClassId) (mo : Nat) (L : List Nat) (σ : zS) : va_W := (List.range (σ.1.length - mo)).map (fun j => (L.getD (mo + j) 0, ze ft cA L σ (mo + j)))
def zVH (σ : zS) : Prop := ∀ p f q : Nat, σ.2.2.1 p f = some q → q < σ.1.length
section ZWLD
variable {ft : Nat → List FieldType} {cA : Nat → ClassId} {mo : Nat} {L : List Nat} {σ : zS}
theorem zw_len : (zw ft cA mo L σ).length = σ.1.length - mo := by unfold zw; rw [List.length_map, List.length_range]
theorem zw_at {p : Nat} (h : mo ≤ p) (hp : p < σ.1.length) : (zw ft cA mo L σ)[p - mo]? = some (L.getD p 0, ze ft cA L σ p) := by
  unfold zw
  rw [List.getElem?_map, List.getElem?_range (by omega)]
  show some (L.getD (mo + (p - mo)) 0, ze ft cA L σ (mo + (p - mo))) = some _
  rw [show mo + (p - mo) = p by omega]
theorem ze_obj {p k n : Nat} (h : σ.1[p]? = some (k, n)) (hk : k < 100) : ze ft cA L σ p = .inr (k, (List.range (ft k).length).map (fun j => zt L (zfv ((ft k).getD j .int) σ p j))) := by
  unfold ze
  rw [List.getD_eq_getElem?_getD, h]
  show (if k < 100 then _ else _) = _
  rw [if_pos hk]
theorem ze_int {p k n : Nat} (h : σ.1[p]? = some (k, n)) (hk : 100 ≤ k) (hk2 : k < 103) : ze ft cA L σ p = .inl (cA (k - 100), n, .inl (σ.2.1 p)) := by
  unfold ze
  rw [List.getD_eq_getElem?_getD, h]
  show (if k < 100 then _ else _) = _
  rw [if_neg (by omega), if_pos hk2]
theorem ze_ref {p k n : Nat} (h : σ.1[p]? = some (k, n)) (hk : 103 ≤ k) : ze ft cA L σ p = .inl (cA (k - 100), n, .inr (.inr (.inr (.inr (fun j => (σ.2.2.1 p j).map (fun q => L.getD q 0)))))) := by
  unfold ze
  rw [List.getD_eq_getElem?_getD, h]
  show (if k < 100 then _ else _) = _
  rw [if_neg (by omega), if_neg (by omega)]
/-- another state of the same kinds whose cells are those, but one -/
theorem zw_set {σ' : zS} {p : Nat} {e : va_E} (hK : σ'.1 = σ.1) (h : mo ≤ p) (hp : p < σ.1.length) (he : ze ft cA L σ' p = e) (ho : ∀ q, q ≠ p → ze ft cA L σ' q = ze ft cA L σ q) : (zw ft cA mo L σ).set (p - mo) (L.getD p 0, e) = zw ft cA mo L σ' := by
  refine List.ext_getElem? fun i => ?_
  by_cases hi : i < σ.1.length - mo
  · have h2 : (zw ft cA mo L σ')[i]? = some (L.getD (mo + i) 0, ze ft cA L σ' (mo + i)) := by
      have h3 := zw_at (ft := ft) (cA := cA) (mo := mo) (L := L) (σ := σ') (p := mo + i) (by omega) (by rw [hK]; omega)
      rw [show mo + i - mo = i by omega] at h3
      exact h3
    rw [h2]
    by_cases hip : i = p - mo
    · subst hip
      rw [List.getElem?_set_self (by rw [zw_len]; exact hi), show mo + (p - mo) = p by omega, he]
    · rw [List.getElem?_set_ne (fun q => hip q.symm)]
      have h3 := zw_at (ft := ft) (cA := cA) (mo := mo) (L := L) (σ := σ) (p := mo + i) (by omega) (by omega)
      rw [show mo + i - mo = i by omega] at h3
      rw [h3, ho (mo + i) (by omega)]
  · rw [List.getElem?_eq_none (by rw [List.length_set, zw_len]; omega), List.getElem?_eq_none (by rw [zw_len, hK]; omega)]
theorem ze_app {σ' : zS} {M : List Nat} {p : Nat} (hV : zVH σ) (hL : L.length = σ.1.length) (hp : p < σ.1.length) (hK : σ'.1[p]? = σ.1[p]?) (h1 : σ'.2.1 p = σ.2.1 p) (h2 : σ'.2.2.1 p = σ.2.2.1 p) (h3 : σ'.2.2.2.1 p = σ.2.2.2.1 p) : ze ft cA (L ++ M) σ' p = ze ft cA L σ p := by
  have hget : ∀ q j, σ.2.2.1 p j = some q → (L ++ M).getD q 0 = L.getD q 0 := fun q j hq => by
    have := hV p j q hq
    rw [List.getD_eq_getElem?_getD, List.getD_eq_getElem?_getD, List.getElem?_append_left (by omega)]
  have hfv : ∀ (ty : FieldType) (j : Nat), zt (L ++ M) (zfv ty σ' p j) = zt L (zfv ty σ p j) := by
    intro ty j
    have hr : zt (L ++ M) (va_rf (σ.2.2.1 p j)) = zt L (va_rf (σ.2.2.1 p j)) := by
      cases hq : σ.2.2.1 p j with
      | none => rfl
      | some q => show Value.ref _ = Value.ref _; rw [hget q j hq]
    cases ty <;> simp only [zfv, h1, h2, h3, hr] <;> rfl
  obtain ⟨k, n, hkn⟩ : ∃ k n, σ.1[p]? = some (k, n) := ⟨(σ.1[p]'hp).1, (σ.1[p]'hp).2, List.getElem?_eq_getElem hp⟩
  rw [hkn] at hK
  by_cases hk : k < 100
  · rw [ze_obj hkn hk, ze_obj hK hk]
    simp only [hfv]
  · by_cases hk2 : k < 103
    · rw [ze_int hkn (by omega) hk2, ze_int hK (by omega) hk2, h1]
    · rw [ze_ref hkn (by omega), ze_ref hK (by omega), h2]
      refine congrArg (fun z => Sum.inl (cA (k - 100), n, Sum.inr (Sum.inr (Sum.inr (Sum.inr z))))) (funext fun j => ?_)
      cases hq : σ.2.2.1 p j with
      | none => rfl
      | some q => show some ((L ++ M).getD q 0) = some (L.getD q 0); rw [hget q j hq]
/-- a cell more -/
theorem zw_push {σ' : zS} {a : Nat} {kn : Nat × Nat} {e : va_E} (hmo : mo ≤ σ.1.length) (hV : zVH σ) (hL : L.length = σ.1.length) (hK : σ'.1 = σ.1 ++ [kn]) (ho : ∀ q, q < σ.1.length → σ'.2.1 q = σ.2.1 q ∧ σ'.2.2.1 q = σ.2.2.1 q ∧ σ'.2.2.2.1 q = σ.2.2.2.1 q) (he : ze ft cA (L ++ [a]) σ' σ.1.length = e) : zw ft cA mo L σ ++ [(a, e)] = zw ft cA mo (L ++ [a]) σ' := by
  have hl' : σ'.1.length = σ.1.length + 1 := by rw [hK, List.length_append]; rfl
  refine List.ext_getElem? fun i => ?_
  by_cases hi : i < σ'.1.length - mo
  · have h2 : (zw ft cA mo (L ++ [a]) σ')[i]? = some ((L ++ [a]).getD (mo + i) 0, ze ft cA (L ++ [a]) σ' (mo + i)) := by
      have h3 := zw_at (ft := ft) (cA := cA) (mo := mo) (L := L ++ [a]) (σ := σ') (p := mo + i) (by omega) (by omega)
      rw [show mo + i - mo = i by omega] at h3
      exact h3
    rw [h2]
    by_cases hip : i < σ.1.length - mo
    · have h3 := zw_at (ft := ft) (cA := cA) (mo := mo) (L := L) (σ := σ) (p := mo + i) (by omega) (by omega)
      rw [show mo + i - mo = i by omega] at h3
      obtain ⟨o1, o2, o3⟩ := ho (mo + i) (by omega)
      rw [List.getElem?_append_left (by rw [zw_len]; exact hip), h3, ze_app hV hL (by omega) (by rw [hK, List.getElem?_append_left (by omega)]) o1 o2 o3]
      rw [List.getD_eq_getElem?_getD, List.getD_eq_getElem?_getD, List.getElem?_append_left (by omega)]
    · have hi2 : mo + i = σ.1.length := by omega
      have hi3 : i = (zw ft cA mo L σ).length := by rw [zw_len]; omega
      have hA : (L ++ [a]).getD σ.1.length 0 = a := by rw [← hL, List.getD_eq_getElem?_getD, List.getElem?_append_right (Nat.le_refl _), Nat.sub_self]; rfl
      rw [hi2, he, hA, hi3, List.getElem?_append_right (Nat.le_refl _), Nat.sub_self]
      rfl
  · rw [List.getElem?_eq_none (by rw [List.length_append, zw_len]; simp; omega), List.getElem?_eq_none (by rw [zw_len]; omega)]
theorem zup_ne {α : Type} {h : Nat → Nat → α} {p f : Nat} {v : α} {q : Nat} (hq : q ≠ p) : zup h p f v q = h q := funext fun j => if_neg fun z => hq z.1
theorem zup_at {α : Type} {h : Nat → Nat → α} {p f : Nat} {v : α} : zup h p f v p f = v := if_pos ⟨rfl, rfl⟩
theorem zup_in {α : Type} {h : Nat → Nat → α} {p f : Nat} {v : α} {j : Nat} (hj : j ≠ f) : zup h p f v p j = h p j := if_neg fun z => hj z.2
theorem zupR_ne {α : Type} {h : Nat → Nat → α} {p : Nat} {v : Nat → α} {q : Nat} (hq : q ≠ p) : zupR h p v q = h q := if_neg hq
theorem zupR_at {α : Type} {h : Nat → Nat → α} {p : Nat} {v : Nat → α} : zupR h p v p = v := if_pos rfl
/-- cells that are not written stay -/
theorem ze_same {σ' : zS} {p : Nat} (hK : σ'.1[p]? = σ.1[p]?) (h1 : σ'.2.1 p = σ.2.1 p) (h2 : σ'.2.2.1 p = σ.2.2.1 p) (h3 : σ'.2.2.2.1 p = σ.2.2.2.1 p) : ze ft cA L σ' p = ze ft cA L σ p := by
  have hfv : ∀ (ty : FieldType) (j : Nat), zfv ty σ' p j = zfv ty σ p j := by
    intro ty j
    cases ty <;> simp only [zfv, h1, h2, h3]
  unfold ze
  rw [List.getD_eq_getElem?_getD, List.getD_eq_getElem?_getD, hK]
  simp only [hfv, h1, h2]
theorem zVH.int {h : Nat → Nat → Int32} {hl : Nat → Nat → Int64} {nc ns : Nat} (hV : zVH σ) : zVH (σ.1, h, σ.2.2.1, hl, nc, ns) := hV
theorem zVH.put {p f q : Nat} (hV : zVH σ) (hq : q < σ.1.length) : zVH (σ.1, σ.2.1, zup σ.2.2.1 p f (some q), σ.2.2.2) := by
  intro a j x hx
  have hx : zup σ.2.2.1 p f (some q) a j = some x := hx
  show x < σ.1.length
  by_cases hz : a = p ∧ j = f
  · obtain ⟨rfl, rfl⟩ := hz
    rw [zup_at] at hx
    cases hx
    exact hq
  · unfold zup at hx
    rw [if_neg hz] at hx
    exact hV a j x hx
theorem zVH.putN {p f : Nat} (hV : zVH σ) : zVH (σ.1, σ.2.1, zup σ.2.2.1 p f none, σ.2.2.2) := by
  intro a j x hx
  have hx : zup σ.2.2.1 p f none a j = some x := hx
  show x < σ.1.length
  by_cases hz : a = p ∧ j = f
  · obtain ⟨rfl, rfl⟩ := hz
    rw [zup_at] at hx
    cases hx
  · unfold zup at hx
    rw [if_neg hz] at hx
    exact hV a j x hx
theorem zVH.new {k n : Nat} (hV : zVH σ) : zVH (znw σ k n) := by
  intro a j x hx
  have hx : zupR σ.2.2.1 σ.1.length (fun _ => none) a j = some x := hx
  show x < (σ.1 ++ [(k, n)]).length
  rw [List.length_append]
  by_cases hz : a = σ.1.length
  · subst hz
    rw [zupR_at] at hx
    cases hx
  · rw [zupR_ne hz] at hx
    have := hV a j x hx
    simp
    omega
theorem zfv_ok {ty : FieldType} {p f : Nat} (hV : zVH σ) : zvk σ.1.length (zfv ty σ p f) := by
  have h : zvk σ.1.length (va_rf (σ.2.2.1 p f)) := by
    cases hq : σ.2.2.1 p f with
    | none => trivial
    | some q => exact hV p f q hq
  cases ty <;> first | exact h | trivial
end ZWLD
