/-! the siege's cells: where they lie -/
def zS1 : List (Nat × Nat) := [(1, 17), (2, 14), (100, 144), (100, 144), (100, 144), (100, 144), (100, 144), (100, 144), (100, 144), (100, 144), (100, 144), (103, 16), (104, 12), (105, 6), (6, 11), (6, 11), (7, 7), (100, 6), (100, 6)] ++ List.replicate 16 (3, 7) ++ List.replicate 12 (4, 6) ++ [(5, 7), (100, 6), (5, 7), (100, 6), (5, 7), (100, 6), (5, 7), (100, 6), (5, 7), (100, 6), (5, 7), (100, 6)]
def zK0 (L : Nat) : zK := [(200, 4), (200, 4), (200, 6), (200, 6), (200, 6), (200, L), (0, 2)] ++ (zS1 ++ zS1)
abbrev zH : Type := Nat → Nat → Int32
abbrev zN (L : Nat) (X : zK) (h : zH) (R : Nat → Nat → Option Nat) (G : Nat → Nat → Int64) (nc ns : Nat) : zS := (zK0 L ++ X, h, R, G, nc, ns)
def zSR (R : Nat → Nat → Option Nat) : Prop := R 6 0 = some 7 ∧ R 7 0 = some 8 ∧ R 7 1 = some 18 ∧ R 7 2 = some 19 ∧ R 7 3 = some 20 ∧ R 7 4 = some 21 ∧ R 7 5 = some 22 ∧ R 7 6 = some 23 ∧ R 23 0 = some 24 ∧ R 23 1 = some 25 ∧ (∀ f, f < 9 → R 8 f = some (9 + f)) ∧ (∀ i, i < 16 → R 18 i = some (26 + i)) ∧ (∀ i, i < 12 → R 19 i = some (42 + i)) ∧ (∀ i, i < 6 → R 20 i = some (54 + 2 * i)) ∧ (∀ i, i < 6 → R (54 + 2 * i) 0 = some (55 + 2 * i))
section ZST
variable {R : Nat → Nat → Option Nat} {L : Nat} {X : zK}
theorem zr_6_0 (S : zSR R) : va_rf (R 6 0) = .ref 7 := congrArg va_rf S.1
theorem zr_7_0 (S : zSR R) : va_rf (R 7 0) = .ref 8 := congrArg va_rf S.2.1
theorem zr_7_1 (S : zSR R) : va_rf (R 7 1) = .ref 18 := congrArg va_rf S.2.2.1
theorem zr_7_2 (S : zSR R) : va_rf (R 7 2) = .ref 19 := congrArg va_rf S.2.2.2.1
theorem zr_7_3 (S : zSR R) : va_rf (R 7 3) = .ref 20 := congrArg va_rf S.2.2.2.2.1
theorem zr_7_4 (S : zSR R) : va_rf (R 7 4) = .ref 21 := congrArg va_rf S.2.2.2.2.2.1
theorem zr_7_5 (S : zSR R) : va_rf (R 7 5) = .ref 22 := congrArg va_rf S.2.2.2.2.2.2.1
theorem zr_7_6 (S : zSR R) : va_rf (R 7 6) = .ref 23 := congrArg va_rf S.2.2.2.2.2.2.2.1
theorem zr_23_0 (S : zSR R) : va_rf (R 23 0) = .ref 24 := congrArg va_rf S.2.2.2.2.2.2.2.2.1
theorem zr_23_1 (S : zSR R) : va_rf (R 23 1) = .ref 25 := congrArg va_rf S.2.2.2.2.2.2.2.2.2.1
theorem zr_8 (S : zSR R) {f : Nat} (hf : f < 9) : va_rf (R 8 f) = .ref (9 + f) := congrArg va_rf (S.2.2.2.2.2.2.2.2.2.2.1 f hf)
theorem zr_gun (S : zSR R) {i : Nat} (hi : i < 16) : va_rf (R 18 i) = .ref (26 + i) := congrArg va_rf (S.2.2.2.2.2.2.2.2.2.2.2.1 i hi)
theorem zr_com (S : zSR R) {i : Nat} (hi : i < 12) : va_rf (R 19 i) = .ref (42 + i) := congrArg va_rf (S.2.2.2.2.2.2.2.2.2.2.2.2.1 i hi)
theorem zr_min (S : zSR R) {i : Nat} (hi : i < 6) : va_rf (R 20 i) = .ref (54 + 2 * i) := congrArg va_rf (S.2.2.2.2.2.2.2.2.2.2.2.2.2.1 i hi)
theorem zr_mrow (S : zSR R) {i : Nat} (hi : i < 6) : va_rf (R (54 + 2 * i) 0) = .ref (55 + 2 * i) := congrArg va_rf (S.2.2.2.2.2.2.2.2.2.2.2.2.2.2 i hi)
theorem zk_gun {i : Nat} (hi : i < 16) : (zK0 L ++ X)[26 + i]? = some (3, 7) := by
  have h : ∀ i, i < 16 → (zK0 L)[26 + i]? = some (3, 7) := by
    intro i hi
    match i, hi with
    | 0, _ | 1, _ | 2, _ | 3, _ | 4, _ | 5, _ | 6, _ | 7, _ | 8, _ | 9, _ | 10, _ | 11, _ | 12, _ | 13, _ | 14, _ | 15, _ => rfl
    | n + 16, h9 => exact absurd h9 (by omega)
  rw [List.getElem?_append_left (List.getElem?_eq_some_iff.mp (h i hi)).1]
  exact h i hi
theorem zk_com {i : Nat} (hi : i < 12) : (zK0 L ++ X)[42 + i]? = some (4, 6) := by
  have h : ∀ i, i < 12 → (zK0 L)[42 + i]? = some (4, 6) := by
    intro i hi
    match i, hi with
    | 0, _ | 1, _ | 2, _ | 3, _ | 4, _ | 5, _ | 6, _ | 7, _ | 8, _ | 9, _ | 10, _ | 11, _ => rfl
    | n + 12, h9 => exact absurd h9 (by omega)
  rw [List.getElem?_append_left (List.getElem?_eq_some_iff.mp (h i hi)).1]
  exact h i hi
theorem zk_min {i : Nat} (hi : i < 6) : (zK0 L ++ X)[54 + 2 * i]? = some (5, 7) := by
  have h : ∀ i, i < 6 → (zK0 L)[54 + 2 * i]? = some (5, 7) := by
    intro i hi
    match i, hi with
    | 0, _ | 1, _ | 2, _ | 3, _ | 4, _ | 5, _ => rfl
    | n + 6, h9 => exact absurd h9 (by omega)
  rw [List.getElem?_append_left (List.getElem?_eq_some_iff.mp (h i hi)).1]
  exact h i hi
theorem zk_mrow {i : Nat} (hi : i < 6) : (zK0 L ++ X)[55 + 2 * i]? = some (100, 6) := by
  have h : ∀ i, i < 6 → (zK0 L)[55 + 2 * i]? = some (100, 6) := by
    intro i hi
    match i, hi with
    | 0, _ | 1, _ | 2, _ | 3, _ | 4, _ | 5, _ => rfl
    | n + 6, h9 => exact absurd h9 (by omega)
  rw [List.getElem?_append_left (List.getElem?_eq_some_iff.mp (h i hi)).1]
  exact h i hi
end ZST
section ZRET
variable {ro : Nat → Int32 → zS → Option (zO × zS)} {y pc r1 r2 r3 : Nat} {ls : zLs} {st rest : List Value} {σ : zS} {Q : zO → zS → Prop} {tg : List Nat}
theorem znb0 : narrow .boolean (.int 0) = .int 0 := by decide
theorem znb1 : narrow .boolean (.int 1) = .int 1 := by decide
theorem zW.iret {v : Int32} {ty : FieldType} (he : zlk (zmC (zP y)) pc = some (.ireturn, r1, r2, r3, tg)) (hr : zmR (zP y) = some ty) (hn : narrow ty (.int v) = .int v) (hq : Q (.inl (some (.int v))) σ) : zW ro y pc ls [.int v] σ Q := by
  refine zW.end_ he (fun rec => ?_) hq
  dsimp only [zst]
  rw [hr]
  dsimp only
  rw [if_pos hn]
theorem zW.aret {a : Nat} (he : zlk (zmC (zP y)) pc = some (.areturn, r1, r2, r3, tg)) (hq : Q (.inl (some (.ref a))) σ) : zW ro y pc ls [.ref a] σ Q := zW.end_ he (fun rec => rfl) hq
theorem zW.vret (he : zlk (zmC (zP y)) pc = some (.return_, r1, r2, r3, tg)) (hq : Q (.inl none) σ) : zW ro y pc ls [] σ Q := zW.end_ he (fun rec => rfl) hq
theorem zW.thr {x : Nat} (he : zlk (zmC (zP y)) pc = some (.new x, r1, r2, 1, tg)) (hq : Q (.inr r1) (zthr σ)) : zW ro y pc ls [] σ Q := zW.end_ he (fun rec => rfl) hq
end ZRET
theorem zin_lt {x N : Int32} {n : Nat} (h0 : ¬ x < 0) (h1 : ¬ N ≤ x) (hN : N.toInt = n) : zin x n = true := by
  unfold zin
  rw [decide_eq_true_eq]
  rintro (q | q)
  · exact h0 q
  · refine h1 (Int32.le_iff_toInt_le.mpr ?_)
    have h2 : ¬ x.toInt < 0 := fun z => h0 (Int32.lt_iff_toInt_lt.mpr (by rw [Int32.toInt_zero]; exact z))
    have h3 : x.toNatClampNeg = x.toInt.toNat := rfl
    rw [h3] at q
    omega
theorem ztab_out {x v : Int32} {lo hi : Int} (c : x.toInt < lo ∨ hi < x.toInt) (h : lo ≤ v.toInt ∧ v.toInt ≤ hi) : ¬ x = v := fun q => by
  rw [q] at c
  omega
theorem ztab_in {x v : Int32} {lo : Int} {j : Nat} (c : x.toInt = lo + j) (h : v.toInt = lo + j) : x = v := Int32.toInt_inj.mp (c.trans h.symm)
theorem znl {x : Int32} (h : 0 ≤ x) : ¬ x < 0 := fun q => by
  have h1 := Int32.le_iff_toInt_le.mp h
  have h2 := Int32.lt_iff_toInt_lt.mp q
  omega
theorem znu {x N : Int32} (h : x < N) : ¬ N ≤ x := fun q => by
  have h1 := Int32.lt_iff_toInt_lt.mp h
  have h2 := Int32.le_iff_toInt_le.mp q
  omega
