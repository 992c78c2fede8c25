/-! men are mustered (printed by program) -/
section ZB
variable {ro : Nat → Int32 → zS → Option (zO × zS)} {L : Nat} {X : zK} {s : zJ} {R : Nat → Nat → Option Nat} {G : Nat → Nat → Int64} {nc ns : Nat} {Q : zO → zS → Prop} {g : Nat → Int} {U F T B ph : Int}
def zMu (c : Int) (s0 : zJ) (n m : Nat) (s : zJ) : Prop := (s 7 8 = (n : Int) ∧ s 7 7 = (m : Int)) ∧ (∀ i : Nat, i < 12 → (i < n → s (42 + i) 0 = (if i < 4 then 0 else 1) ∧ (0 ≤ s (42 + i) 1 ∧ s (42 + i) 1 < c) ∧ 60 ≤ s (42 + i) 2 ∧ s (42 + i) 2 ≤ 200) ∧ (n ≤ i → s (42 + i) 0 = -1 ∧ s (42 + i) 1 = -1 ∧ s (42 + i) 2 = 0)) ∧ (∀ i : Nat, i < 16 → (i < m → s (26 + i) 0 = (if i < 3 then 0 else 1) ∧ (0 ≤ s (26 + i) 1 ∧ s (26 + i) 1 < c) ∧ 1 ≤ s (26 + i) 2 ∧ s (26 + i) 2 ≤ 3) ∧ (m ≤ i → s (26 + i) 0 = -1 ∧ s (26 + i) 1 = -1 ∧ s (26 + i) 2 = 0)) ∧ (∀ o : Nat, o = 21 ∨ o = 22 → (0 ≤ s o 0 ∧ s o 0 ≤ 1000) ∧ (0 ≤ s o 1 ∧ s o 1 ≤ 1000) ∧ (0 ≤ s o 2 ∧ s o 2 ≤ 1000)) ∧ ∀ a f, ¬ (26 ≤ a ∧ a < 54 ∧ f ≤ 2) → ¬ (a = 7 ∧ (f = 7 ∨ f = 8)) → ¬ ((a = 21 ∨ a = 22) ∧ f ≤ 2) → s a f = s0 a f
theorem zMu_0 {c : Int} {s : zJ} (h1 : ∀ i : Nat, i < 16 → s (26 + i) 0 = -1 ∧ s (26 + i) 1 = -1 ∧ s (26 + i) 2 = 0) (h2 : ∀ i : Nat, i < 12 → s (42 + i) 0 = -1 ∧ s (42 + i) 1 = -1 ∧ s (42 + i) 2 = 0) (h3 : s 7 7 = 0 ∧ s 7 8 = 0) (h4 : ∀ o : Nat, o = 21 ∨ o = 22 → (0 ≤ s o 0 ∧ s o 0 ≤ 1000) ∧ (0 ≤ s o 1 ∧ s o 1 ≤ 1000) ∧ (0 ≤ s o 2 ∧ s o 2 ≤ 1000)) : zMu c s 0 0 s := ⟨⟨h3.2, h3.1⟩, fun i hi => ⟨fun h => absurd h (Nat.not_lt_zero i), fun _ => h2 i hi⟩, fun i hi => ⟨fun h => absurd h (Nat.not_lt_zero i), fun _ => h1 i hi⟩, h4, fun _ _ _ _ _ => rfl⟩
theorem zMu_c {c : Int} {s0 s : zJ} {n m : Nat} {v x y : Int} (M : zMu c s0 n m s) (hn : n < 12) (hv : v = if n < 4 then 0 else 1) (hx : 0 ≤ x ∧ x < c) (hy : 60 ≤ y ∧ y ≤ 200) : zMu c s0 (n + 1) m (zup (zup (zup (zup s (42 + n) 0 v) (42 + n) 1 x) (42 + n) 2 y) 7 8 (s 7 8 + 1)) := by
  obtain ⟨⟨a1, a2⟩, a3, a4, a5, a6⟩ := M
  have o : ∀ p f, p ≠ 42 + n → ¬ (p = 7 ∧ f = 8) → (zup (zup (zup (zup s (42 + n) 0 v) (42 + n) 1 x) (42 + n) 2 y) 7 8 (s 7 8 + 1)) p f = s p f := fun p f hp hq => by
    rw [zup_nj hq, zup_n1 hp, zup_n1 hp, zup_n1 hp]
  have oq : ∀ f, (zup (zup (zup (zup s (42 + n) 0 v) (42 + n) 1 x) (42 + n) 2 y) 7 8 (s 7 8 + 1)) (42 + n) f = if f = 2 then y else if f = 1 then x else if f = 0 then v else s (42 + n) f := fun f => by
    rw [zup_nj (by omega), zup_e1, zup_e1, zup_e1]
  refine ⟨⟨?_, ?_⟩, fun i hi => ?_, fun i hi => ?_, fun p hp => ?_, fun p f h1 h2 h3 => ?_⟩
  · rw [zup_ej, a1]; omega
  · rw [o 7 7 (by omega) (by omega)]; exact a2
  · have q := a3 i hi
    by_cases e : i = n
    · rw [e, oq 0, oq 1, oq 2]
      refine ⟨fun _ => ⟨hv, hx, hy.1, hy.2⟩, fun h => absurd h (by omega)⟩
    · rw [o _ 0 (by omega) (by omega), o _ 1 (by omega) (by omega), o _ 2 (by omega) (by omega)]
      exact ⟨fun h => q.1 (by omega), fun h => q.2 (by omega)⟩
  · rw [o _ 0 (by omega) (by omega), o _ 1 (by omega) (by omega), o _ 2 (by omega) (by omega)]
    exact a4 i hi
  · rw [o p 0 (by omega) (by omega), o p 1 (by omega) (by omega), o p 2 (by omega) (by omega)]
    exact a5 p hp
  · by_cases e : p = 42 + n
    · rw [e, oq f, if_neg (by omega), if_neg (by omega), if_neg (by omega), ← e]
      exact a6 p f h1 h2 h3
    · rw [o p f e (by omega)]
      exact a6 p f h1 h2 h3
theorem zMu_g {c : Int} {s0 s : zJ} {n m : Nat} {v x y : Int} (M : zMu c s0 m n s) (hn : n < 16) (hv : v = if n < 3 then 0 else 1) (hx : 0 ≤ x ∧ x < c) (hy : 1 ≤ y ∧ y ≤ 3) : zMu c s0 m (n + 1) (zup (zup (zup (zup s (26 + n) 0 v) (26 + n) 1 x) (26 + n) 2 y) 7 7 (s 7 7 + 1)) := by
  obtain ⟨⟨a1, a2⟩, a3, a4, a5, a6⟩ := M
  have o : ∀ p f, p ≠ 26 + n → ¬ (p = 7 ∧ f = 7) → (zup (zup (zup (zup s (26 + n) 0 v) (26 + n) 1 x) (26 + n) 2 y) 7 7 (s 7 7 + 1)) p f = s p f := fun p f hp hq => by
    rw [zup_nj hq, zup_n1 hp, zup_n1 hp, zup_n1 hp]
  have oq : ∀ f, (zup (zup (zup (zup s (26 + n) 0 v) (26 + n) 1 x) (26 + n) 2 y) 7 7 (s 7 7 + 1)) (26 + n) f = if f = 2 then y else if f = 1 then x else if f = 0 then v else s (26 + n) f := fun f => by
    rw [zup_nj (by omega), zup_e1, zup_e1, zup_e1]
  refine ⟨⟨?_, ?_⟩, fun i hi => ?_, fun i hi => ?_, fun p hp => ?_, fun p f h1 h2 h3 => ?_⟩
  · rw [o 7 8 (by omega) (by omega)]; exact a1
  · rw [zup_ej, a2]; omega
  · rw [o _ 0 (by omega) (by omega), o _ 1 (by omega) (by omega), o _ 2 (by omega) (by omega)]
    exact a3 i hi
  · have q := a4 i hi
    by_cases e : i = n
    · rw [e, oq 0, oq 1, oq 2]
      refine ⟨fun _ => ⟨hv, hx, hy.1, hy.2⟩, fun h => absurd h (by omega)⟩
    · rw [o _ 0 (by omega) (by omega), o _ 1 (by omega) (by omega), o _ 2 (by omega) (by omega)]
      exact ⟨fun h => q.1 (by omega), fun h => q.2 (by omega)⟩
  · rw [o p 0 (by omega) (by omega), o p 1 (by omega) (by omega), o p 2 (by omega) (by omega)]
    exact a5 p hp
  · by_cases e : p = 26 + n
    · rw [e, oq f, if_neg (by omega), if_neg (by omega), if_neg (by omega), ← e]
      exact a6 p f h1 h2 h3
    · rw [o p f e (by omega)]
      exact a6 p f h1 h2 h3
theorem zMu_p {c : Int} {s0 s : zJ} {n m o : Nat} {v x y : Int} (M : zMu c s0 n m s) (ho : o = 21 ∨ o = 22) (hv : 0 ≤ v ∧ v ≤ 1000) (hx : 0 ≤ x ∧ x ≤ 1000) (hy : 0 ≤ y ∧ y ≤ 1000) : zMu c s0 n m (zup (zup (zup s o 0 v) o 1 x) o 2 y) := by
  obtain ⟨⟨a1, a2⟩, a3, a4, a5, a6⟩ := M
  have e : ∀ p f, p ≠ o → (zup (zup (zup s o 0 v) o 1 x) o 2 y) p f = s p f := fun p f hp => by
    rw [zup_n1 hp, zup_n1 hp, zup_n1 hp]
  have eq : ∀ f, (zup (zup (zup s o 0 v) o 1 x) o 2 y) o f = if f = 2 then y else if f = 1 then x else if f = 0 then v else s o f := fun f => by
    rw [zup_e1, zup_e1, zup_e1]
  refine ⟨⟨?_, ?_⟩, fun i hi => ?_, fun i hi => ?_, fun p hp => ?_, fun p f h1 h2 h3 => ?_⟩
  · rw [e 7 8 (by omega)]; exact a1
  · rw [e 7 7 (by omega)]; exact a2
  · rw [e _ 0 (by omega), e _ 1 (by omega), e _ 2 (by omega)]; exact a3 i hi
  · rw [e _ 0 (by omega), e _ 1 (by omega), e _ 2 (by omega)]; exact a4 i hi
  · by_cases q : p = o
    · rw [q, eq 0, eq 1, eq 2]; exact ⟨hv, hx, hy⟩
    · rw [e p 0 q, e p 1 q, e p 2 q]; exact a5 p hp
  · by_cases q : p = o
    · rw [q, eq f, if_neg (by omega), if_neg (by omega), if_neg (by omega), ← q]
      exact a6 p f h1 h2 h3
    · rw [e p f q]; exact a6 p f h1 h2 h3
def zMv (c : Int) (s0 s1 : zJ) : Prop := ∃ (s2 : zJ) (a b e : Int), zMu c s0 8 6 s2 ∧ (200 ≤ a ∧ a ≤ 296) ∧ (5 ≤ b ∧ b ≤ 14) ∧ s1 = zup (zup (zup s2 7 14 a) 7 15 b) 23 4 e
theorem zsm_ge {f : Nat → Int} : ∀ {n i : Nat}, (∀ j, j < n → 0 ≤ f j) → i < n → f i ≤ zsm f n
  | 0, i, _, hi => absurd hi (Nat.not_lt_zero i)
  | n + 1, i, h, hi => by
    have hn : 0 ≤ zsm f n := by
      have : ∀ k, k ≤ n → 0 ≤ zsm f k := by
        intro k
        induction k with
        | zero => intro _; exact Int.le_refl 0
        | succ k ih =>
          intro hk
          show 0 ≤ zsm f k + f k
          have q1 := ih (by omega)
          have q2 := h k (by omega)
          omega
      exact this n (Nat.le_refl n)
    show f i ≤ zsm f n + f n
    by_cases e : i = n
    · rw [e]; omega
    · have q1 := zsm_ge (f := f) (n := n) (i := i) (fun j hj => h j (by omega)) (by omega)
      have q2 := h n (by omega)
      omega
theorem zMv_c {c : Int} {s0 s1 : zJ} (H : zMv c s0 s1) : (1 ≤ zco s1 0 12 ∧ 1 ≤ zco s1 1 12) ∧ ∀ i : Nat, i < 12 → (-1 ≤ s1 (42 + i) 0 ∧ s1 (42 + i) 0 ≤ 1) ∧ (0 ≤ s1 (42 + i) 2 ∧ s1 (42 + i) 2 ≤ 200) := by
  obtain ⟨s2, a, b, e, M, -, -, rfl⟩ := H
  have o : ∀ i f, (zup (zup (zup s2 7 14 a) 7 15 b) 23 4 e) (42 + i) f = s2 (42 + i) f := fun i f => by
    rw [zup_n1 (by omega), zup_n1 (by omega), zup_n1 (by omega)]
  have k : ∀ d : Int, ∀ j : Nat, j < 12 → (0 : Int) ≤ (if (zup (zup (zup s2 7 14 a) 7 15 b) 23 4 e) (42 + j) 0 = d ∧ 0 < (zup (zup (zup s2 7 14 a) 7 15 b) 23 4 e) (42 + j) 2 then 1 else 0) := fun d j _ => by
    omega
  have q0 := (M.2.1 0 (by decide)).1 (by decide)
  have q4 := (M.2.1 4 (by decide)).1 (by decide)
  rw [if_pos (by decide)] at q0
  rw [if_neg (by decide)] at q4
  refine ⟨⟨?_, ?_⟩, fun i hi => ?_⟩
  · have z := zsm_ge (i := 0) (k 0) (by decide)
    rw [o 0 0, o 0 2, if_pos ⟨q0.1, by omega⟩] at z
    exact z
  · have z := zsm_ge (i := 4) (k 1) (by decide)
    rw [o 4 0, o 4 2, if_pos ⟨q4.1, by omega⟩] at z
    exact z
  · rw [o i 0, o i 2]
    have q := M.2.1 i hi
    by_cases h : i < 8
    · have q1 := q.1 h
      omega
    · have q1 := q.2 (by omega)
      omega
theorem zwh {w h : Int} (hw : 8 ≤ w ∧ w ≤ 12) (hh : 8 ≤ h ∧ h ≤ 12) : 64 ≤ w * h ∧ w * h ≤ 144 ∧ 6 * w + 6 < w * h := by
  rcases (by omega : w = 8 ∨ w = 9 ∨ w = 10 ∨ w = 11 ∨ w = 12) with q | q | q | q | q <;> subst q <;> omega
end ZB
