/-! what holds of a siege that goes on (printed by program) -/
def zsm (f : Nat → Int) : Nat → Int
  | 0 => 0
  | n + 1 => zsm f n + f n
theorem zsm_eq {f k : Nat → Int} : ∀ {n : Nat}, (∀ j, j < n → k j = f j) → zsm k n = zsm f n
  | 0, _ => rfl
  | n + 1, h => by
    show zsm k n + k n = zsm f n + f n
    rw [zsm_eq (fun j hj => h j (Nat.lt_succ_of_lt hj)), h n (Nat.lt_succ_self n)]
theorem zsm_up {f k : Nat → Int} {i : Nat} (h : ∀ j, j ≠ i → k j = f j) : ∀ n : Nat, zsm k n = zsm f n + (if i < n then k i - f i else 0)
  | 0 => by simp [zsm]
  | n + 1 => by
    show zsm k n + k n = zsm f n + f n + _
    rw [zsm_up h n]
    by_cases e : n = i
    · rw [e, if_neg (Nat.lt_irrefl i), if_pos (Nat.lt_succ_self i)]
      omega
    · rw [h n e]
      by_cases c : i < n
      · rw [if_pos c, if_pos (by omega)]
        omega
      · rw [if_neg c, if_neg (by omega)]
        omega
theorem zsm_nn {f : Nat → Int} : ∀ {n : Nat}, (∀ j, j < n → 0 ≤ f j) → 0 ≤ zsm f n
  | 0, _ => Int.le_refl 0
  | n + 1, h => by
    have h1 := zsm_nn (f := f) (n := n) (fun j hj => h j (Nat.lt_succ_of_lt hj))
    have h2 := h n (Nat.lt_succ_self n)
    show 0 ≤ zsm f n + f n
    omega
theorem zsm_le {f : Nat → Int} {m : Int} : ∀ {n : Nat}, (∀ j, j < n → f j ≤ m) → zsm f n ≤ m * n
  | 0, _ => by simp [zsm]
  | n + 1, h => by
    have h1 := zsm_le (f := f) (n := n) (fun j hj => h j (Nat.lt_succ_of_lt hj))
    have h2 := h n (Nat.lt_succ_self n)
    show zsm f n + f n ≤ m * ((n : Int) + 1)
    rw [Int.mul_add, Int.mul_one]
    omega
def zb (c : Prop) (h : Decidable c) : Int := if c then 1 else 0
/-- how many squares of a work -/
def zcn (s : zJ) (w : Int) (n : Nat) : Int := zsm (fun k => if s 11 k = w then 1 else 0) n
/-- the men of a side -/
def zmm (s : zJ) (d : Int) (n : Nat) : Int := zsm (fun i => if s (42 + i) 0 = d then s (42 + i) 2 else 0) n
/-- what lies in the whole mines of a side -/
def zmc (s : zJ) (d : Int) (n : Nat) : Int := zsm (fun i => if s (54 + 2 * i) 1 = d ∧ (s (54 + 2 * i) 6 = 0 ∨ s (54 + 2 * i) 6 = 1) then s (54 + 2 * i) 4 else 0) n

def zA (g : Nat → Int) (s : zJ) : Prop := (s 8 9 = g 0 ∧ s 8 10 = g 1 ∧ s 8 11 = g 2 ∧ s 8 12 = 0 ∧ s 8 13 = g 3) ∧ (8 ≤ g 0 ∧ g 0 ≤ 12 ∧ 8 ≤ g 1 ∧ g 1 ≤ 12 ∧ 64 ≤ g 2 ∧ g 2 ≤ 144 ∧ 0 < g 3 ∧ g 3 < g 2) ∧ (∀ k : Nat, (k : Int) < g 2 → 0 ≤ s 14 k ∧ s 14 k < g 0 ∧ 0 ≤ s 15 k ∧ s 15 k < g 1 ∧ (0 < s 15 k → g 0 ≤ k) ∧ (s 15 k < g 1 - 1 → k + g 0 < g 2) ∧ (s 14 k < g 0 - 1 → (k : Int) + 1 < g 2) ∧ (0 < s 14 k → 1 ≤ (k : Int))) ∧ (∀ p k : Nat, p < 5 → k < 6 → 0 ≤ s p k ∧ s p k ≤ 12)
def zD (B : Int) (s : zJ) : Prop := ∀ k : Nat, k < 144 → (0 ≤ s 9 k ∧ s 9 k ≤ 9) ∧ (0 ≤ s 10 k ∧ s 10 k ≤ 3) ∧ (0 ≤ s 11 k ∧ s 11 k ≤ 7) ∧ (0 ≤ s 12 k ∧ s 12 k ≤ 99) ∧ (0 ≤ s 13 k ∧ s 13 k ≤ B)
def zE (g : Nat → Int) (s : zJ) : Prop := (∀ k : Nat, k < 144 → s 11 k = 1 → 1 ≤ s 12 k) ∧ s 11 0 = 0 ∧ s 11 (g 3).toNat = 3
def zL1 (g : Nat → Int) (F B : Int) (s : zJ) : Prop := zcn s 1 (g 2).toNat + zcn s 6 (g 2).toNat ≤ g 6 ∧ g 6 ≤ zcn s 1 (g 2).toNat + s 7 13 ∧ F ≤ s 7 13 ∧ s 7 13 ≤ B ∧ 0 ≤ F
def zG1 (g : Nat → Int) (B : Int) (s : zJ) : Prop := ∀ i : Nat, i < 16 → (-1 ≤ s (26 + i) 0 ∧ s (26 + i) 0 ≤ 1) ∧ (-1 ≤ s (26 + i) 1 ∧ s (26 + i) 1 < g 2) ∧ (0 ≤ s (26 + i) 2 ∧ s (26 + i) 2 ≤ 3) ∧ (0 ≤ s (26 + i) 3 ∧ s (26 + i) 3 ≤ 3) ∧ (0 ≤ s (26 + i) 4 ∧ s (26 + i) 4 ≤ B) ∧ (0 ≤ s (26 + i) 5 ∧ s (26 + i) 5 ≤ 2) ∧ (-1 ≤ s (26 + i) 6 ∧ s (26 + i) 6 < g 2)
def zG2 (s : zJ) : Prop := ∀ i : Nat, i < 16 → (i < 3 → s (26 + i) 0 = 0) ∧ (3 ≤ i → i < 6 → s (26 + i) 0 = 1) ∧ (6 ≤ i → s (26 + i) 0 = -1) ∧ (i < 6 → 1 ≤ s (26 + i) 2 ∧ 0 ≤ s (26 + i) 1) ∧ (s (26 + i) 5 = 0 → s (26 + i) 4 ≤ 9)
def zC1 (g : Nat → Int) (s : zJ) : Prop := ∀ i : Nat, i < 12 → (-1 ≤ s (42 + i) 0 ∧ s (42 + i) 0 ≤ 1) ∧ (-1 ≤ s (42 + i) 1 ∧ s (42 + i) 1 < g 2) ∧ (0 ≤ s (42 + i) 2 ∧ s (42 + i) 2 ≤ 200) ∧ (0 ≤ s (42 + i) 3 ∧ s (42 + i) 3 ≤ 12) ∧ (0 ≤ s (42 + i) 4 ∧ s (42 + i) 4 ≤ 6) ∧ (-1 ≤ s (42 + i) 5 ∧ s (42 + i) 5 < g 2)
def zC2 (s : zJ) : Prop := ∀ i : Nat, i < 12 → (i < 4 → s (42 + i) 0 = 0) ∧ (4 ≤ i → i < 8 → s (42 + i) 0 = 1) ∧ (8 ≤ i → s (42 + i) 0 = -1 ∧ s (42 + i) 2 = 0) ∧ (i < 8 → 0 ≤ s (42 + i) 1) ∧ ((s (42 + i) 4 = 0 ∨ s (42 + i) 4 = 2 ∨ s (42 + i) 4 = 3) → s (42 + i) 5 = -1) ∧ (¬ (s (42 + i) 4 = 0 ∨ s (42 + i) 4 = 2 ∨ s (42 + i) 4 = 3) → 0 ≤ s (42 + i) 5)
def zM1 (g : Nat → Int) (s : zJ) : Prop := ∀ i : Nat, i < 6 → (-1 ≤ s (54 + 2 * i) 1 ∧ s (54 + 2 * i) 1 ≤ 1) ∧ (0 ≤ s (54 + 2 * i) 2 ∧ s (54 + 2 * i) 2 ≤ 6) ∧ (0 ≤ s (54 + 2 * i) 6 ∧ s (54 + 2 * i) 6 ≤ 3) ∧ (∀ j : Nat, j < 6 → -1 ≤ s (55 + 2 * i) j ∧ s (55 + 2 * i) j < g 2)
def zM2 (s : zJ) : Prop := (0 ≤ s 7 9 ∧ s 7 9 ≤ 6) ∧ ∀ i : Nat, i < 6 → ((i : Int) < s 7 9 → 0 ≤ s (54 + 2 * i) 1 ∧ 1 ≤ s (54 + 2 * i) 2) ∧ (s 7 9 ≤ i → s (54 + 2 * i) 1 = -1 ∧ s (54 + 2 * i) 4 = 0)
def zS2 (B : Int) (s : zJ) : Prop := ∀ o : Nat, o = 21 ∨ o = 22 → (0 ≤ s o 0 ∧ s o 0 ≤ B) ∧ (0 ≤ s o 1 ∧ s o 1 ≤ B) ∧ (0 ≤ s o 2 ∧ s o 2 ≤ B) ∧ (0 ≤ s o 3 ∧ s o 3 ≤ 100)
def zP1 (s : zJ) : Prop := s 21 10 = s 21 0 + zmc s 0 6 + s 21 6 ∧ s 22 10 = s 22 0 + zmc s 1 6 + s 22 6
def zN1 (g : Nat → Int) (U : Int) (s : zJ) : Prop := zmm s 0 12 + s 21 7 + s 21 9 = g 4 ∧ zmm s 1 12 + s 22 7 + s 22 9 = g 5 ∧ zmm s 0 12 + zmm s 1 12 ≤ U
def zZ1 (g : Nat → Int) (T B ph : Int) (s : zJ) : Prop := (s 7 7 = 6 ∧ s 7 8 = 8 ∧ s 7 10 = T ∧ s 7 11 = ph ∧ 0 ≤ T ∧ T ≤ 3000 ∧ 1 ≤ ph ∧ ph ≤ 2 ∧ -1 ≤ s 7 12 ∧ s 7 12 ≤ 5 ∧ 0 ≤ s 7 14 ∧ s 7 14 ≤ 1000 ∧ 0 ≤ s 7 15 ∧ s 7 15 ≤ 14 ∧ 0 ≤ B ∧ B ≤ 1000000000) ∧ (ph = 1 → s 7 12 = -1 ∧ s 7 14 = g 7) ∧ (ph = 2 → s 7 14 = g 7 ∨ s 7 14 = g 7 / 2)
def zX1 (g : Nat → Int) (s : zJ) : Prop := ∀ p : Nat, 66 ≤ p → (p : Int) < g 8 → s p 0 = g (1000 + 2 * p) ∧ s p 1 = g (1001 + 2 * p)
def zV (g : Nat → Int) (U F T B ph : Int) (s : zJ) : Prop := zA g s ∧ zD B s ∧ zE g s ∧ zL1 g F B s ∧ zG1 g B s ∧ zG2  s ∧ zC1 g s ∧ zC2  s ∧ zM1 g s ∧ zM2  s ∧ zS2 B s ∧ zP1  s ∧ zN1 g U s ∧ zZ1 g T B ph s ∧ zX1 g s
theorem zA_fr {g : Nat → Int}  {s s' : zJ} (h : ∀ p f : Nat, p < 5 ∨ p = 8 ∨ p = 14 ∨ p = 15 → s' p f = s p f) (q : zA g s) : zA g s' := by
  refine ⟨?_, q.2.1, fun k hk => ?_, fun p k hp hk => ?_⟩
  · rw [h 8 9 (by omega), h 8 10 (by omega), h 8 11 (by omega), h 8 12 (by omega), h 8 13 (by omega)]
    exact q.1
  · have q1 := q.2.2.1 k hk
    rw [h 14 k (by omega), h 15 k (by omega)]
    exact q1
  · rw [h p k (by omega)]
    exact q.2.2.2 p k hp hk
theorem zD_fr {B : Int}  {s s' : zJ} (h : ∀ p f : Nat, 9 ≤ p ∧ p ≤ 13 → s' p f = s p f) (q : zD B s) : zD B s' := by
  intro k hk
  have q1 := q k hk
  rw [h 9 k (by omega), h 10 k (by omega), h 11 k (by omega), h 12 k (by omega), h 13 k (by omega)]
  exact q1
theorem zE_fr {g : Nat → Int}  {s s' : zJ} (h : ∀ p f : Nat, p = 11 ∨ p = 12 → s' p f = s p f) (q : zE g s) : zE g s' := by
  refine ⟨fun k hk => ?_, ?_, ?_⟩
  · rw [h 11 k (by omega), h 12 k (by omega)]
    exact q.1 k hk
  · rw [h 11 0 (by omega)]
    exact q.2.1
  · rw [h 11 _ (by omega)]
    exact q.2.2
theorem zL1_fr {g : Nat → Int} {F B : Int}  {s s' : zJ} (h : ∀ p f : Nat, p = 11 ∨ (p = 7 ∧ f = 13) → s' p f = s p f) (q : zL1 g F B s) : zL1 g F B s' := by
  have e : ∀ w n, zcn s' w n = zcn s w n := fun w n => zsm_eq (fun j _ => by rw [h 11 j (by omega)])
  unfold zL1
  rw [e, e, h 7 13 (by omega)]
  exact q
theorem zG1_fr {g : Nat → Int} {B : Int}  {s s' : zJ} (h : ∀ p f : Nat, 26 ≤ p ∧ p < 42 ∧ f ≤ 6 → s' p f = s p f) (q : zG1 g B s) : zG1 g B s' := by
  intro i hi
  have q1 := q i hi
  rw [h (26 + i) 0 (by omega), h (26 + i) 1 (by omega), h (26 + i) 2 (by omega), h (26 + i) 3 (by omega), h (26 + i) 4 (by omega), h (26 + i) 5 (by omega), h (26 + i) 6 (by omega)]
  exact q1
theorem zG2_fr  {s s' : zJ} (h : ∀ p f : Nat, 26 ≤ p ∧ p < 42 ∧ (f ≤ 2 ∨ f = 4 ∨ f = 5) → s' p f = s p f) (q : zG2  s) : zG2  s' := by
  intro i hi
  have q1 := q i hi
  rw [h (26 + i) 0 (by omega), h (26 + i) 2 (by omega), h (26 + i) 1 (by omega), h (26 + i) 5 (by omega), h (26 + i) 4 (by omega)]
  exact q1
theorem zC1_fr {g : Nat → Int}  {s s' : zJ} (h : ∀ p f : Nat, 42 ≤ p ∧ p < 54 ∧ f ≤ 5 → s' p f = s p f) (q : zC1 g s) : zC1 g s' := by
  intro i hi
  have q1 := q i hi
  rw [h (42 + i) 0 (by omega), h (42 + i) 1 (by omega), h (42 + i) 2 (by omega), h (42 + i) 3 (by omega), h (42 + i) 4 (by omega), h (42 + i) 5 (by omega)]
  exact q1
theorem zC2_fr  {s s' : zJ} (h : ∀ p f : Nat, 42 ≤ p ∧ p < 54 ∧ f ≠ 3 ∧ f ≤ 5 → s' p f = s p f) (q : zC2  s) : zC2  s' := by
  intro i hi
  have q1 := q i hi
  rw [h (42 + i) 0 (by omega), h (42 + i) 2 (by omega), h (42 + i) 1 (by omega), h (42 + i) 4 (by omega), h (42 + i) 5 (by omega)]
  exact q1
theorem zM1_fr {g : Nat → Int}  {s s' : zJ} (h : ∀ p f : Nat, 54 ≤ p ∧ p < 66 ∧ (p % 2 = 1 ∨ (f = 1 ∨ f = 2 ∨ f = 6)) → s' p f = s p f) (q : zM1 g s) : zM1 g s' := by
  intro i hi
  have q1 := q i hi
  rw [h (54 + 2 * i) 1 (by omega), h (54 + 2 * i) 2 (by omega), h (54 + 2 * i) 6 (by omega)]
  exact ⟨q1.1, q1.2.1, q1.2.2.1, fun j hj => by rw [h (55 + 2 * i) j (by omega)]; exact q1.2.2.2 j hj⟩
theorem zM2_fr  {s s' : zJ} (h : ∀ p f : Nat, (54 ≤ p ∧ p < 66 ∧ p % 2 = 0 ∧ (f = 1 ∨ f = 2 ∨ f = 4)) ∨ (p = 7 ∧ f = 9) → s' p f = s p f) (q : zM2  s) : zM2  s' := by
  refine ⟨by rw [h 7 9 (by omega)]; exact q.1, fun i hi => ?_⟩
  have q1 := q.2 i hi
  rw [h 7 9 (by omega), h (54 + 2 * i) 1 (by omega), h (54 + 2 * i) 2 (by omega), h (54 + 2 * i) 4 (by omega)]
  exact q1
theorem zS2_fr {B : Int}  {s s' : zJ} (h : ∀ p f : Nat, (p = 21 ∨ p = 22) ∧ f ≤ 3 → s' p f = s p f) (q : zS2 B s) : zS2 B s' := by
  intro o ho
  have q1 := q o ho
  rw [h o 0 (by omega), h o 1 (by omega), h o 2 (by omega), h o 3 (by omega)]
  exact q1
theorem zP1_fr  {s s' : zJ} (h : ∀ p f : Nat, ((p = 21 ∨ p = 22) ∧ (f = 0 ∨ f = 6 ∨ f = 10)) ∨ (54 ≤ p ∧ p < 66 ∧ p % 2 = 0 ∧ (f = 1 ∨ f = 4 ∨ f = 6)) → s' p f = s p f) (q : zP1  s) : zP1  s' := by
  have e : ∀ d, zmc s' d 6 = zmc s d 6 := fun d => zsm_eq (fun j hj => by rw [h (54 + 2 * j) 1 (by omega), h (54 + 2 * j) 4 (by omega), h (54 + 2 * j) 6 (by omega)])
  unfold zP1
  rw [e, e, h 21 0 (by omega), h 21 6 (by omega), h 21 10 (by omega), h 22 0 (by omega), h 22 6 (by omega), h 22 10 (by omega)]
  exact q
theorem zN1_fr {g : Nat → Int} {U : Int}  {s s' : zJ} (h : ∀ p f : Nat, (42 ≤ p ∧ p < 54 ∧ (f = 0 ∨ f = 2)) ∨ ((p = 21 ∨ p = 22) ∧ (f = 7 ∨ f = 9)) → s' p f = s p f) (q : zN1 g U s) : zN1 g U s' := by
  have e : ∀ d, zmm s' d 12 = zmm s d 12 := fun d => zsm_eq (fun j hj => by rw [h (42 + j) 0 (by omega), h (42 + j) 2 (by omega)])
  unfold zN1
  rw [e, e, h 21 7 (by omega), h 21 9 (by omega), h 22 7 (by omega), h 22 9 (by omega)]
  exact q
theorem zZ1_fr {g : Nat → Int} {T B ph : Int}  {s s' : zJ} (h : ∀ p f : Nat, p = 7 ∧ f ≠ 9 ∧ f ≠ 13 ∧ 7 ≤ f ∧ f ≤ 15 → s' p f = s p f) (q : zZ1 g T B ph s) : zZ1 g T B ph s' := by
  unfold zZ1
  rw [h 7 7 (by omega), h 7 8 (by omega), h 7 10 (by omega), h 7 11 (by omega), h 7 12 (by omega), h 7 14 (by omega), h 7 15 (by omega)]
  exact q
theorem zX1_fr {g : Nat → Int}  {s s' : zJ} (h : ∀ p f : Nat, 66 ≤ p ∧ (p : Int) < g 8 → s' p f = s p f) (q : zX1 g s) : zX1 g s' := by
  intro p hp hk
  have q1 := q p hp hk
  rw [h p 0 (by omega), h p 1 (by omega)]
  exact q1
section ZVP
variable {g : Nat → Int} {U F T B ph : Int} {s : zJ}
theorem zA_geo (A : zA g s) : (s 8 9 = g 0 ∧ s 8 10 = g 1 ∧ s 8 11 = g 2 ∧ s 8 12 = 0 ∧ s 8 13 = g 3) ∧ (8 ≤ g 0 ∧ g 0 ≤ 12 ∧ 8 ≤ g 1 ∧ g 1 ≤ 12 ∧ 64 ≤ g 2 ∧ g 2 ≤ 144 ∧ 0 < g 3 ∧ g 3 < g 2) := ⟨A.1, A.2.1⟩
theorem zA_cl (A : zA g s) {k : Nat} (hk : (k : Int) < g 2) : 0 ≤ s 14 k ∧ s 14 k < g 0 ∧ 0 ≤ s 15 k ∧ s 15 k < g 1 := ⟨(A.2.2.1 k hk).1, (A.2.2.1 k hk).2.1, (A.2.2.1 k hk).2.2.1, (A.2.2.1 k hk).2.2.2.1⟩
theorem zA_nx (A : zA g s) {k : Nat} (hk : (k : Int) < g 2) : (0 < s 15 k → g 0 ≤ k) ∧ (s 15 k < g 1 - 1 → k + g 0 < g 2) ∧ (s 14 k < g 0 - 1 → (k : Int) + 1 < g 2) ∧ (0 < s 14 k → 1 ≤ (k : Int)) := (A.2.2.1 k hk).2.2.2.2
theorem zA_st (A : zA g s) {p k : Nat} (hp : p < 5) (hk : k < 6) : 0 ≤ s p k ∧ s p k ≤ 12 := A.2.2.2 p k hp hk
theorem zV_zA (V : zV g U F T B ph s) : zA g s := V.1
theorem zV_zD (V : zV g U F T B ph s) : zD B s := V.2.1
theorem zV_zE (V : zV g U F T B ph s) : zE g s := V.2.2.1
theorem zV_zL1 (V : zV g U F T B ph s) : zL1 g F B s := V.2.2.2.1
theorem zV_zG1 (V : zV g U F T B ph s) : zG1 g B s := V.2.2.2.2.1
theorem zV_zG2 (V : zV g U F T B ph s) : zG2  s := V.2.2.2.2.2.1
theorem zV_zC1 (V : zV g U F T B ph s) : zC1 g s := V.2.2.2.2.2.2.1
theorem zV_zC2 (V : zV g U F T B ph s) : zC2  s := V.2.2.2.2.2.2.2.1
theorem zV_zM1 (V : zV g U F T B ph s) : zM1 g s := V.2.2.2.2.2.2.2.2.1
theorem zV_zM2 (V : zV g U F T B ph s) : zM2  s := V.2.2.2.2.2.2.2.2.2.1
theorem zV_zS2 (V : zV g U F T B ph s) : zS2 B s := V.2.2.2.2.2.2.2.2.2.2.1
theorem zV_zP1 (V : zV g U F T B ph s) : zP1  s := V.2.2.2.2.2.2.2.2.2.2.2.1
theorem zV_zN1 (V : zV g U F T B ph s) : zN1 g U s := V.2.2.2.2.2.2.2.2.2.2.2.2.1
theorem zV_zZ1 (V : zV g U F T B ph s) : zZ1 g T B ph s := V.2.2.2.2.2.2.2.2.2.2.2.2.2.1
theorem zV_zX1 (V : zV g U F T B ph s) : zX1 g s := V.2.2.2.2.2.2.2.2.2.2.2.2.2.2
theorem zV_sq (V : zV g U F T B ph s) {k : Nat} (hk : k < 144) : (0 ≤ s 9 k ∧ s 9 k ≤ 9) ∧ (0 ≤ s 10 k ∧ s 10 k ≤ 3) ∧ (0 ≤ s 11 k ∧ s 11 k ≤ 7) ∧ (0 ≤ s 12 k ∧ s 12 k ≤ 99) ∧ (0 ≤ s 13 k ∧ s 13 k ≤ B) := zV_zD V k hk
theorem zV_gun (V : zV g U F T B ph s) {i : Nat} (hi : i < 16) : (-1 ≤ s (26 + i) 0 ∧ s (26 + i) 0 ≤ 1) ∧ (-1 ≤ s (26 + i) 1 ∧ s (26 + i) 1 < g 2) ∧ (0 ≤ s (26 + i) 2 ∧ s (26 + i) 2 ≤ 3) ∧ (0 ≤ s (26 + i) 3 ∧ s (26 + i) 3 ≤ 3) ∧ (0 ≤ s (26 + i) 4 ∧ s (26 + i) 4 ≤ B) ∧ (0 ≤ s (26 + i) 5 ∧ s (26 + i) 5 ≤ 2) ∧ (-1 ≤ s (26 + i) 6 ∧ s (26 + i) 6 < g 2) := zV_zG1 V i hi
theorem zV_com (V : zV g U F T B ph s) {i : Nat} (hi : i < 12) : (-1 ≤ s (42 + i) 0 ∧ s (42 + i) 0 ≤ 1) ∧ (-1 ≤ s (42 + i) 1 ∧ s (42 + i) 1 < g 2) ∧ (0 ≤ s (42 + i) 2 ∧ s (42 + i) 2 ≤ 200) ∧ (0 ≤ s (42 + i) 3 ∧ s (42 + i) 3 ≤ 12) ∧ (0 ≤ s (42 + i) 4 ∧ s (42 + i) 4 ≤ 6) ∧ (-1 ≤ s (42 + i) 5 ∧ s (42 + i) 5 < g 2) := zV_zC1 V i hi
theorem zV_min (V : zV g U F T B ph s) {i : Nat} (hi : i < 6) : (-1 ≤ s (54 + 2 * i) 1 ∧ s (54 + 2 * i) 1 ≤ 1) ∧ (0 ≤ s (54 + 2 * i) 2 ∧ s (54 + 2 * i) 2 ≤ 6) ∧ (0 ≤ s (54 + 2 * i) 6 ∧ s (54 + 2 * i) 6 ≤ 3) := ⟨(zV_zM1 V i hi).1, (zV_zM1 V i hi).2.1, (zV_zM1 V i hi).2.2.1⟩
theorem zV_mrw (V : zV g U F T B ph s) {i j : Nat} (hi : i < 6) (hj : j < 6) : -1 ≤ s (55 + 2 * i) j ∧ s (55 + 2 * i) j < g 2 := (zV_zM1 V i hi).2.2.2 j hj
theorem zV_sid (V : zV g U F T B ph s) {o : Nat} (ho : o = 21 ∨ o = 22) : (0 ≤ s o 0 ∧ s o 0 ≤ B) ∧ (0 ≤ s o 1 ∧ s o 1 ≤ B) ∧ (0 ≤ s o 2 ∧ s o 2 ≤ B) ∧ (0 ≤ s o 3 ∧ s o 3 ≤ 100) := zV_zS2 V o ho
theorem zV_sie (V : zV g U F T B ph s) : (s 7 7 = 6 ∧ s 7 8 = 8 ∧ s 7 10 = T ∧ s 7 11 = ph ∧ 0 ≤ T ∧ T ≤ 3000 ∧ 1 ≤ ph ∧ ph ≤ 2 ∧ -1 ≤ s 7 12 ∧ s 7 12 ≤ 5 ∧ 0 ≤ s 7 14 ∧ s 7 14 ≤ 1000 ∧ 0 ≤ s 7 15 ∧ s 7 15 ≤ 14 ∧ 0 ≤ B ∧ B ≤ 1000000000) ∧ (0 ≤ s 7 9 ∧ s 7 9 ≤ 6) ∧ (0 ≤ s 7 13 ∧ s 7 13 ≤ B) := ⟨(zV_zZ1 V).1, (zV_zM2 V).1, Int.le_trans (zV_zL1 V).2.2.2.2 (zV_zL1 V).2.2.1, (zV_zL1 V).2.2.2.1⟩
theorem zV_B (V : zV g U F T B ph s) : 0 ≤ B ∧ B ≤ 1000000000 := by
  have q := (zV_zZ1 V).1
  omega
theorem zV_mono {B2 : Int} (V : zV g U F T B ph s) (h : B ≤ B2) (h2 : B2 ≤ 1000000000) : zV g U F T B2 ph s := by
  obtain ⟨a1, a2, a3, a4, a5, a6, a7, a8, a9, a10, a11, a12, a13, a14, a15⟩ := V
  refine ⟨a1, fun k hk => ?_, a3, ?_, fun i hi => ?_, a6, a7, a8, a9, a10, fun o ho => ?_, a12, a13, ?_, a15⟩
  · have q := a2 k hk
    omega
  · unfold zL1 at *
    omega
  · have q := a5 i hi
    omega
  · have q := a11 o ho
    omega
  · unfold zZ1 at *
    omega
end ZVP
theorem zk_sid {L : Nat} {X : zK} {o : Nat} (ho : o = 21 ∨ o = 22) : (zK0 L ++ X)[o]? = some (6, 11) := by
  rcases ho with h | h <;> rw [h] <;> rfl
theorem zj_nz {e : Int} (h : -2147483648 ≤ e ∧ e < 2147483648) (k : ¬ e = 0) : ¬ Int32.ofInt e = 0 := fun q => k ((zj_eq h (b := 0) (by decide)).mp q)
theorem zW.nret {ro : Nat → Int32 → zS → Option (zO × zS)} {y pc r1 r2 r3 : Nat} {ls : zLs} {σ : zS} {Q : zO → zS → Prop} {tg : List Nat} (he : zlk (zmC (zP y)) pc = some (.areturn, r1, r2, r3, tg)) (hq : Q (.inl (some .null)) σ) : zW ro y pc ls [.null] σ Q := zW.end_ he (fun rec => rfl) hq
theorem zW.lret {ro : Nat → Int32 → zS → Option (zO × zS)} {y pc r1 r2 r3 : Nat} {ls : zLs} {σ : zS} {Q : zO → zS → Prop} {tg : List Nat} {v : Int64} (he : zlk (zmC (zP y)) pc = some (.lreturn, r1, r2, r3, tg)) (hq : Q (.inl (some (.long v))) σ) : zW ro y pc ls [.long v] σ Q := zW.end_ he (fun rec => rfl) hq
