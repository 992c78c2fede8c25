/-! what keeps the invariant (printed by program) -/
theorem zcn_w {s s' : zJ} {k : Nat} (h : ∀ j, j ≠ k → s' 11 j = s 11 j) (w : Int) (n : Nat) : zcn s' w n = zcn s w n + (if k < n then (if s' 11 k = w then 1 else 0) - (if s 11 k = w then 1 else 0) else 0) := zsm_up (fun j hj => by rw [h j hj]) n
theorem zmm_w {s s' : zJ} {i : Nat} (h0 : ∀ j, j < 12 → s' (42 + j) 0 = s (42 + j) 0) (h2 : ∀ j, j ≠ i → s' (42 + j) 2 = s (42 + j) 2) (hi : i < 12) (d : Int) : zmm s' d 12 = zmm s d 12 + (if s (42 + i) 0 = d then s' (42 + i) 2 - s (42 + i) 2 else 0) := by
  have e : zmm s' d 12 = zsm (fun i => if s (42 + i) 0 = d then s' (42 + i) 2 else 0) 12 := zsm_eq (fun j hj => by rw [h0 j hj])
  have e2 := zsm_up (f := fun i => if s (42 + i) 0 = d then s (42 + i) 2 else 0) (k := fun i => if s (42 + i) 0 = d then s' (42 + i) 2 else 0) (i := i) (fun j hj => by rw [h2 j hj]) 12
  rw [e, e2, if_pos hi]
  by_cases c : s (42 + i) 0 = d
  · simp only [c, if_true]
    rfl
  · simp only [c, if_false, Int.sub_self]
    rfl
theorem zmc_w {s s' : zJ} {i : Nat} (h : ∀ j, j < 6 → j ≠ i → s' (54 + 2 * j) 1 = s (54 + 2 * j) 1 ∧ s' (54 + 2 * j) 4 = s (54 + 2 * j) 4 ∧ s' (54 + 2 * j) 6 = s (54 + 2 * j) 6) (hi : i < 6) (d : Int) : zmc s' d 6 = zmc s d 6 + ((if s' (54 + 2 * i) 1 = d ∧ (s' (54 + 2 * i) 6 = 0 ∨ s' (54 + 2 * i) 6 = 1) then s' (54 + 2 * i) 4 else 0) - (if s (54 + 2 * i) 1 = d ∧ (s (54 + 2 * i) 6 = 0 ∨ s (54 + 2 * i) 6 = 1) then s (54 + 2 * i) 4 else 0)) := by
  have key : ∀ n : Nat, n ≤ 6 → zmc s' d n = zmc s d n + (if i < n then (if s' (54 + 2 * i) 1 = d ∧ (s' (54 + 2 * i) 6 = 0 ∨ s' (54 + 2 * i) 6 = 1) then s' (54 + 2 * i) 4 else 0) - (if s (54 + 2 * i) 1 = d ∧ (s (54 + 2 * i) 6 = 0 ∨ s (54 + 2 * i) 6 = 1) then s (54 + 2 * i) 4 else 0) else 0) := by
    intro n
    induction n with
    | zero => intro _; simp [zmc, zsm]
    | succ n ih =>
      intro hn
      have q := ih (by omega)
      show zmc s' d n + (if s' (54 + 2 * n) 1 = d ∧ (s' (54 + 2 * n) 6 = 0 ∨ s' (54 + 2 * n) 6 = 1) then s' (54 + 2 * n) 4 else 0) = zmc s d n + (if s (54 + 2 * n) 1 = d ∧ (s (54 + 2 * n) 6 = 0 ∨ s (54 + 2 * n) 6 = 1) then s (54 + 2 * n) 4 else 0) + _
      by_cases e : n = i
      · subst e
        rw [q, if_neg (Nat.lt_irrefl n), if_pos (Nat.lt_succ_self n)]
        omega
      · obtain ⟨q1, q2, q3⟩ := h n (by omega) e
        rw [q, q1, q2, q3]
        by_cases c : i < n
        · rw [if_pos c, if_pos (show i < n + 1 by omega)]
          exact Int.add_right_comm _ _ _
        · rw [if_neg c, if_neg (show ¬ i < n + 1 by omega)]
          exact Int.add_right_comm _ _ _
  have k6 := key 6 (Nat.le_refl 6)
  rw [if_pos hi] at k6
  exact k6
section ZVT
variable {g : Nat → Int} {U F T B ph : Int} {s : zJ}
theorem V_irr (V : zV g U F T B ph s) {q k : Nat} {v : Int} (h0 : q = 16 ∨ q = 17 ∨ (23 ≤ q ∧ q ≤ 25) ∨ ((q = 21 ∨ q = 22) ∧ (k = 4 ∨ k = 5 ∨ k = 8)) ∨ (q = 7 ∧ k = 16) ∨ (54 ≤ q ∧ q < 66 ∧ q % 2 = 0 ∧ (k = 3 ∨ k = 5)) ∨ (66 ≤ q ∧ g 8 ≤ (q : Int))) : zV g U F T B ph (zup s q k v) := by
  obtain ⟨a1, a2, a3, a4, a5, a6, a7, a8, a9, a10, a11, a12, a13, a14, a15⟩ := V
  exact ⟨zA_fr (fun p f h => zup_nj (by omega)) a1, zD_fr (fun p f h => zup_nj (by omega)) a2, zE_fr (fun p f h => zup_nj (by omega)) a3, zL1_fr (fun p f h => zup_nj (by omega)) a4, zG1_fr (fun p f h => zup_nj (by omega)) a5, zG2_fr (fun p f h => zup_nj (by omega)) a6, zC1_fr (fun p f h => zup_nj (by omega)) a7, zC2_fr (fun p f h => zup_nj (by omega)) a8, zM1_fr (fun p f h => zup_nj (by omega)) a9, zM2_fr (fun p f h => zup_nj (by omega)) a10, zS2_fr (fun p f h => zup_nj (by omega)) a11, zP1_fr (fun p f h => zup_nj (by omega)) a12, zN1_fr (fun p f h => zup_nj (by omega)) a13, zZ1_fr (fun p f h => zup_nj (by omega)) a14, zX1_fr (fun p f h => zup_nj (by omega)) a15⟩
theorem V_tired (V : zV g U F T B ph s) {i : Nat} {v : Int} (h0 : i < 12) (h1 : 0 ≤ v ∧ v ≤ 12) : zV g U F T B ph (zup s (42 + i) 3 v) := by
  have hB9 := zV_B V
  obtain ⟨a1, a2, a3, a4, a5, a6, a7, a8, a9, a10, a11, a12, a13, a14, a15⟩ := V
  refine ⟨zA_fr (fun p f h => zup_nj (by omega)) a1, zD_fr (fun p f h => zup_nj (by omega)) a2, zE_fr (fun p f h => zup_nj (by omega)) a3, zL1_fr (fun p f h => zup_nj (by omega)) a4, zG1_fr (fun p f h => zup_nj (by omega)) a5, zG2_fr (fun p f h => zup_nj (by omega)) a6, ?_, zC2_fr (fun p f h => zup_nj (by omega)) a8, zM1_fr (fun p f h => zup_nj (by omega)) a9, zM2_fr (fun p f h => zup_nj (by omega)) a10, zS2_fr (fun p f h => zup_nj (by omega)) a11, zP1_fr (fun p f h => zup_nj (by omega)) a12, zN1_fr (fun p f h => zup_nj (by omega)) a13, zZ1_fr (fun p f h => zup_nj (by omega)) a14, zX1_fr (fun p f h => zup_nj (by omega)) a15⟩
  · intro j9 hj9
    by_cases e9 : j9 = i
    · rw [e9]
      have q9 := a7 i (by omega)
      have r0 : (zup s (42 + i) 3 v) (42 + i) 0 = s (42 + i) 0 := zup_nj (by omega)
      have r1 : (zup s (42 + i) 3 v) (42 + i) 1 = s (42 + i) 1 := zup_nj (by omega)
      have r2 : (zup s (42 + i) 3 v) (42 + i) 2 = s (42 + i) 2 := zup_nj (by omega)
      have r3 : (zup s (42 + i) 3 v) (42 + i) 3 = v := zup_ej
      have r4 : (zup s (42 + i) 3 v) (42 + i) 4 = s (42 + i) 4 := zup_nj (by omega)
      have r5 : (zup s (42 + i) 3 v) (42 + i) 5 = s (42 + i) 5 := zup_nj (by omega)
      rw [r0, r1, r2, r3, r4, r5]
      omega
    · have q9 := a7 j9 hj9
      have r0 : (zup s (42 + i) 3 v) (42 + j9) 0 = s (42 + j9) 0 := zup_nj (by omega)
      have r1 : (zup s (42 + i) 3 v) (42 + j9) 1 = s (42 + j9) 1 := zup_nj (by omega)
      have r2 : (zup s (42 + i) 3 v) (42 + j9) 2 = s (42 + j9) 2 := zup_nj (by omega)
      have r3 : (zup s (42 + i) 3 v) (42 + j9) 3 = s (42 + j9) 3 := zup_nj (by omega)
      have r4 : (zup s (42 + i) 3 v) (42 + j9) 4 = s (42 + j9) 4 := zup_nj (by omega)
      have r5 : (zup s (42 + i) 3 v) (42 + j9) 5 = s (42 + j9) 5 := zup_nj (by omega)
      rw [r0, r1, r2, r3, r4, r5]
      exact q9
theorem V_goal (V : zV g U F T B ph s) {i : Nat} {v w : Int} (h0 : i < 12) (h1 : 0 ≤ v ∧ v ≤ 6) (h2 : -1 ≤ w ∧ w < g 2) (h3 : (v = 0 ∨ v = 2 ∨ v = 3) → w = -1) (h4 : ¬ (v = 0 ∨ v = 2 ∨ v = 3) → 0 ≤ w) : zV g U F T B ph (zup (zup s (42 + i) 4 v) (42 + i) 5 w) := by
  have hB9 := zV_B V
  obtain ⟨a1, a2, a3, a4, a5, a6, a7, a8, a9, a10, a11, a12, a13, a14, a15⟩ := V
  refine ⟨zA_fr (fun p f h => (zup_nj (by omega)).trans (zup_nj (by omega))) a1, zD_fr (fun p f h => (zup_nj (by omega)).trans (zup_nj (by omega))) a2, zE_fr (fun p f h => (zup_nj (by omega)).trans (zup_nj (by omega))) a3, zL1_fr (fun p f h => (zup_nj (by omega)).trans (zup_nj (by omega))) a4, zG1_fr (fun p f h => (zup_nj (by omega)).trans (zup_nj (by omega))) a5, zG2_fr (fun p f h => (zup_nj (by omega)).trans (zup_nj (by omega))) a6, ?_, ?_, zM1_fr (fun p f h => (zup_nj (by omega)).trans (zup_nj (by omega))) a9, zM2_fr (fun p f h => (zup_nj (by omega)).trans (zup_nj (by omega))) a10, zS2_fr (fun p f h => (zup_nj (by omega)).trans (zup_nj (by omega))) a11, zP1_fr (fun p f h => (zup_nj (by omega)).trans (zup_nj (by omega))) a12, zN1_fr (fun p f h => (zup_nj (by omega)).trans (zup_nj (by omega))) a13, zZ1_fr (fun p f h => (zup_nj (by omega)).trans (zup_nj (by omega))) a14, zX1_fr (fun p f h => (zup_nj (by omega)).trans (zup_nj (by omega))) a15⟩
  · intro j9 hj9
    by_cases e9 : j9 = i
    · rw [e9]
      have q9 := a7 i (by omega)
      have r0 : (zup (zup s (42 + i) 4 v) (42 + i) 5 w) (42 + i) 0 = s (42 + i) 0 := (zup_nj (by omega)).trans (zup_nj (by omega))
      have r1 : (zup (zup s (42 + i) 4 v) (42 + i) 5 w) (42 + i) 1 = s (42 + i) 1 := (zup_nj (by omega)).trans (zup_nj (by omega))
      have r2 : (zup (zup s (42 + i) 4 v) (42 + i) 5 w) (42 + i) 2 = s (42 + i) 2 := (zup_nj (by omega)).trans (zup_nj (by omega))
      have r3 : (zup (zup s (42 + i) 4 v) (42 + i) 5 w) (42 + i) 3 = s (42 + i) 3 := (zup_nj (by omega)).trans (zup_nj (by omega))
      have r4 : (zup (zup s (42 + i) 4 v) (42 + i) 5 w) (42 + i) 4 = v := (zup_nj (by omega)).trans zup_ej
      have r5 : (zup (zup s (42 + i) 4 v) (42 + i) 5 w) (42 + i) 5 = w := zup_ej
      rw [r0, r1, r2, r3, r4, r5]
      omega
    · have q9 := a7 j9 hj9
      have r0 : (zup (zup s (42 + i) 4 v) (42 + i) 5 w) (42 + j9) 0 = s (42 + j9) 0 := (zup_nj (by omega)).trans (zup_nj (by omega))
      have r1 : (zup (zup s (42 + i) 4 v) (42 + i) 5 w) (42 + j9) 1 = s (42 + j9) 1 := (zup_nj (by omega)).trans (zup_nj (by omega))
      have r2 : (zup (zup s (42 + i) 4 v) (42 + i) 5 w) (42 + j9) 2 = s (42 + j9) 2 := (zup_nj (by omega)).trans (zup_nj (by omega))
      have r3 : (zup (zup s (42 + i) 4 v) (42 + i) 5 w) (42 + j9) 3 = s (42 + j9) 3 := (zup_nj (by omega)).trans (zup_nj (by omega))
      have r4 : (zup (zup s (42 + i) 4 v) (42 + i) 5 w) (42 + j9) 4 = s (42 + j9) 4 := (zup_nj (by omega)).trans (zup_nj (by omega))
      have r5 : (zup (zup s (42 + i) 4 v) (42 + i) 5 w) (42 + j9) 5 = s (42 + j9) 5 := (zup_nj (by omega)).trans (zup_nj (by omega))
      rw [r0, r1, r2, r3, r4, r5]
      exact q9
  · intro j9 hj9
    by_cases e9 : j9 = i
    · rw [e9]
      have q9 := a8 i (by omega)
      have r0 : (zup (zup s (42 + i) 4 v) (42 + i) 5 w) (42 + i) 0 = s (42 + i) 0 := (zup_nj (by omega)).trans (zup_nj (by omega))
      have r1 : (zup (zup s (42 + i) 4 v) (42 + i) 5 w) (42 + i) 1 = s (42 + i) 1 := (zup_nj (by omega)).trans (zup_nj (by omega))
      have r2 : (zup (zup s (42 + i) 4 v) (42 + i) 5 w) (42 + i) 2 = s (42 + i) 2 := (zup_nj (by omega)).trans (zup_nj (by omega))
      have r3 : (zup (zup s (42 + i) 4 v) (42 + i) 5 w) (42 + i) 4 = v := (zup_nj (by omega)).trans zup_ej
      have r4 : (zup (zup s (42 + i) 4 v) (42 + i) 5 w) (42 + i) 5 = w := zup_ej
      rw [r0, r1, r2, r3, r4]
      omega
    · have q9 := a8 j9 hj9
      have r0 : (zup (zup s (42 + i) 4 v) (42 + i) 5 w) (42 + j9) 0 = s (42 + j9) 0 := (zup_nj (by omega)).trans (zup_nj (by omega))
      have r1 : (zup (zup s (42 + i) 4 v) (42 + i) 5 w) (42 + j9) 1 = s (42 + j9) 1 := (zup_nj (by omega)).trans (zup_nj (by omega))
      have r2 : (zup (zup s (42 + i) 4 v) (42 + i) 5 w) (42 + j9) 2 = s (42 + j9) 2 := (zup_nj (by omega)).trans (zup_nj (by omega))
      have r3 : (zup (zup s (42 + i) 4 v) (42 + i) 5 w) (42 + j9) 4 = s (42 + j9) 4 := (zup_nj (by omega)).trans (zup_nj (by omega))
      have r4 : (zup (zup s (42 + i) 4 v) (42 + i) 5 w) (42 + j9) 5 = s (42 + j9) 5 := (zup_nj (by omega)).trans (zup_nj (by omega))
      rw [r0, r1, r2, r3, r4]
      exact q9
theorem V_csq (V : zV g U F T B ph s) {i : Nat} {v : Int} (h0 : i < 12) (h1 : 0 ≤ v ∧ v < g 2) : zV g U F T B ph (zup s (42 + i) 1 v) := by
  have hB9 := zV_B V
  obtain ⟨a1, a2, a3, a4, a5, a6, a7, a8, a9, a10, a11, a12, a13, a14, a15⟩ := V
  refine ⟨zA_fr (fun p f h => zup_nj (by omega)) a1, zD_fr (fun p f h => zup_nj (by omega)) a2, zE_fr (fun p f h => zup_nj (by omega)) a3, zL1_fr (fun p f h => zup_nj (by omega)) a4, zG1_fr (fun p f h => zup_nj (by omega)) a5, zG2_fr (fun p f h => zup_nj (by omega)) a6, ?_, ?_, zM1_fr (fun p f h => zup_nj (by omega)) a9, zM2_fr (fun p f h => zup_nj (by omega)) a10, zS2_fr (fun p f h => zup_nj (by omega)) a11, zP1_fr (fun p f h => zup_nj (by omega)) a12, zN1_fr (fun p f h => zup_nj (by omega)) a13, zZ1_fr (fun p f h => zup_nj (by omega)) a14, zX1_fr (fun p f h => zup_nj (by omega)) a15⟩
  · intro j9 hj9
    by_cases e9 : j9 = i
    · rw [e9]
      have q9 := a7 i (by omega)
      have r0 : (zup s (42 + i) 1 v) (42 + i) 0 = s (42 + i) 0 := zup_nj (by omega)
      have r1 : (zup s (42 + i) 1 v) (42 + i) 1 = v := zup_ej
      have r2 : (zup s (42 + i) 1 v) (42 + i) 2 = s (42 + i) 2 := zup_nj (by omega)
      have r3 : (zup s (42 + i) 1 v) (42 + i) 3 = s (42 + i) 3 := zup_nj (by omega)
      have r4 : (zup s (42 + i) 1 v) (42 + i) 4 = s (42 + i) 4 := zup_nj (by omega)
      have r5 : (zup s (42 + i) 1 v) (42 + i) 5 = s (42 + i) 5 := zup_nj (by omega)
      rw [r0, r1, r2, r3, r4, r5]
      omega
    · have q9 := a7 j9 hj9
      have r0 : (zup s (42 + i) 1 v) (42 + j9) 0 = s (42 + j9) 0 := zup_nj (by omega)
      have r1 : (zup s (42 + i) 1 v) (42 + j9) 1 = s (42 + j9) 1 := zup_nj (by omega)
      have r2 : (zup s (42 + i) 1 v) (42 + j9) 2 = s (42 + j9) 2 := zup_nj (by omega)
      have r3 : (zup s (42 + i) 1 v) (42 + j9) 3 = s (42 + j9) 3 := zup_nj (by omega)
      have r4 : (zup s (42 + i) 1 v) (42 + j9) 4 = s (42 + j9) 4 := zup_nj (by omega)
      have r5 : (zup s (42 + i) 1 v) (42 + j9) 5 = s (42 + j9) 5 := zup_nj (by omega)
      rw [r0, r1, r2, r3, r4, r5]
      exact q9
  · intro j9 hj9
    by_cases e9 : j9 = i
    · rw [e9]
      have q9 := a8 i (by omega)
      have r0 : (zup s (42 + i) 1 v) (42 + i) 0 = s (42 + i) 0 := zup_nj (by omega)
      have r1 : (zup s (42 + i) 1 v) (42 + i) 1 = v := zup_ej
      have r2 : (zup s (42 + i) 1 v) (42 + i) 2 = s (42 + i) 2 := zup_nj (by omega)
      have r3 : (zup s (42 + i) 1 v) (42 + i) 4 = s (42 + i) 4 := zup_nj (by omega)
      have r4 : (zup s (42 + i) 1 v) (42 + i) 5 = s (42 + i) 5 := zup_nj (by omega)
      rw [r0, r1, r2, r3, r4]
      omega
    · have q9 := a8 j9 hj9
      have r0 : (zup s (42 + i) 1 v) (42 + j9) 0 = s (42 + j9) 0 := zup_nj (by omega)
      have r1 : (zup s (42 + i) 1 v) (42 + j9) 1 = s (42 + j9) 1 := zup_nj (by omega)
      have r2 : (zup s (42 + i) 1 v) (42 + j9) 2 = s (42 + j9) 2 := zup_nj (by omega)
      have r3 : (zup s (42 + i) 1 v) (42 + j9) 4 = s (42 + j9) 4 := zup_nj (by omega)
      have r4 : (zup s (42 + i) 1 v) (42 + j9) 5 = s (42 + j9) 5 := zup_nj (by omega)
      rw [r0, r1, r2, r3, r4]
      exact q9
theorem V_haul (V : zV g U F T B ph s) {i k : Nat} {v w : Int} (h0 : i < 12) (h1 : k < 16) (h2 : 0 ≤ v ∧ v ≤ 12) (h3 : 0 ≤ w ∧ w < g 2) : zV g U F T B ph (zup (zup (zup s (42 + i) 3 v) (26 + k) 1 w) (26 + k) 6 (-1)) := by
  have hB9 := zV_B V
  obtain ⟨a1, a2, a3, a4, a5, a6, a7, a8, a9, a10, a11, a12, a13, a14, a15⟩ := V
  refine ⟨zA_fr (fun p f h => (zup_nj (by omega)).trans ((zup_nj (by omega)).trans (zup_nj (by omega)))) a1, zD_fr (fun p f h => (zup_nj (by omega)).trans ((zup_nj (by omega)).trans (zup_nj (by omega)))) a2, zE_fr (fun p f h => (zup_nj (by omega)).trans ((zup_nj (by omega)).trans (zup_nj (by omega)))) a3, zL1_fr (fun p f h => (zup_nj (by omega)).trans ((zup_nj (by omega)).trans (zup_nj (by omega)))) a4, ?_, ?_, ?_, zC2_fr (fun p f h => (zup_nj (by omega)).trans ((zup_nj (by omega)).trans (zup_nj (by omega)))) a8, zM1_fr (fun p f h => (zup_nj (by omega)).trans ((zup_nj (by omega)).trans (zup_nj (by omega)))) a9, zM2_fr (fun p f h => (zup_nj (by omega)).trans ((zup_nj (by omega)).trans (zup_nj (by omega)))) a10, zS2_fr (fun p f h => (zup_nj (by omega)).trans ((zup_nj (by omega)).trans (zup_nj (by omega)))) a11, zP1_fr (fun p f h => (zup_nj (by omega)).trans ((zup_nj (by omega)).trans (zup_nj (by omega)))) a12, zN1_fr (fun p f h => (zup_nj (by omega)).trans ((zup_nj (by omega)).trans (zup_nj (by omega)))) a13, zZ1_fr (fun p f h => (zup_nj (by omega)).trans ((zup_nj (by omega)).trans (zup_nj (by omega)))) a14, zX1_fr (fun p f h => (zup_nj (by omega)).trans ((zup_nj (by omega)).trans (zup_nj (by omega)))) a15⟩
  · intro j9 hj9
    by_cases e9 : j9 = k
    · rw [e9]
      have q9 := a5 k (by omega)
      have r0 : (zup (zup (zup s (42 + i) 3 v) (26 + k) 1 w) (26 + k) 6 (-1)) (26 + k) 0 = s (26 + k) 0 := (zup_nj (by omega)).trans ((zup_nj (by omega)).trans (zup_nj (by omega)))
      have r1 : (zup (zup (zup s (42 + i) 3 v) (26 + k) 1 w) (26 + k) 6 (-1)) (26 + k) 1 = w := (zup_nj (by omega)).trans zup_ej
      have r2 : (zup (zup (zup s (42 + i) 3 v) (26 + k) 1 w) (26 + k) 6 (-1)) (26 + k) 2 = s (26 + k) 2 := (zup_nj (by omega)).trans ((zup_nj (by omega)).trans (zup_nj (by omega)))
      have r3 : (zup (zup (zup s (42 + i) 3 v) (26 + k) 1 w) (26 + k) 6 (-1)) (26 + k) 3 = s (26 + k) 3 := (zup_nj (by omega)).trans ((zup_nj (by omega)).trans (zup_nj (by omega)))
      have r4 : (zup (zup (zup s (42 + i) 3 v) (26 + k) 1 w) (26 + k) 6 (-1)) (26 + k) 4 = s (26 + k) 4 := (zup_nj (by omega)).trans ((zup_nj (by omega)).trans (zup_nj (by omega)))
      have r5 : (zup (zup (zup s (42 + i) 3 v) (26 + k) 1 w) (26 + k) 6 (-1)) (26 + k) 5 = s (26 + k) 5 := (zup_nj (by omega)).trans ((zup_nj (by omega)).trans (zup_nj (by omega)))
      have r6 : (zup (zup (zup s (42 + i) 3 v) (26 + k) 1 w) (26 + k) 6 (-1)) (26 + k) 6 = (-1) := zup_ej
      rw [r0, r1, r2, r3, r4, r5, r6]
      omega
    · have q9 := a5 j9 hj9
      have r0 : (zup (zup (zup s (42 + i) 3 v) (26 + k) 1 w) (26 + k) 6 (-1)) (26 + j9) 0 = s (26 + j9) 0 := (zup_nj (by omega)).trans ((zup_nj (by omega)).trans (zup_nj (by omega)))
      have r1 : (zup (zup (zup s (42 + i) 3 v) (26 + k) 1 w) (26 + k) 6 (-1)) (26 + j9) 1 = s (26 + j9) 1 := (zup_nj (by omega)).trans ((zup_nj (by omega)).trans (zup_nj (by omega)))
      have r2 : (zup (zup (zup s (42 + i) 3 v) (26 + k) 1 w) (26 + k) 6 (-1)) (26 + j9) 2 = s (26 + j9) 2 := (zup_nj (by omega)).trans ((zup_nj (by omega)).trans (zup_nj (by omega)))
      have r3 : (zup (zup (zup s (42 + i) 3 v) (26 + k) 1 w) (26 + k) 6 (-1)) (26 + j9) 3 = s (26 + j9) 3 := (zup_nj (by omega)).trans ((zup_nj (by omega)).trans (zup_nj (by omega)))
      have r4 : (zup (zup (zup s (42 + i) 3 v) (26 + k) 1 w) (26 + k) 6 (-1)) (26 + j9) 4 = s (26 + j9) 4 := (zup_nj (by omega)).trans ((zup_nj (by omega)).trans (zup_nj (by omega)))
      have r5 : (zup (zup (zup s (42 + i) 3 v) (26 + k) 1 w) (26 + k) 6 (-1)) (26 + j9) 5 = s (26 + j9) 5 := (zup_nj (by omega)).trans ((zup_nj (by omega)).trans (zup_nj (by omega)))
      have r6 : (zup (zup (zup s (42 + i) 3 v) (26 + k) 1 w) (26 + k) 6 (-1)) (26 + j9) 6 = s (26 + j9) 6 := (zup_nj (by omega)).trans ((zup_nj (by omega)).trans (zup_nj (by omega)))
      rw [r0, r1, r2, r3, r4, r5, r6]
      exact q9
  · intro j9 hj9
    by_cases e9 : j9 = k
    · rw [e9]
      have q9 := a6 k (by omega)
      have r0 : (zup (zup (zup s (42 + i) 3 v) (26 + k) 1 w) (26 + k) 6 (-1)) (26 + k) 0 = s (26 + k) 0 := (zup_nj (by omega)).trans ((zup_nj (by omega)).trans (zup_nj (by omega)))
      have r1 : (zup (zup (zup s (42 + i) 3 v) (26 + k) 1 w) (26 + k) 6 (-1)) (26 + k) 1 = w := (zup_nj (by omega)).trans zup_ej
      have r2 : (zup (zup (zup s (42 + i) 3 v) (26 + k) 1 w) (26 + k) 6 (-1)) (26 + k) 2 = s (26 + k) 2 := (zup_nj (by omega)).trans ((zup_nj (by omega)).trans (zup_nj (by omega)))
      have r3 : (zup (zup (zup s (42 + i) 3 v) (26 + k) 1 w) (26 + k) 6 (-1)) (26 + k) 4 = s (26 + k) 4 := (zup_nj (by omega)).trans ((zup_nj (by omega)).trans (zup_nj (by omega)))
      have r4 : (zup (zup (zup s (42 + i) 3 v) (26 + k) 1 w) (26 + k) 6 (-1)) (26 + k) 5 = s (26 + k) 5 := (zup_nj (by omega)).trans ((zup_nj (by omega)).trans (zup_nj (by omega)))
      rw [r0, r1, r2, r3, r4]
      omega
    · have q9 := a6 j9 hj9
      have r0 : (zup (zup (zup s (42 + i) 3 v) (26 + k) 1 w) (26 + k) 6 (-1)) (26 + j9) 0 = s (26 + j9) 0 := (zup_nj (by omega)).trans ((zup_nj (by omega)).trans (zup_nj (by omega)))
      have r1 : (zup (zup (zup s (42 + i) 3 v) (26 + k) 1 w) (26 + k) 6 (-1)) (26 + j9) 1 = s (26 + j9) 1 := (zup_nj (by omega)).trans ((zup_nj (by omega)).trans (zup_nj (by omega)))
      have r2 : (zup (zup (zup s (42 + i) 3 v) (26 + k) 1 w) (26 + k) 6 (-1)) (26 + j9) 2 = s (26 + j9) 2 := (zup_nj (by omega)).trans ((zup_nj (by omega)).trans (zup_nj (by omega)))
      have r3 : (zup (zup (zup s (42 + i) 3 v) (26 + k) 1 w) (26 + k) 6 (-1)) (26 + j9) 4 = s (26 + j9) 4 := (zup_nj (by omega)).trans ((zup_nj (by omega)).trans (zup_nj (by omega)))
      have r4 : (zup (zup (zup s (42 + i) 3 v) (26 + k) 1 w) (26 + k) 6 (-1)) (26 + j9) 5 = s (26 + j9) 5 := (zup_nj (by omega)).trans ((zup_nj (by omega)).trans (zup_nj (by omega)))
      rw [r0, r1, r2, r3, r4]
      exact q9
  · intro j9 hj9
    by_cases e9 : j9 = i
    · rw [e9]
      have q9 := a7 i (by omega)
      have r0 : (zup (zup (zup s (42 + i) 3 v) (26 + k) 1 w) (26 + k) 6 (-1)) (42 + i) 0 = s (42 + i) 0 := (zup_nj (by omega)).trans ((zup_nj (by omega)).trans (zup_nj (by omega)))
      have r1 : (zup (zup (zup s (42 + i) 3 v) (26 + k) 1 w) (26 + k) 6 (-1)) (42 + i) 1 = s (42 + i) 1 := (zup_nj (by omega)).trans ((zup_nj (by omega)).trans (zup_nj (by omega)))
      have r2 : (zup (zup (zup s (42 + i) 3 v) (26 + k) 1 w) (26 + k) 6 (-1)) (42 + i) 2 = s (42 + i) 2 := (zup_nj (by omega)).trans ((zup_nj (by omega)).trans (zup_nj (by omega)))
      have r3 : (zup (zup (zup s (42 + i) 3 v) (26 + k) 1 w) (26 + k) 6 (-1)) (42 + i) 3 = v := (zup_nj (by omega)).trans ((zup_nj (by omega)).trans zup_ej)
      have r4 : (zup (zup (zup s (42 + i) 3 v) (26 + k) 1 w) (26 + k) 6 (-1)) (42 + i) 4 = s (42 + i) 4 := (zup_nj (by omega)).trans ((zup_nj (by omega)).trans (zup_nj (by omega)))
      have r5 : (zup (zup (zup s (42 + i) 3 v) (26 + k) 1 w) (26 + k) 6 (-1)) (42 + i) 5 = s (42 + i) 5 := (zup_nj (by omega)).trans ((zup_nj (by omega)).trans (zup_nj (by omega)))
      rw [r0, r1, r2, r3, r4, r5]
      omega
    · have q9 := a7 j9 hj9
      have r0 : (zup (zup (zup s (42 + i) 3 v) (26 + k) 1 w) (26 + k) 6 (-1)) (42 + j9) 0 = s (42 + j9) 0 := (zup_nj (by omega)).trans ((zup_nj (by omega)).trans (zup_nj (by omega)))
      have r1 : (zup (zup (zup s (42 + i) 3 v) (26 + k) 1 w) (26 + k) 6 (-1)) (42 + j9) 1 = s (42 + j9) 1 := (zup_nj (by omega)).trans ((zup_nj (by omega)).trans (zup_nj (by omega)))
      have r2 : (zup (zup (zup s (42 + i) 3 v) (26 + k) 1 w) (26 + k) 6 (-1)) (42 + j9) 2 = s (42 + j9) 2 := (zup_nj (by omega)).trans ((zup_nj (by omega)).trans (zup_nj (by omega)))
      have r3 : (zup (zup (zup s (42 + i) 3 v) (26 + k) 1 w) (26 + k) 6 (-1)) (42 + j9) 3 = s (42 + j9) 3 := (zup_nj (by omega)).trans ((zup_nj (by omega)).trans (zup_nj (by omega)))
      have r4 : (zup (zup (zup s (42 + i) 3 v) (26 + k) 1 w) (26 + k) 6 (-1)) (42 + j9) 4 = s (42 + j9) 4 := (zup_nj (by omega)).trans ((zup_nj (by omega)).trans (zup_nj (by omega)))
      have r5 : (zup (zup (zup s (42 + i) 3 v) (26 + k) 1 w) (26 + k) 6 (-1)) (42 + j9) 5 = s (42 + j9) 5 := (zup_nj (by omega)).trans ((zup_nj (by omega)).trans (zup_nj (by omega)))
      rw [r0, r1, r2, r3, r4, r5]
      exact q9
theorem V_right (V : zV g U F T B ph s) {i k : Nat} {v : Int} (h0 : i < 12) (h1 : k < 16) (h2 : 0 ≤ v ∧ v ≤ 12) : zV g U F T B ph (zup (zup (zup (zup s (42 + i) 3 v) (26 + k) 5 0) (26 + k) 4 0) (26 + k) 3 0) := by
  have hB9 := zV_B V
  obtain ⟨a1, a2, a3, a4, a5, a6, a7, a8, a9, a10, a11, a12, a13, a14, a15⟩ := V
  refine ⟨zA_fr (fun p f h => (zup_nj (by omega)).trans ((zup_nj (by omega)).trans ((zup_nj (by omega)).trans (zup_nj (by omega))))) a1, zD_fr (fun p f h => (zup_nj (by omega)).trans ((zup_nj (by omega)).trans ((zup_nj (by omega)).trans (zup_nj (by omega))))) a2, zE_fr (fun p f h => (zup_nj (by omega)).trans ((zup_nj (by omega)).trans ((zup_nj (by omega)).trans (zup_nj (by omega))))) a3, zL1_fr (fun p f h => (zup_nj (by omega)).trans ((zup_nj (by omega)).trans ((zup_nj (by omega)).trans (zup_nj (by omega))))) a4, ?_, ?_, ?_, zC2_fr (fun p f h => (zup_nj (by omega)).trans ((zup_nj (by omega)).trans ((zup_nj (by omega)).trans (zup_nj (by omega))))) a8, zM1_fr (fun p f h => (zup_nj (by omega)).trans ((zup_nj (by omega)).trans ((zup_nj (by omega)).trans (zup_nj (by omega))))) a9, zM2_fr (fun p f h => (zup_nj (by omega)).trans ((zup_nj (by omega)).trans ((zup_nj (by omega)).trans (zup_nj (by omega))))) a10, zS2_fr (fun p f h => (zup_nj (by omega)).trans ((zup_nj (by omega)).trans ((zup_nj (by omega)).trans (zup_nj (by omega))))) a11, zP1_fr (fun p f h => (zup_nj (by omega)).trans ((zup_nj (by omega)).trans ((zup_nj (by omega)).trans (zup_nj (by omega))))) a12, zN1_fr (fun p f h => (zup_nj (by omega)).trans ((zup_nj (by omega)).trans ((zup_nj (by omega)).trans (zup_nj (by omega))))) a13, zZ1_fr (fun p f h => (zup_nj (by omega)).trans ((zup_nj (by omega)).trans ((zup_nj (by omega)).trans (zup_nj (by omega))))) a14, zX1_fr (fun p f h => (zup_nj (by omega)).trans ((zup_nj (by omega)).trans ((zup_nj (by omega)).trans (zup_nj (by omega))))) a15⟩
  · intro j9 hj9
    by_cases e9 : j9 = k
    · rw [e9]
      have q9 := a5 k (by omega)
      have r0 : (zup (zup (zup (zup s (42 + i) 3 v) (26 + k) 5 0) (26 + k) 4 0) (26 + k) 3 0) (26 + k) 0 = s (26 + k) 0 := (zup_nj (by omega)).trans ((zup_nj (by omega)).trans ((zup_nj (by omega)).trans (zup_nj (by omega))))
      have r1 : (zup (zup (zup (zup s (42 + i) 3 v) (26 + k) 5 0) (26 + k) 4 0) (26 + k) 3 0) (26 + k) 1 = s (26 + k) 1 := (zup_nj (by omega)).trans ((zup_nj (by omega)).trans ((zup_nj (by omega)).trans (zup_nj (by omega))))
      have r2 : (zup (zup (zup (zup s (42 + i) 3 v) (26 + k) 5 0) (26 + k) 4 0) (26 + k) 3 0) (26 + k) 2 = s (26 + k) 2 := (zup_nj (by omega)).trans ((zup_nj (by omega)).trans ((zup_nj (by omega)).trans (zup_nj (by omega))))
      have r3 : (zup (zup (zup (zup s (42 + i) 3 v) (26 + k) 5 0) (26 + k) 4 0) (26 + k) 3 0) (26 + k) 3 = 0 := zup_ej
      have r4 : (zup (zup (zup (zup s (42 + i) 3 v) (26 + k) 5 0) (26 + k) 4 0) (26 + k) 3 0) (26 + k) 4 = 0 := (zup_nj (by omega)).trans zup_ej
      have r5 : (zup (zup (zup (zup s (42 + i) 3 v) (26 + k) 5 0) (26 + k) 4 0) (26 + k) 3 0) (26 + k) 5 = 0 := (zup_nj (by omega)).trans ((zup_nj (by omega)).trans zup_ej)
      have r6 : (zup (zup (zup (zup s (42 + i) 3 v) (26 + k) 5 0) (26 + k) 4 0) (26 + k) 3 0) (26 + k) 6 = s (26 + k) 6 := (zup_nj (by omega)).trans ((zup_nj (by omega)).trans ((zup_nj (by omega)).trans (zup_nj (by omega))))
      rw [r0, r1, r2, r3, r4, r5, r6]
      omega
    · have q9 := a5 j9 hj9
      have r0 : (zup (zup (zup (zup s (42 + i) 3 v) (26 + k) 5 0) (26 + k) 4 0) (26 + k) 3 0) (26 + j9) 0 = s (26 + j9) 0 := (zup_nj (by omega)).trans ((zup_nj (by omega)).trans ((zup_nj (by omega)).trans (zup_nj (by omega))))
      have r1 : (zup (zup (zup (zup s (42 + i) 3 v) (26 + k) 5 0) (26 + k) 4 0) (26 + k) 3 0) (26 + j9) 1 = s (26 + j9) 1 := (zup_nj (by omega)).trans ((zup_nj (by omega)).trans ((zup_nj (by omega)).trans (zup_nj (by omega))))
      have r2 : (zup (zup (zup (zup s (42 + i) 3 v) (26 + k) 5 0) (26 + k) 4 0) (26 + k) 3 0) (26 + j9) 2 = s (26 + j9) 2 := (zup_nj (by omega)).trans ((zup_nj (by omega)).trans ((zup_nj (by omega)).trans (zup_nj (by omega))))
      have r3 : (zup (zup (zup (zup s (42 + i) 3 v) (26 + k) 5 0) (26 + k) 4 0) (26 + k) 3 0) (26 + j9) 3 = s (26 + j9) 3 := (zup_nj (by omega)).trans ((zup_nj (by omega)).trans ((zup_nj (by omega)).trans (zup_nj (by omega))))
      have r4 : (zup (zup (zup (zup s (42 + i) 3 v) (26 + k) 5 0) (26 + k) 4 0) (26 + k) 3 0) (26 + j9) 4 = s (26 + j9) 4 := (zup_nj (by omega)).trans ((zup_nj (by omega)).trans ((zup_nj (by omega)).trans (zup_nj (by omega))))
      have r5 : (zup (zup (zup (zup s (42 + i) 3 v) (26 + k) 5 0) (26 + k) 4 0) (26 + k) 3 0) (26 + j9) 5 = s (26 + j9) 5 := (zup_nj (by omega)).trans ((zup_nj (by omega)).trans ((zup_nj (by omega)).trans (zup_nj (by omega))))
      have r6 : (zup (zup (zup (zup s (42 + i) 3 v) (26 + k) 5 0) (26 + k) 4 0) (26 + k) 3 0) (26 + j9) 6 = s (26 + j9) 6 := (zup_nj (by omega)).trans ((zup_nj (by omega)).trans ((zup_nj (by omega)).trans (zup_nj (by omega))))
      rw [r0, r1, r2, r3, r4, r5, r6]
      exact q9
  · intro j9 hj9
    by_cases e9 : j9 = k
    · rw [e9]
      have q9 := a6 k (by omega)
      have r0 : (zup (zup (zup (zup s (42 + i) 3 v) (26 + k) 5 0) (26 + k) 4 0) (26 + k) 3 0) (26 + k) 0 = s (26 + k) 0 := (zup_nj (by omega)).trans ((zup_nj (by omega)).trans ((zup_nj (by omega)).trans (zup_nj (by omega))))
      have r1 : (zup (zup (zup (zup s (42 + i) 3 v) (26 + k) 5 0) (26 + k) 4 0) (26 + k) 3 0) (26 + k) 1 = s (26 + k) 1 := (zup_nj (by omega)).trans ((zup_nj (by omega)).trans ((zup_nj (by omega)).trans (zup_nj (by omega))))
      have r2 : (zup (zup (zup (zup s (42 + i) 3 v) (26 + k) 5 0) (26 + k) 4 0) (26 + k) 3 0) (26 + k) 2 = s (26 + k) 2 := (zup_nj (by omega)).trans ((zup_nj (by omega)).trans ((zup_nj (by omega)).trans (zup_nj (by omega))))
      have r3 : (zup (zup (zup (zup s (42 + i) 3 v) (26 + k) 5 0) (26 + k) 4 0) (26 + k) 3 0) (26 + k) 4 = 0 := (zup_nj (by omega)).trans zup_ej
      have r4 : (zup (zup (zup (zup s (42 + i) 3 v) (26 + k) 5 0) (26 + k) 4 0) (26 + k) 3 0) (26 + k) 5 = 0 := (zup_nj (by omega)).trans ((zup_nj (by omega)).trans zup_ej)
      rw [r0, r1, r2, r3, r4]
      omega
    · have q9 := a6 j9 hj9
      have r0 : (zup (zup (zup (zup s (42 + i) 3 v) (26 + k) 5 0) (26 + k) 4 0) (26 + k) 3 0) (26 + j9) 0 = s (26 + j9) 0 := (zup_nj (by omega)).trans ((zup_nj (by omega)).trans ((zup_nj (by omega)).trans (zup_nj (by omega))))
      have r1 : (zup (zup (zup (zup s (42 + i) 3 v) (26 + k) 5 0) (26 + k) 4 0) (26 + k) 3 0) (26 + j9) 1 = s (26 + j9) 1 := (zup_nj (by omega)).trans ((zup_nj (by omega)).trans ((zup_nj (by omega)).trans (zup_nj (by omega))))
      have r2 : (zup (zup (zup (zup s (42 + i) 3 v) (26 + k) 5 0) (26 + k) 4 0) (26 + k) 3 0) (26 + j9) 2 = s (26 + j9) 2 := (zup_nj (by omega)).trans ((zup_nj (by omega)).trans ((zup_nj (by omega)).trans (zup_nj (by omega))))
      have r3 : (zup (zup (zup (zup s (42 + i) 3 v) (26 + k) 5 0) (26 + k) 4 0) (26 + k) 3 0) (26 + j9) 4 = s (26 + j9) 4 := (zup_nj (by omega)).trans ((zup_nj (by omega)).trans ((zup_nj (by omega)).trans (zup_nj (by omega))))
      have r4 : (zup (zup (zup (zup s (42 + i) 3 v) (26 + k) 5 0) (26 + k) 4 0) (26 + k) 3 0) (26 + j9) 5 = s (26 + j9) 5 := (zup_nj (by omega)).trans ((zup_nj (by omega)).trans ((zup_nj (by omega)).trans (zup_nj (by omega))))
      rw [r0, r1, r2, r3, r4]
      exact q9
  · intro j9 hj9
    by_cases e9 : j9 = i
    · rw [e9]
      have q9 := a7 i (by omega)
      have r0 : (zup (zup (zup (zup s (42 + i) 3 v) (26 + k) 5 0) (26 + k) 4 0) (26 + k) 3 0) (42 + i) 0 = s (42 + i) 0 := (zup_nj (by omega)).trans ((zup_nj (by omega)).trans ((zup_nj (by omega)).trans (zup_nj (by omega))))
      have r1 : (zup (zup (zup (zup s (42 + i) 3 v) (26 + k) 5 0) (26 + k) 4 0) (26 + k) 3 0) (42 + i) 1 = s (42 + i) 1 := (zup_nj (by omega)).trans ((zup_nj (by omega)).trans ((zup_nj (by omega)).trans (zup_nj (by omega))))
      have r2 : (zup (zup (zup (zup s (42 + i) 3 v) (26 + k) 5 0) (26 + k) 4 0) (26 + k) 3 0) (42 + i) 2 = s (42 + i) 2 := (zup_nj (by omega)).trans ((zup_nj (by omega)).trans ((zup_nj (by omega)).trans (zup_nj (by omega))))
      have r3 : (zup (zup (zup (zup s (42 + i) 3 v) (26 + k) 5 0) (26 + k) 4 0) (26 + k) 3 0) (42 + i) 3 = v := (zup_nj (by omega)).trans ((zup_nj (by omega)).trans ((zup_nj (by omega)).trans zup_ej))
      have r4 : (zup (zup (zup (zup s (42 + i) 3 v) (26 + k) 5 0) (26 + k) 4 0) (26 + k) 3 0) (42 + i) 4 = s (42 + i) 4 := (zup_nj (by omega)).trans ((zup_nj (by omega)).trans ((zup_nj (by omega)).trans (zup_nj (by omega))))
      have r5 : (zup (zup (zup (zup s (42 + i) 3 v) (26 + k) 5 0) (26 + k) 4 0) (26 + k) 3 0) (42 + i) 5 = s (42 + i) 5 := (zup_nj (by omega)).trans ((zup_nj (by omega)).trans ((zup_nj (by omega)).trans (zup_nj (by omega))))
      rw [r0, r1, r2, r3, r4, r5]
      omega
    · have q9 := a7 j9 hj9
      have r0 : (zup (zup (zup (zup s (42 + i) 3 v) (26 + k) 5 0) (26 + k) 4 0) (26 + k) 3 0) (42 + j9) 0 = s (42 + j9) 0 := (zup_nj (by omega)).trans ((zup_nj (by omega)).trans ((zup_nj (by omega)).trans (zup_nj (by omega))))
      have r1 : (zup (zup (zup (zup s (42 + i) 3 v) (26 + k) 5 0) (26 + k) 4 0) (26 + k) 3 0) (42 + j9) 1 = s (42 + j9) 1 := (zup_nj (by omega)).trans ((zup_nj (by omega)).trans ((zup_nj (by omega)).trans (zup_nj (by omega))))
      have r2 : (zup (zup (zup (zup s (42 + i) 3 v) (26 + k) 5 0) (26 + k) 4 0) (26 + k) 3 0) (42 + j9) 2 = s (42 + j9) 2 := (zup_nj (by omega)).trans ((zup_nj (by omega)).trans ((zup_nj (by omega)).trans (zup_nj (by omega))))
      have r3 : (zup (zup (zup (zup s (42 + i) 3 v) (26 + k) 5 0) (26 + k) 4 0) (26 + k) 3 0) (42 + j9) 3 = s (42 + j9) 3 := (zup_nj (by omega)).trans ((zup_nj (by omega)).trans ((zup_nj (by omega)).trans (zup_nj (by omega))))
      have r4 : (zup (zup (zup (zup s (42 + i) 3 v) (26 + k) 5 0) (26 + k) 4 0) (26 + k) 3 0) (42 + j9) 4 = s (42 + j9) 4 := (zup_nj (by omega)).trans ((zup_nj (by omega)).trans ((zup_nj (by omega)).trans (zup_nj (by omega))))
      have r5 : (zup (zup (zup (zup s (42 + i) 3 v) (26 + k) 5 0) (26 + k) 4 0) (26 + k) 3 0) (42 + j9) 5 = s (42 + j9) 5 := (zup_nj (by omega)).trans ((zup_nj (by omega)).trans ((zup_nj (by omega)).trans (zup_nj (by omega))))
      rw [r0, r1, r2, r3, r4, r5]
      exact q9
theorem V_aim (V : zV g U F T B ph s) {k : Nat} {v : Int} (h0 : k < 16) (h1 : -1 ≤ v ∧ v < g 2) : zV g U F T B ph (zup s (26 + k) 6 v) := by
  have hB9 := zV_B V
  obtain ⟨a1, a2, a3, a4, a5, a6, a7, a8, a9, a10, a11, a12, a13, a14, a15⟩ := V
  refine ⟨zA_fr (fun p f h => zup_nj (by omega)) a1, zD_fr (fun p f h => zup_nj (by omega)) a2, zE_fr (fun p f h => zup_nj (by omega)) a3, zL1_fr (fun p f h => zup_nj (by omega)) a4, ?_, zG2_fr (fun p f h => zup_nj (by omega)) a6, zC1_fr (fun p f h => zup_nj (by omega)) a7, zC2_fr (fun p f h => zup_nj (by omega)) a8, zM1_fr (fun p f h => zup_nj (by omega)) a9, zM2_fr (fun p f h => zup_nj (by omega)) a10, zS2_fr (fun p f h => zup_nj (by omega)) a11, zP1_fr (fun p f h => zup_nj (by omega)) a12, zN1_fr (fun p f h => zup_nj (by omega)) a13, zZ1_fr (fun p f h => zup_nj (by omega)) a14, zX1_fr (fun p f h => zup_nj (by omega)) a15⟩
  · intro j9 hj9
    by_cases e9 : j9 = k
    · rw [e9]
      have q9 := a5 k (by omega)
      have r0 : (zup s (26 + k) 6 v) (26 + k) 0 = s (26 + k) 0 := zup_nj (by omega)
      have r1 : (zup s (26 + k) 6 v) (26 + k) 1 = s (26 + k) 1 := zup_nj (by omega)
      have r2 : (zup s (26 + k) 6 v) (26 + k) 2 = s (26 + k) 2 := zup_nj (by omega)
      have r3 : (zup s (26 + k) 6 v) (26 + k) 3 = s (26 + k) 3 := zup_nj (by omega)
      have r4 : (zup s (26 + k) 6 v) (26 + k) 4 = s (26 + k) 4 := zup_nj (by omega)
      have r5 : (zup s (26 + k) 6 v) (26 + k) 5 = s (26 + k) 5 := zup_nj (by omega)
      have r6 : (zup s (26 + k) 6 v) (26 + k) 6 = v := zup_ej
      rw [r0, r1, r2, r3, r4, r5, r6]
      omega
    · have q9 := a5 j9 hj9
      have r0 : (zup s (26 + k) 6 v) (26 + j9) 0 = s (26 + j9) 0 := zup_nj (by omega)
      have r1 : (zup s (26 + k) 6 v) (26 + j9) 1 = s (26 + j9) 1 := zup_nj (by omega)
      have r2 : (zup s (26 + k) 6 v) (26 + j9) 2 = s (26 + j9) 2 := zup_nj (by omega)
      have r3 : (zup s (26 + k) 6 v) (26 + j9) 3 = s (26 + j9) 3 := zup_nj (by omega)
      have r4 : (zup s (26 + k) 6 v) (26 + j9) 4 = s (26 + j9) 4 := zup_nj (by omega)
      have r5 : (zup s (26 + k) 6 v) (26 + j9) 5 = s (26 + j9) 5 := zup_nj (by omega)
      have r6 : (zup s (26 + k) 6 v) (26 + j9) 6 = s (26 + j9) 6 := zup_nj (by omega)
      rw [r0, r1, r2, r3, r4, r5, r6]
      exact q9
theorem V_heat (V : zV g U F T B ph s) {k : Nat} {v : Int} (h0 : k < 16) (h1 : 0 ≤ v ∧ v ≤ 3) : zV g U F T B ph (zup s (26 + k) 3 v) := by
  have hB9 := zV_B V
  obtain ⟨a1, a2, a3, a4, a5, a6, a7, a8, a9, a10, a11, a12, a13, a14, a15⟩ := V
  refine ⟨zA_fr (fun p f h => zup_nj (by omega)) a1, zD_fr (fun p f h => zup_nj (by omega)) a2, zE_fr (fun p f h => zup_nj (by omega)) a3, zL1_fr (fun p f h => zup_nj (by omega)) a4, ?_, zG2_fr (fun p f h => zup_nj (by omega)) a6, zC1_fr (fun p f h => zup_nj (by omega)) a7, zC2_fr (fun p f h => zup_nj (by omega)) a8, zM1_fr (fun p f h => zup_nj (by omega)) a9, zM2_fr (fun p f h => zup_nj (by omega)) a10, zS2_fr (fun p f h => zup_nj (by omega)) a11, zP1_fr (fun p f h => zup_nj (by omega)) a12, zN1_fr (fun p f h => zup_nj (by omega)) a13, zZ1_fr (fun p f h => zup_nj (by omega)) a14, zX1_fr (fun p f h => zup_nj (by omega)) a15⟩
  · intro j9 hj9
    by_cases e9 : j9 = k
    · rw [e9]
      have q9 := a5 k (by omega)
      have r0 : (zup s (26 + k) 3 v) (26 + k) 0 = s (26 + k) 0 := zup_nj (by omega)
      have r1 : (zup s (26 + k) 3 v) (26 + k) 1 = s (26 + k) 1 := zup_nj (by omega)
      have r2 : (zup s (26 + k) 3 v) (26 + k) 2 = s (26 + k) 2 := zup_nj (by omega)
      have r3 : (zup s (26 + k) 3 v) (26 + k) 3 = v := zup_ej
      have r4 : (zup s (26 + k) 3 v) (26 + k) 4 = s (26 + k) 4 := zup_nj (by omega)
      have r5 : (zup s (26 + k) 3 v) (26 + k) 5 = s (26 + k) 5 := zup_nj (by omega)
      have r6 : (zup s (26 + k) 3 v) (26 + k) 6 = s (26 + k) 6 := zup_nj (by omega)
      rw [r0, r1, r2, r3, r4, r5, r6]
      omega
    · have q9 := a5 j9 hj9
      have r0 : (zup s (26 + k) 3 v) (26 + j9) 0 = s (26 + j9) 0 := zup_nj (by omega)
      have r1 : (zup s (26 + k) 3 v) (26 + j9) 1 = s (26 + j9) 1 := zup_nj (by omega)
      have r2 : (zup s (26 + k) 3 v) (26 + j9) 2 = s (26 + j9) 2 := zup_nj (by omega)
      have r3 : (zup s (26 + k) 3 v) (26 + j9) 3 = s (26 + j9) 3 := zup_nj (by omega)
      have r4 : (zup s (26 + k) 3 v) (26 + j9) 4 = s (26 + j9) 4 := zup_nj (by omega)
      have r5 : (zup s (26 + k) 3 v) (26 + j9) 5 = s (26 + j9) 5 := zup_nj (by omega)
      have r6 : (zup s (26 + k) 3 v) (26 + j9) 6 = s (26 + j9) 6 := zup_nj (by omega)
      rw [r0, r1, r2, r3, r4, r5, r6]
      exact q9
theorem V_hits (V : zV g U F T B ph s) {k : Nat} {v : Int} (h0 : k < 16) (h1 : 0 ≤ v ∧ v ≤ B) (h2 : s (26 + k) 5 = 0 → v ≤ 9) : zV g U F T B ph (zup s (26 + k) 4 v) := by
  have hB9 := zV_B V
  obtain ⟨a1, a2, a3, a4, a5, a6, a7, a8, a9, a10, a11, a12, a13, a14, a15⟩ := V
  refine ⟨zA_fr (fun p f h => zup_nj (by omega)) a1, zD_fr (fun p f h => zup_nj (by omega)) a2, zE_fr (fun p f h => zup_nj (by omega)) a3, zL1_fr (fun p f h => zup_nj (by omega)) a4, ?_, ?_, zC1_fr (fun p f h => zup_nj (by omega)) a7, zC2_fr (fun p f h => zup_nj (by omega)) a8, zM1_fr (fun p f h => zup_nj (by omega)) a9, zM2_fr (fun p f h => zup_nj (by omega)) a10, zS2_fr (fun p f h => zup_nj (by omega)) a11, zP1_fr (fun p f h => zup_nj (by omega)) a12, zN1_fr (fun p f h => zup_nj (by omega)) a13, zZ1_fr (fun p f h => zup_nj (by omega)) a14, zX1_fr (fun p f h => zup_nj (by omega)) a15⟩
  · intro j9 hj9
    by_cases e9 : j9 = k
    · rw [e9]
      have q9 := a5 k (by omega)
      have r0 : (zup s (26 + k) 4 v) (26 + k) 0 = s (26 + k) 0 := zup_nj (by omega)
      have r1 : (zup s (26 + k) 4 v) (26 + k) 1 = s (26 + k) 1 := zup_nj (by omega)
      have r2 : (zup s (26 + k) 4 v) (26 + k) 2 = s (26 + k) 2 := zup_nj (by omega)
      have r3 : (zup s (26 + k) 4 v) (26 + k) 3 = s (26 + k) 3 := zup_nj (by omega)
      have r4 : (zup s (26 + k) 4 v) (26 + k) 4 = v := zup_ej
      have r5 : (zup s (26 + k) 4 v) (26 + k) 5 = s (26 + k) 5 := zup_nj (by omega)
      have r6 : (zup s (26 + k) 4 v) (26 + k) 6 = s (26 + k) 6 := zup_nj (by omega)
      rw [r0, r1, r2, r3, r4, r5, r6]
      omega
    · have q9 := a5 j9 hj9
      have r0 : (zup s (26 + k) 4 v) (26 + j9) 0 = s (26 + j9) 0 := zup_nj (by omega)
      have r1 : (zup s (26 + k) 4 v) (26 + j9) 1 = s (26 + j9) 1 := zup_nj (by omega)
      have r2 : (zup s (26 + k) 4 v) (26 + j9) 2 = s (26 + j9) 2 := zup_nj (by omega)
      have r3 : (zup s (26 + k) 4 v) (26 + j9) 3 = s (26 + j9) 3 := zup_nj (by omega)
      have r4 : (zup s (26 + k) 4 v) (26 + j9) 4 = s (26 + j9) 4 := zup_nj (by omega)
      have r5 : (zup s (26 + k) 4 v) (26 + j9) 5 = s (26 + j9) 5 := zup_nj (by omega)
      have r6 : (zup s (26 + k) 4 v) (26 + j9) 6 = s (26 + j9) 6 := zup_nj (by omega)
      rw [r0, r1, r2, r3, r4, r5, r6]
      exact q9
  · intro j9 hj9
    by_cases e9 : j9 = k
    · rw [e9]
      have q9 := a6 k (by omega)
      have r0 : (zup s (26 + k) 4 v) (26 + k) 0 = s (26 + k) 0 := zup_nj (by omega)
      have r1 : (zup s (26 + k) 4 v) (26 + k) 1 = s (26 + k) 1 := zup_nj (by omega)
      have r2 : (zup s (26 + k) 4 v) (26 + k) 2 = s (26 + k) 2 := zup_nj (by omega)
      have r3 : (zup s (26 + k) 4 v) (26 + k) 4 = v := zup_ej
      have r4 : (zup s (26 + k) 4 v) (26 + k) 5 = s (26 + k) 5 := zup_nj (by omega)
      rw [r0, r1, r2, r3, r4]
      omega
    · have q9 := a6 j9 hj9
      have r0 : (zup s (26 + k) 4 v) (26 + j9) 0 = s (26 + j9) 0 := zup_nj (by omega)
      have r1 : (zup s (26 + k) 4 v) (26 + j9) 1 = s (26 + j9) 1 := zup_nj (by omega)
      have r2 : (zup s (26 + k) 4 v) (26 + j9) 2 = s (26 + j9) 2 := zup_nj (by omega)
      have r3 : (zup s (26 + k) 4 v) (26 + j9) 4 = s (26 + j9) 4 := zup_nj (by omega)
      have r4 : (zup s (26 + k) 4 v) (26 + j9) 5 = s (26 + j9) 5 := zup_nj (by omega)
      rw [r0, r1, r2, r3, r4]
      exact q9
theorem V_hitd (V : zV g U F T B ph s) {k : Nat} {v : Int} (h0 : k < 16) (h1 : 0 ≤ v ∧ v ≤ B) : zV g U F T B ph (zup (zup s (26 + k) 4 v) (26 + k) 5 1) := by
  have hB9 := zV_B V
  obtain ⟨a1, a2, a3, a4, a5, a6, a7, a8, a9, a10, a11, a12, a13, a14, a15⟩ := V
  refine ⟨zA_fr (fun p f h => (zup_nj (by omega)).trans (zup_nj (by omega))) a1, zD_fr (fun p f h => (zup_nj (by omega)).trans (zup_nj (by omega))) a2, zE_fr (fun p f h => (zup_nj (by omega)).trans (zup_nj (by omega))) a3, zL1_fr (fun p f h => (zup_nj (by omega)).trans (zup_nj (by omega))) a4, ?_, ?_, zC1_fr (fun p f h => (zup_nj (by omega)).trans (zup_nj (by omega))) a7, zC2_fr (fun p f h => (zup_nj (by omega)).trans (zup_nj (by omega))) a8, zM1_fr (fun p f h => (zup_nj (by omega)).trans (zup_nj (by omega))) a9, zM2_fr (fun p f h => (zup_nj (by omega)).trans (zup_nj (by omega))) a10, zS2_fr (fun p f h => (zup_nj (by omega)).trans (zup_nj (by omega))) a11, zP1_fr (fun p f h => (zup_nj (by omega)).trans (zup_nj (by omega))) a12, zN1_fr (fun p f h => (zup_nj (by omega)).trans (zup_nj (by omega))) a13, zZ1_fr (fun p f h => (zup_nj (by omega)).trans (zup_nj (by omega))) a14, zX1_fr (fun p f h => (zup_nj (by omega)).trans (zup_nj (by omega))) a15⟩
  · intro j9 hj9
    by_cases e9 : j9 = k
    · rw [e9]
      have q9 := a5 k (by omega)
      have r0 : (zup (zup s (26 + k) 4 v) (26 + k) 5 1) (26 + k) 0 = s (26 + k) 0 := (zup_nj (by omega)).trans (zup_nj (by omega))
      have r1 : (zup (zup s (26 + k) 4 v) (26 + k) 5 1) (26 + k) 1 = s (26 + k) 1 := (zup_nj (by omega)).trans (zup_nj (by omega))
      have r2 : (zup (zup s (26 + k) 4 v) (26 + k) 5 1) (26 + k) 2 = s (26 + k) 2 := (zup_nj (by omega)).trans (zup_nj (by omega))
      have r3 : (zup (zup s (26 + k) 4 v) (26 + k) 5 1) (26 + k) 3 = s (26 + k) 3 := (zup_nj (by omega)).trans (zup_nj (by omega))
      have r4 : (zup (zup s (26 + k) 4 v) (26 + k) 5 1) (26 + k) 4 = v := (zup_nj (by omega)).trans zup_ej
      have r5 : (zup (zup s (26 + k) 4 v) (26 + k) 5 1) (26 + k) 5 = 1 := zup_ej
      have r6 : (zup (zup s (26 + k) 4 v) (26 + k) 5 1) (26 + k) 6 = s (26 + k) 6 := (zup_nj (by omega)).trans (zup_nj (by omega))
      rw [r0, r1, r2, r3, r4, r5, r6]
      omega
    · have q9 := a5 j9 hj9
      have r0 : (zup (zup s (26 + k) 4 v) (26 + k) 5 1) (26 + j9) 0 = s (26 + j9) 0 := (zup_nj (by omega)).trans (zup_nj (by omega))
      have r1 : (zup (zup s (26 + k) 4 v) (26 + k) 5 1) (26 + j9) 1 = s (26 + j9) 1 := (zup_nj (by omega)).trans (zup_nj (by omega))
      have r2 : (zup (zup s (26 + k) 4 v) (26 + k) 5 1) (26 + j9) 2 = s (26 + j9) 2 := (zup_nj (by omega)).trans (zup_nj (by omega))
      have r3 : (zup (zup s (26 + k) 4 v) (26 + k) 5 1) (26 + j9) 3 = s (26 + j9) 3 := (zup_nj (by omega)).trans (zup_nj (by omega))
      have r4 : (zup (zup s (26 + k) 4 v) (26 + k) 5 1) (26 + j9) 4 = s (26 + j9) 4 := (zup_nj (by omega)).trans (zup_nj (by omega))
      have r5 : (zup (zup s (26 + k) 4 v) (26 + k) 5 1) (26 + j9) 5 = s (26 + j9) 5 := (zup_nj (by omega)).trans (zup_nj (by omega))
      have r6 : (zup (zup s (26 + k) 4 v) (26 + k) 5 1) (26 + j9) 6 = s (26 + j9) 6 := (zup_nj (by omega)).trans (zup_nj (by omega))
      rw [r0, r1, r2, r3, r4, r5, r6]
      exact q9
  · intro j9 hj9
    by_cases e9 : j9 = k
    · rw [e9]
      have q9 := a6 k (by omega)
      have r0 : (zup (zup s (26 + k) 4 v) (26 + k) 5 1) (26 + k) 0 = s (26 + k) 0 := (zup_nj (by omega)).trans (zup_nj (by omega))
      have r1 : (zup (zup s (26 + k) 4 v) (26 + k) 5 1) (26 + k) 1 = s (26 + k) 1 := (zup_nj (by omega)).trans (zup_nj (by omega))
      have r2 : (zup (zup s (26 + k) 4 v) (26 + k) 5 1) (26 + k) 2 = s (26 + k) 2 := (zup_nj (by omega)).trans (zup_nj (by omega))
      have r3 : (zup (zup s (26 + k) 4 v) (26 + k) 5 1) (26 + k) 4 = v := (zup_nj (by omega)).trans zup_ej
      have r4 : (zup (zup s (26 + k) 4 v) (26 + k) 5 1) (26 + k) 5 = 1 := zup_ej
      rw [r0, r1, r2, r3, r4]
      omega
    · have q9 := a6 j9 hj9
      have r0 : (zup (zup s (26 + k) 4 v) (26 + k) 5 1) (26 + j9) 0 = s (26 + j9) 0 := (zup_nj (by omega)).trans (zup_nj (by omega))
      have r1 : (zup (zup s (26 + k) 4 v) (26 + k) 5 1) (26 + j9) 1 = s (26 + j9) 1 := (zup_nj (by omega)).trans (zup_nj (by omega))
      have r2 : (zup (zup s (26 + k) 4 v) (26 + k) 5 1) (26 + j9) 2 = s (26 + j9) 2 := (zup_nj (by omega)).trans (zup_nj (by omega))
      have r3 : (zup (zup s (26 + k) 4 v) (26 + k) 5 1) (26 + j9) 4 = s (26 + j9) 4 := (zup_nj (by omega)).trans (zup_nj (by omega))
      have r4 : (zup (zup s (26 + k) 4 v) (26 + k) 5 1) (26 + j9) 5 = s (26 + j9) 5 := (zup_nj (by omega)).trans (zup_nj (by omega))
      rw [r0, r1, r2, r3, r4]
      exact q9
theorem V_gst (V : zV g U F T B ph s) {k : Nat} {v : Int} (h0 : k < 16) (h1 : 1 ≤ v ∧ v ≤ 2) : zV g U F T B ph (zup s (26 + k) 5 v) := by
  have hB9 := zV_B V
  obtain ⟨a1, a2, a3, a4, a5, a6, a7, a8, a9, a10, a11, a12, a13, a14, a15⟩ := V
  refine ⟨zA_fr (fun p f h => zup_nj (by omega)) a1, zD_fr (fun p f h => zup_nj (by omega)) a2, zE_fr (fun p f h => zup_nj (by omega)) a3, zL1_fr (fun p f h => zup_nj (by omega)) a4, ?_, ?_, zC1_fr (fun p f h => zup_nj (by omega)) a7, zC2_fr (fun p f h => zup_nj (by omega)) a8, zM1_fr (fun p f h => zup_nj (by omega)) a9, zM2_fr (fun p f h => zup_nj (by omega)) a10, zS2_fr (fun p f h => zup_nj (by omega)) a11, zP1_fr (fun p f h => zup_nj (by omega)) a12, zN1_fr (fun p f h => zup_nj (by omega)) a13, zZ1_fr (fun p f h => zup_nj (by omega)) a14, zX1_fr (fun p f h => zup_nj (by omega)) a15⟩
  · intro j9 hj9
    by_cases e9 : j9 = k
    · rw [e9]
      have q9 := a5 k (by omega)
      have r0 : (zup s (26 + k) 5 v) (26 + k) 0 = s (26 + k) 0 := zup_nj (by omega)
      have r1 : (zup s (26 + k) 5 v) (26 + k) 1 = s (26 + k) 1 := zup_nj (by omega)
      have r2 : (zup s (26 + k) 5 v) (26 + k) 2 = s (26 + k) 2 := zup_nj (by omega)
      have r3 : (zup s (26 + k) 5 v) (26 + k) 3 = s (26 + k) 3 := zup_nj (by omega)
      have r4 : (zup s (26 + k) 5 v) (26 + k) 4 = s (26 + k) 4 := zup_nj (by omega)
      have r5 : (zup s (26 + k) 5 v) (26 + k) 5 = v := zup_ej
      have r6 : (zup s (26 + k) 5 v) (26 + k) 6 = s (26 + k) 6 := zup_nj (by omega)
      rw [r0, r1, r2, r3, r4, r5, r6]
      omega
    · have q9 := a5 j9 hj9
      have r0 : (zup s (26 + k) 5 v) (26 + j9) 0 = s (26 + j9) 0 := zup_nj (by omega)
      have r1 : (zup s (26 + k) 5 v) (26 + j9) 1 = s (26 + j9) 1 := zup_nj (by omega)
      have r2 : (zup s (26 + k) 5 v) (26 + j9) 2 = s (26 + j9) 2 := zup_nj (by omega)
      have r3 : (zup s (26 + k) 5 v) (26 + j9) 3 = s (26 + j9) 3 := zup_nj (by omega)
      have r4 : (zup s (26 + k) 5 v) (26 + j9) 4 = s (26 + j9) 4 := zup_nj (by omega)
      have r5 : (zup s (26 + k) 5 v) (26 + j9) 5 = s (26 + j9) 5 := zup_nj (by omega)
      have r6 : (zup s (26 + k) 5 v) (26 + j9) 6 = s (26 + j9) 6 := zup_nj (by omega)
      rw [r0, r1, r2, r3, r4, r5, r6]
      exact q9
  · intro j9 hj9
    by_cases e9 : j9 = k
    · rw [e9]
      have q9 := a6 k (by omega)
      have r0 : (zup s (26 + k) 5 v) (26 + k) 0 = s (26 + k) 0 := zup_nj (by omega)
      have r1 : (zup s (26 + k) 5 v) (26 + k) 1 = s (26 + k) 1 := zup_nj (by omega)
      have r2 : (zup s (26 + k) 5 v) (26 + k) 2 = s (26 + k) 2 := zup_nj (by omega)
      have r3 : (zup s (26 + k) 5 v) (26 + k) 4 = s (26 + k) 4 := zup_nj (by omega)
      have r4 : (zup s (26 + k) 5 v) (26 + k) 5 = v := zup_ej
      rw [r0, r1, r2, r3, r4]
      omega
    · have q9 := a6 j9 hj9
      have r0 : (zup s (26 + k) 5 v) (26 + j9) 0 = s (26 + j9) 0 := zup_nj (by omega)
      have r1 : (zup s (26 + k) 5 v) (26 + j9) 1 = s (26 + j9) 1 := zup_nj (by omega)
      have r2 : (zup s (26 + k) 5 v) (26 + j9) 2 = s (26 + j9) 2 := zup_nj (by omega)
      have r3 : (zup s (26 + k) 5 v) (26 + j9) 4 = s (26 + j9) 4 := zup_nj (by omega)
      have r4 : (zup s (26 + k) 5 v) (26 + j9) 5 = s (26 + j9) 5 := zup_nj (by omega)
      rw [r0, r1, r2, r3, r4]
      exact q9
theorem V_mor (V : zV g U F T B ph s) {o : Nat} {v : Int} (h0 : o = 21 ∨ o = 22) (h1 : 0 ≤ v ∧ v ≤ 100) : zV g U F T B ph (zup s o 3 v) := by
  have hB9 := zV_B V
  obtain ⟨a1, a2, a3, a4, a5, a6, a7, a8, a9, a10, a11, a12, a13, a14, a15⟩ := V
  refine ⟨zA_fr (fun p f h => zup_nj (by omega)) a1, zD_fr (fun p f h => zup_nj (by omega)) a2, zE_fr (fun p f h => zup_nj (by omega)) a3, zL1_fr (fun p f h => zup_nj (by omega)) a4, zG1_fr (fun p f h => zup_nj (by omega)) a5, zG2_fr (fun p f h => zup_nj (by omega)) a6, zC1_fr (fun p f h => zup_nj (by omega)) a7, zC2_fr (fun p f h => zup_nj (by omega)) a8, zM1_fr (fun p f h => zup_nj (by omega)) a9, zM2_fr (fun p f h => zup_nj (by omega)) a10, ?_, zP1_fr (fun p f h => zup_nj (by omega)) a12, zN1_fr (fun p f h => zup_nj (by omega)) a13, zZ1_fr (fun p f h => zup_nj (by omega)) a14, zX1_fr (fun p f h => zup_nj (by omega)) a15⟩
  · intro j9 hj9
    by_cases e9 : j9 = o
    · rw [e9]
      have q9 := a11 o (by omega)
      have r0 : (zup s o 3 v) o 0 = s o 0 := zup_nj (by omega)
      have r1 : (zup s o 3 v) o 1 = s o 1 := zup_nj (by omega)
      have r2 : (zup s o 3 v) o 2 = s o 2 := zup_nj (by omega)
      have r3 : (zup s o 3 v) o 3 = v := zup_ej
      rw [r0, r1, r2, r3]
      omega
    · have q9 := a11 j9 hj9
      have r0 : (zup s o 3 v) j9 0 = s j9 0 := zup_nj (by omega)
      have r1 : (zup s o 3 v) j9 1 = s j9 1 := zup_nj (by omega)
      have r2 : (zup s o 3 v) j9 2 = s j9 2 := zup_nj (by omega)
      have r3 : (zup s o 3 v) j9 3 = s j9 3 := zup_nj (by omega)
      rw [r0, r1, r2, r3]
      exact q9
theorem V_gab (V : zV g U F T B ph s) {o : Nat} {v : Int} (h0 : o = 21 ∨ o = 22) (h1 : 0 ≤ v ∧ v ≤ B) : zV g U F T B ph (zup s o 2 v) := by
  have hB9 := zV_B V
  obtain ⟨a1, a2, a3, a4, a5, a6, a7, a8, a9, a10, a11, a12, a13, a14, a15⟩ := V
  refine ⟨zA_fr (fun p f h => zup_nj (by omega)) a1, zD_fr (fun p f h => zup_nj (by omega)) a2, zE_fr (fun p f h => zup_nj (by omega)) a3, zL1_fr (fun p f h => zup_nj (by omega)) a4, zG1_fr (fun p f h => zup_nj (by omega)) a5, zG2_fr (fun p f h => zup_nj (by omega)) a6, zC1_fr (fun p f h => zup_nj (by omega)) a7, zC2_fr (fun p f h => zup_nj (by omega)) a8, zM1_fr (fun p f h => zup_nj (by omega)) a9, zM2_fr (fun p f h => zup_nj (by omega)) a10, ?_, zP1_fr (fun p f h => zup_nj (by omega)) a12, zN1_fr (fun p f h => zup_nj (by omega)) a13, zZ1_fr (fun p f h => zup_nj (by omega)) a14, zX1_fr (fun p f h => zup_nj (by omega)) a15⟩
  · intro j9 hj9
    by_cases e9 : j9 = o
    · rw [e9]
      have q9 := a11 o (by omega)
      have r0 : (zup s o 2 v) o 0 = s o 0 := zup_nj (by omega)
      have r1 : (zup s o 2 v) o 1 = s o 1 := zup_nj (by omega)
      have r2 : (zup s o 2 v) o 2 = v := zup_ej
      have r3 : (zup s o 2 v) o 3 = s o 3 := zup_nj (by omega)
      rw [r0, r1, r2, r3]
      omega
    · have q9 := a11 j9 hj9
      have r0 : (zup s o 2 v) j9 0 = s j9 0 := zup_nj (by omega)
      have r1 : (zup s o 2 v) j9 1 = s j9 1 := zup_nj (by omega)
      have r2 : (zup s o 2 v) j9 2 = s j9 2 := zup_nj (by omega)
      have r3 : (zup s o 2 v) j9 3 = s j9 3 := zup_nj (by omega)
      rw [r0, r1, r2, r3]
      exact q9
theorem V_food (V : zV g U F T B ph s) {o : Nat} {v w : Int} (h0 : o = 21 ∨ o = 22) (h1 : 0 ≤ v ∧ v ≤ B) : zV g U F T B ph (zup (zup s o 1 v) o 4 w) := by
  have hB9 := zV_B V
  obtain ⟨a1, a2, a3, a4, a5, a6, a7, a8, a9, a10, a11, a12, a13, a14, a15⟩ := V
  refine ⟨zA_fr (fun p f h => (zup_nj (by omega)).trans (zup_nj (by omega))) a1, zD_fr (fun p f h => (zup_nj (by omega)).trans (zup_nj (by omega))) a2, zE_fr (fun p f h => (zup_nj (by omega)).trans (zup_nj (by omega))) a3, zL1_fr (fun p f h => (zup_nj (by omega)).trans (zup_nj (by omega))) a4, zG1_fr (fun p f h => (zup_nj (by omega)).trans (zup_nj (by omega))) a5, zG2_fr (fun p f h => (zup_nj (by omega)).trans (zup_nj (by omega))) a6, zC1_fr (fun p f h => (zup_nj (by omega)).trans (zup_nj (by omega))) a7, zC2_fr (fun p f h => (zup_nj (by omega)).trans (zup_nj (by omega))) a8, zM1_fr (fun p f h => (zup_nj (by omega)).trans (zup_nj (by omega))) a9, zM2_fr (fun p f h => (zup_nj (by omega)).trans (zup_nj (by omega))) a10, ?_, zP1_fr (fun p f h => (zup_nj (by omega)).trans (zup_nj (by omega))) a12, zN1_fr (fun p f h => (zup_nj (by omega)).trans (zup_nj (by omega))) a13, zZ1_fr (fun p f h => (zup_nj (by omega)).trans (zup_nj (by omega))) a14, zX1_fr (fun p f h => (zup_nj (by omega)).trans (zup_nj (by omega))) a15⟩
  · intro j9 hj9
    by_cases e9 : j9 = o
    · rw [e9]
      have q9 := a11 o (by omega)
      have r0 : (zup (zup s o 1 v) o 4 w) o 0 = s o 0 := (zup_nj (by omega)).trans (zup_nj (by omega))
      have r1 : (zup (zup s o 1 v) o 4 w) o 1 = v := (zup_nj (by omega)).trans zup_ej
      have r2 : (zup (zup s o 1 v) o 4 w) o 2 = s o 2 := (zup_nj (by omega)).trans (zup_nj (by omega))
      have r3 : (zup (zup s o 1 v) o 4 w) o 3 = s o 3 := (zup_nj (by omega)).trans (zup_nj (by omega))
      rw [r0, r1, r2, r3]
      omega
    · have q9 := a11 j9 hj9
      have r0 : (zup (zup s o 1 v) o 4 w) j9 0 = s j9 0 := (zup_nj (by omega)).trans (zup_nj (by omega))
      have r1 : (zup (zup s o 1 v) o 4 w) j9 1 = s j9 1 := (zup_nj (by omega)).trans (zup_nj (by omega))
      have r2 : (zup (zup s o 1 v) o 4 w) j9 2 = s j9 2 := (zup_nj (by omega)).trans (zup_nj (by omega))
      have r3 : (zup (zup s o 1 v) o 4 w) j9 3 = s j9 3 := (zup_nj (by omega)).trans (zup_nj (by omega))
      rw [r0, r1, r2, r3]
      exact q9
theorem V_spend (V : zV g U F T B ph s) {o : Nat} {x : Int} (h0 : o = 21 ∨ o = 22) (h1 : 0 ≤ x ∧ x ≤ s o 0) : zV g U F T B ph (zup (zup s o 0 (s o 0 - x)) o 6 (s o 6 + x)) := by
  have hB9 := zV_B V
  obtain ⟨a1, a2, a3, a4, a5, a6, a7, a8, a9, a10, a11, a12, a13, a14, a15⟩ := V
  refine ⟨zA_fr (fun p f h => (zup_nj (by omega)).trans (zup_nj (by omega))) a1, zD_fr (fun p f h => (zup_nj (by omega)).trans (zup_nj (by omega))) a2, zE_fr (fun p f h => (zup_nj (by omega)).trans (zup_nj (by omega))) a3, zL1_fr (fun p f h => (zup_nj (by omega)).trans (zup_nj (by omega))) a4, zG1_fr (fun p f h => (zup_nj (by omega)).trans (zup_nj (by omega))) a5, zG2_fr (fun p f h => (zup_nj (by omega)).trans (zup_nj (by omega))) a6, zC1_fr (fun p f h => (zup_nj (by omega)).trans (zup_nj (by omega))) a7, zC2_fr (fun p f h => (zup_nj (by omega)).trans (zup_nj (by omega))) a8, zM1_fr (fun p f h => (zup_nj (by omega)).trans (zup_nj (by omega))) a9, zM2_fr (fun p f h => (zup_nj (by omega)).trans (zup_nj (by omega))) a10, ?_, ?_, zN1_fr (fun p f h => (zup_nj (by omega)).trans (zup_nj (by omega))) a13, zZ1_fr (fun p f h => (zup_nj (by omega)).trans (zup_nj (by omega))) a14, zX1_fr (fun p f h => (zup_nj (by omega)).trans (zup_nj (by omega))) a15⟩
  · intro j9 hj9
    by_cases e9 : j9 = o
    · rw [e9]
      have q9 := a11 o (by omega)
      have r0 : (zup (zup s o 0 (s o 0 - x)) o 6 (s o 6 + x)) o 0 = (s o 0 - x) := (zup_nj (by omega)).trans zup_ej
      have r1 : (zup (zup s o 0 (s o 0 - x)) o 6 (s o 6 + x)) o 1 = s o 1 := (zup_nj (by omega)).trans (zup_nj (by omega))
      have r2 : (zup (zup s o 0 (s o 0 - x)) o 6 (s o 6 + x)) o 2 = s o 2 := (zup_nj (by omega)).trans (zup_nj (by omega))
      have r3 : (zup (zup s o 0 (s o 0 - x)) o 6 (s o 6 + x)) o 3 = s o 3 := (zup_nj (by omega)).trans (zup_nj (by omega))
      rw [r0, r1, r2, r3]
      omega
    · have q9 := a11 j9 hj9
      have r0 : (zup (zup s o 0 (s o 0 - x)) o 6 (s o 6 + x)) j9 0 = s j9 0 := (zup_nj (by omega)).trans (zup_nj (by omega))
      have r1 : (zup (zup s o 0 (s o 0 - x)) o 6 (s o 6 + x)) j9 1 = s j9 1 := (zup_nj (by omega)).trans (zup_nj (by omega))
      have r2 : (zup (zup s o 0 (s o 0 - x)) o 6 (s o 6 + x)) j9 2 = s j9 2 := (zup_nj (by omega)).trans (zup_nj (by omega))
      have r3 : (zup (zup s o 0 (s o 0 - x)) o 6 (s o 6 + x)) j9 3 = s j9 3 := (zup_nj (by omega)).trans (zup_nj (by omega))
      rw [r0, r1, r2, r3]
      exact q9
  · have e9 : ∀ d, zmc (zup (zup s o 0 (s o 0 - x)) o 6 (s o 6 + x)) d 6 = zmc s d 6 := fun d => zsm_eq (fun j hj => by rw [show (zup (zup s o 0 (s o 0 - x)) o 6 (s o 6 + x)) (54 + 2 * j) 1 = s (54 + 2 * j) 1 from (zup_nj (by omega)).trans (zup_nj (by omega)), show (zup (zup s o 0 (s o 0 - x)) o 6 (s o 6 + x)) (54 + 2 * j) 4 = s (54 + 2 * j) 4 from (zup_nj (by omega)).trans (zup_nj (by omega)), show (zup (zup s o 0 (s o 0 - x)) o 6 (s o 6 + x)) (54 + 2 * j) 6 = s (54 + 2 * j) 6 from (zup_nj (by omega)).trans (zup_nj (by omega))])
    have q12 := a12
    unfold zP1 at q12 ⊢
    rw [e9, e9]
    clear e9 a1 a2 a3 a4 a5 a6 a7 a8 a9 a10 a11 a12 a13 a14 a15
    rcases h0 with e9 | e9
    · subst e9
      have r0 : (zup (zup s 21 0 (s 21 0 - x)) 21 6 (s 21 6 + x)) 21 0 = (s 21 0 - x) := (zup_nj (by omega)).trans zup_ej
      have r1 : (zup (zup s 21 0 (s 21 0 - x)) 21 6 (s 21 6 + x)) 21 6 = (s 21 6 + x) := zup_ej
      have r2 : (zup (zup s 21 0 (s 21 0 - x)) 21 6 (s 21 6 + x)) 21 10 = s 21 10 := (zup_nj (by omega)).trans (zup_nj (by omega))
      have r3 : (zup (zup s 21 0 (s 21 0 - x)) 21 6 (s 21 6 + x)) 22 0 = s 22 0 := (zup_nj (by omega)).trans (zup_nj (by omega))
      have r4 : (zup (zup s 21 0 (s 21 0 - x)) 21 6 (s 21 6 + x)) 22 6 = s 22 6 := (zup_nj (by omega)).trans (zup_nj (by omega))
      have r5 : (zup (zup s 21 0 (s 21 0 - x)) 21 6 (s 21 6 + x)) 22 10 = s 22 10 := (zup_nj (by omega)).trans (zup_nj (by omega))
      rw [r0, r1, r2, r3, r4, r5]
      omega
    · subst e9
      have r0 : (zup (zup s 22 0 (s 22 0 - x)) 22 6 (s 22 6 + x)) 21 0 = s 21 0 := (zup_nj (by omega)).trans (zup_nj (by omega))
      have r1 : (zup (zup s 22 0 (s 22 0 - x)) 22 6 (s 22 6 + x)) 21 6 = s 21 6 := (zup_nj (by omega)).trans (zup_nj (by omega))
      have r2 : (zup (zup s 22 0 (s 22 0 - x)) 22 6 (s 22 6 + x)) 21 10 = s 21 10 := (zup_nj (by omega)).trans (zup_nj (by omega))
      have r3 : (zup (zup s 22 0 (s 22 0 - x)) 22 6 (s 22 6 + x)) 22 0 = (s 22 0 - x) := (zup_nj (by omega)).trans zup_ej
      have r4 : (zup (zup s 22 0 (s 22 0 - x)) 22 6 (s 22 6 + x)) 22 6 = (s 22 6 + x) := zup_ej
      have r5 : (zup (zup s 22 0 (s 22 0 - x)) 22 6 (s 22 6 + x)) 22 10 = s 22 10 := (zup_nj (by omega)).trans (zup_nj (by omega))
      rw [r0, r1, r2, r3, r4, r5]
      omega
theorem V_take (V : zV g U F T B ph s) {o i : Nat} {x : Int} (h0 : i < 12) (h1 : s (42 + i) 0 = 1 ∧ o = 22 ∨ ¬ s (42 + i) 0 = 1 ∧ o = 21) (h2 : 0 ≤ x ∧ x ≤ s (42 + i) 2) : zV g U F T B ph (zup (zup s (42 + i) 2 (s (42 + i) 2 - x)) o 7 (s o 7 + x)) := by
  have hB9 := zV_B V
  obtain ⟨a1, a2, a3, a4, a5, a6, a7, a8, a9, a10, a11, a12, a13, a14, a15⟩ := V
  refine ⟨zA_fr (fun p f h => (zup_nj (by omega)).trans (zup_nj (by omega))) a1, zD_fr (fun p f h => (zup_nj (by omega)).trans (zup_nj (by omega))) a2, zE_fr (fun p f h => (zup_nj (by omega)).trans (zup_nj (by omega))) a3, zL1_fr (fun p f h => (zup_nj (by omega)).trans (zup_nj (by omega))) a4, zG1_fr (fun p f h => (zup_nj (by omega)).trans (zup_nj (by omega))) a5, zG2_fr (fun p f h => (zup_nj (by omega)).trans (zup_nj (by omega))) a6, ?_, ?_, zM1_fr (fun p f h => (zup_nj (by omega)).trans (zup_nj (by omega))) a9, zM2_fr (fun p f h => (zup_nj (by omega)).trans (zup_nj (by omega))) a10, zS2_fr (fun p f h => (zup_nj (by omega)).trans (zup_nj (by omega))) a11, zP1_fr (fun p f h => (zup_nj (by omega)).trans (zup_nj (by omega))) a12, ?_, zZ1_fr (fun p f h => (zup_nj (by omega)).trans (zup_nj (by omega))) a14, zX1_fr (fun p f h => (zup_nj (by omega)).trans (zup_nj (by omega))) a15⟩
  · intro j9 hj9
    by_cases e9 : j9 = i
    · rw [e9]
      have q9 := a7 i (by omega)
      have r0 : (zup (zup s (42 + i) 2 (s (42 + i) 2 - x)) o 7 (s o 7 + x)) (42 + i) 0 = s (42 + i) 0 := (zup_nj (by omega)).trans (zup_nj (by omega))
      have r1 : (zup (zup s (42 + i) 2 (s (42 + i) 2 - x)) o 7 (s o 7 + x)) (42 + i) 1 = s (42 + i) 1 := (zup_nj (by omega)).trans (zup_nj (by omega))
      have r2 : (zup (zup s (42 + i) 2 (s (42 + i) 2 - x)) o 7 (s o 7 + x)) (42 + i) 2 = (s (42 + i) 2 - x) := (zup_nj (by omega)).trans zup_ej
      have r3 : (zup (zup s (42 + i) 2 (s (42 + i) 2 - x)) o 7 (s o 7 + x)) (42 + i) 3 = s (42 + i) 3 := (zup_nj (by omega)).trans (zup_nj (by omega))
      have r4 : (zup (zup s (42 + i) 2 (s (42 + i) 2 - x)) o 7 (s o 7 + x)) (42 + i) 4 = s (42 + i) 4 := (zup_nj (by omega)).trans (zup_nj (by omega))
      have r5 : (zup (zup s (42 + i) 2 (s (42 + i) 2 - x)) o 7 (s o 7 + x)) (42 + i) 5 = s (42 + i) 5 := (zup_nj (by omega)).trans (zup_nj (by omega))
      rw [r0, r1, r2, r3, r4, r5]
      omega
    · have q9 := a7 j9 hj9
      have r0 : (zup (zup s (42 + i) 2 (s (42 + i) 2 - x)) o 7 (s o 7 + x)) (42 + j9) 0 = s (42 + j9) 0 := (zup_nj (by omega)).trans (zup_nj (by omega))
      have r1 : (zup (zup s (42 + i) 2 (s (42 + i) 2 - x)) o 7 (s o 7 + x)) (42 + j9) 1 = s (42 + j9) 1 := (zup_nj (by omega)).trans (zup_nj (by omega))
      have r2 : (zup (zup s (42 + i) 2 (s (42 + i) 2 - x)) o 7 (s o 7 + x)) (42 + j9) 2 = s (42 + j9) 2 := (zup_nj (by omega)).trans (zup_nj (by omega))
      have r3 : (zup (zup s (42 + i) 2 (s (42 + i) 2 - x)) o 7 (s o 7 + x)) (42 + j9) 3 = s (42 + j9) 3 := (zup_nj (by omega)).trans (zup_nj (by omega))
      have r4 : (zup (zup s (42 + i) 2 (s (42 + i) 2 - x)) o 7 (s o 7 + x)) (42 + j9) 4 = s (42 + j9) 4 := (zup_nj (by omega)).trans (zup_nj (by omega))
      have r5 : (zup (zup s (42 + i) 2 (s (42 + i) 2 - x)) o 7 (s o 7 + x)) (42 + j9) 5 = s (42 + j9) 5 := (zup_nj (by omega)).trans (zup_nj (by omega))
      rw [r0, r1, r2, r3, r4, r5]
      exact q9
  · intro j9 hj9
    by_cases e9 : j9 = i
    · rw [e9]
      have q9 := a8 i (by omega)
      have r0 : (zup (zup s (42 + i) 2 (s (42 + i) 2 - x)) o 7 (s o 7 + x)) (42 + i) 0 = s (42 + i) 0 := (zup_nj (by omega)).trans (zup_nj (by omega))
      have r1 : (zup (zup s (42 + i) 2 (s (42 + i) 2 - x)) o 7 (s o 7 + x)) (42 + i) 1 = s (42 + i) 1 := (zup_nj (by omega)).trans (zup_nj (by omega))
      have r2 : (zup (zup s (42 + i) 2 (s (42 + i) 2 - x)) o 7 (s o 7 + x)) (42 + i) 2 = (s (42 + i) 2 - x) := (zup_nj (by omega)).trans zup_ej
      have r3 : (zup (zup s (42 + i) 2 (s (42 + i) 2 - x)) o 7 (s o 7 + x)) (42 + i) 4 = s (42 + i) 4 := (zup_nj (by omega)).trans (zup_nj (by omega))
      have r4 : (zup (zup s (42 + i) 2 (s (42 + i) 2 - x)) o 7 (s o 7 + x)) (42 + i) 5 = s (42 + i) 5 := (zup_nj (by omega)).trans (zup_nj (by omega))
      rw [r0, r1, r2, r3, r4]
      omega
    · have q9 := a8 j9 hj9
      have r0 : (zup (zup s (42 + i) 2 (s (42 + i) 2 - x)) o 7 (s o 7 + x)) (42 + j9) 0 = s (42 + j9) 0 := (zup_nj (by omega)).trans (zup_nj (by omega))
      have r1 : (zup (zup s (42 + i) 2 (s (42 + i) 2 - x)) o 7 (s o 7 + x)) (42 + j9) 1 = s (42 + j9) 1 := (zup_nj (by omega)).trans (zup_nj (by omega))
      have r2 : (zup (zup s (42 + i) 2 (s (42 + i) 2 - x)) o 7 (s o 7 + x)) (42 + j9) 2 = s (42 + j9) 2 := (zup_nj (by omega)).trans (zup_nj (by omega))
      have r3 : (zup (zup s (42 + i) 2 (s (42 + i) 2 - x)) o 7 (s o 7 + x)) (42 + j9) 4 = s (42 + j9) 4 := (zup_nj (by omega)).trans (zup_nj (by omega))
      have r4 : (zup (zup s (42 + i) 2 (s (42 + i) 2 - x)) o 7 (s o 7 + x)) (42 + j9) 5 = s (42 + j9) 5 := (zup_nj (by omega)).trans (zup_nj (by omega))
      rw [r0, r1, r2, r3, r4]
      exact q9
  · have m0 := zmm_w (s := s) (s' := (zup (zup s (42 + i) 2 (s (42 + i) 2 - x)) o 7 (s o 7 + x))) (i := i) (fun j hj => (zup_nj (by omega)).trans (zup_nj (by omega))) (fun j hj => (zup_nj (by omega)).trans (zup_nj (by omega))) (by omega) 0
    have m1 := zmm_w (s := s) (s' := (zup (zup s (42 + i) 2 (s (42 + i) 2 - x)) o 7 (s o 7 + x))) (i := i) (fun j hj => (zup_nj (by omega)).trans (zup_nj (by omega))) (fun j hj => (zup_nj (by omega)).trans (zup_nj (by omega))) (by omega) 1
    have q13 := a13
    have q7 := (a7 i (by omega)).1
    have q8 := a8 i (by omega)
    unfold zN1 at q13 ⊢
    rw [m0, m1]
    clear m0 m1 a1 a2 a3 a4 a5 a6 a7 a8 a9 a10 a11 a12 a13 a14 a15
    rcases h1 with ⟨h1, e9⟩ | ⟨h1, e9⟩
    · subst e9
      have r0 : (zup (zup s (42 + i) 2 (s (42 + i) 2 - x)) 22 7 (s 22 7 + x)) (42 + i) 2 = (s (42 + i) 2 - x) := (zup_nj (by omega)).trans zup_ej
      have r1 : (zup (zup s (42 + i) 2 (s (42 + i) 2 - x)) 22 7 (s 22 7 + x)) 21 7 = s 21 7 := (zup_nj (by omega)).trans (zup_nj (by omega))
      have r2 : (zup (zup s (42 + i) 2 (s (42 + i) 2 - x)) 22 7 (s 22 7 + x)) 21 9 = s 21 9 := (zup_nj (by omega)).trans (zup_nj (by omega))
      have r3 : (zup (zup s (42 + i) 2 (s (42 + i) 2 - x)) 22 7 (s 22 7 + x)) 22 7 = (s 22 7 + x) := zup_ej
      have r4 : (zup (zup s (42 + i) 2 (s (42 + i) 2 - x)) 22 7 (s 22 7 + x)) 22 9 = s 22 9 := (zup_nj (by omega)).trans (zup_nj (by omega))
      rw [r0, r1, r2, r3, r4]
      omega
    · subst e9
      have r0 : (zup (zup s (42 + i) 2 (s (42 + i) 2 - x)) 21 7 (s 21 7 + x)) (42 + i) 2 = (s (42 + i) 2 - x) := (zup_nj (by omega)).trans zup_ej
      have r1 : (zup (zup s (42 + i) 2 (s (42 + i) 2 - x)) 21 7 (s 21 7 + x)) 21 7 = (s 21 7 + x) := zup_ej
      have r2 : (zup (zup s (42 + i) 2 (s (42 + i) 2 - x)) 21 7 (s 21 7 + x)) 21 9 = s 21 9 := (zup_nj (by omega)).trans (zup_nj (by omega))
      have r3 : (zup (zup s (42 + i) 2 (s (42 + i) 2 - x)) 21 7 (s 21 7 + x)) 22 7 = s 22 7 := (zup_nj (by omega)).trans (zup_nj (by omega))
      have r4 : (zup (zup s (42 + i) 2 (s (42 + i) 2 - x)) 21 7 (s 21 7 + x)) 22 9 = s 22 9 := (zup_nj (by omega)).trans (zup_nj (by omega))
      rw [r0, r1, r2, r3, r4]
      omega
theorem V_sick (V : zV g U F T B ph s) {o i : Nat} {x : Int} (h0 : i < 12) (h1 : s (42 + i) 0 = 1 ∧ o = 22 ∨ ¬ s (42 + i) 0 = 1 ∧ o = 21) (h2 : 0 ≤ x ∧ x ≤ s (42 + i) 2) : zV g U F T B ph (zup (zup s (42 + i) 2 (s (42 + i) 2 - x)) o 9 (s o 9 + x)) := by
  have hB9 := zV_B V
  obtain ⟨a1, a2, a3, a4, a5, a6, a7, a8, a9, a10, a11, a12, a13, a14, a15⟩ := V
  refine ⟨zA_fr (fun p f h => (zup_nj (by omega)).trans (zup_nj (by omega))) a1, zD_fr (fun p f h => (zup_nj (by omega)).trans (zup_nj (by omega))) a2, zE_fr (fun p f h => (zup_nj (by omega)).trans (zup_nj (by omega))) a3, zL1_fr (fun p f h => (zup_nj (by omega)).trans (zup_nj (by omega))) a4, zG1_fr (fun p f h => (zup_nj (by omega)).trans (zup_nj (by omega))) a5, zG2_fr (fun p f h => (zup_nj (by omega)).trans (zup_nj (by omega))) a6, ?_, ?_, zM1_fr (fun p f h => (zup_nj (by omega)).trans (zup_nj (by omega))) a9, zM2_fr (fun p f h => (zup_nj (by omega)).trans (zup_nj (by omega))) a10, zS2_fr (fun p f h => (zup_nj (by omega)).trans (zup_nj (by omega))) a11, zP1_fr (fun p f h => (zup_nj (by omega)).trans (zup_nj (by omega))) a12, ?_, zZ1_fr (fun p f h => (zup_nj (by omega)).trans (zup_nj (by omega))) a14, zX1_fr (fun p f h => (zup_nj (by omega)).trans (zup_nj (by omega))) a15⟩
  · intro j9 hj9
    by_cases e9 : j9 = i
    · rw [e9]
      have q9 := a7 i (by omega)
      have r0 : (zup (zup s (42 + i) 2 (s (42 + i) 2 - x)) o 9 (s o 9 + x)) (42 + i) 0 = s (42 + i) 0 := (zup_nj (by omega)).trans (zup_nj (by omega))
      have r1 : (zup (zup s (42 + i) 2 (s (42 + i) 2 - x)) o 9 (s o 9 + x)) (42 + i) 1 = s (42 + i) 1 := (zup_nj (by omega)).trans (zup_nj (by omega))
      have r2 : (zup (zup s (42 + i) 2 (s (42 + i) 2 - x)) o 9 (s o 9 + x)) (42 + i) 2 = (s (42 + i) 2 - x) := (zup_nj (by omega)).trans zup_ej
      have r3 : (zup (zup s (42 + i) 2 (s (42 + i) 2 - x)) o 9 (s o 9 + x)) (42 + i) 3 = s (42 + i) 3 := (zup_nj (by omega)).trans (zup_nj (by omega))
      have r4 : (zup (zup s (42 + i) 2 (s (42 + i) 2 - x)) o 9 (s o 9 + x)) (42 + i) 4 = s (42 + i) 4 := (zup_nj (by omega)).trans (zup_nj (by omega))
      have r5 : (zup (zup s (42 + i) 2 (s (42 + i) 2 - x)) o 9 (s o 9 + x)) (42 + i) 5 = s (42 + i) 5 := (zup_nj (by omega)).trans (zup_nj (by omega))
      rw [r0, r1, r2, r3, r4, r5]
      omega
    · have q9 := a7 j9 hj9
      have r0 : (zup (zup s (42 + i) 2 (s (42 + i) 2 - x)) o 9 (s o 9 + x)) (42 + j9) 0 = s (42 + j9) 0 := (zup_nj (by omega)).trans (zup_nj (by omega))
      have r1 : (zup (zup s (42 + i) 2 (s (42 + i) 2 - x)) o 9 (s o 9 + x)) (42 + j9) 1 = s (42 + j9) 1 := (zup_nj (by omega)).trans (zup_nj (by omega))
      have r2 : (zup (zup s (42 + i) 2 (s (42 + i) 2 - x)) o 9 (s o 9 + x)) (42 + j9) 2 = s (42 + j9) 2 := (zup_nj (by omega)).trans (zup_nj (by omega))
      have r3 : (zup (zup s (42 + i) 2 (s (42 + i) 2 - x)) o 9 (s o 9 + x)) (42 + j9) 3 = s (42 + j9) 3 := (zup_nj (by omega)).trans (zup_nj (by omega))
      have r4 : (zup (zup s (42 + i) 2 (s (42 + i) 2 - x)) o 9 (s o 9 + x)) (42 + j9) 4 = s (42 + j9) 4 := (zup_nj (by omega)).trans (zup_nj (by omega))
      have r5 : (zup (zup s (42 + i) 2 (s (42 + i) 2 - x)) o 9 (s o 9 + x)) (42 + j9) 5 = s (42 + j9) 5 := (zup_nj (by omega)).trans (zup_nj (by omega))
      rw [r0, r1, r2, r3, r4, r5]
      exact q9
  · intro j9 hj9
    by_cases e9 : j9 = i
    · rw [e9]
      have q9 := a8 i (by omega)
      have r0 : (zup (zup s (42 + i) 2 (s (42 + i) 2 - x)) o 9 (s o 9 + x)) (42 + i) 0 = s (42 + i) 0 := (zup_nj (by omega)).trans (zup_nj (by omega))
      have r1 : (zup (zup s (42 + i) 2 (s (42 + i) 2 - x)) o 9 (s o 9 + x)) (42 + i) 1 = s (42 + i) 1 := (zup_nj (by omega)).trans (zup_nj (by omega))
      have r2 : (zup (zup s (42 + i) 2 (s (42 + i) 2 - x)) o 9 (s o 9 + x)) (42 + i) 2 = (s (42 + i) 2 - x) := (zup_nj (by omega)).trans zup_ej
      have r3 : (zup (zup s (42 + i) 2 (s (42 + i) 2 - x)) o 9 (s o 9 + x)) (42 + i) 4 = s (42 + i) 4 := (zup_nj (by omega)).trans (zup_nj (by omega))
      have r4 : (zup (zup s (42 + i) 2 (s (42 + i) 2 - x)) o 9 (s o 9 + x)) (42 + i) 5 = s (42 + i) 5 := (zup_nj (by omega)).trans (zup_nj (by omega))
      rw [r0, r1, r2, r3, r4]
      omega
    · have q9 := a8 j9 hj9
      have r0 : (zup (zup s (42 + i) 2 (s (42 + i) 2 - x)) o 9 (s o 9 + x)) (42 + j9) 0 = s (42 + j9) 0 := (zup_nj (by omega)).trans (zup_nj (by omega))
      have r1 : (zup (zup s (42 + i) 2 (s (42 + i) 2 - x)) o 9 (s o 9 + x)) (42 + j9) 1 = s (42 + j9) 1 := (zup_nj (by omega)).trans (zup_nj (by omega))
      have r2 : (zup (zup s (42 + i) 2 (s (42 + i) 2 - x)) o 9 (s o 9 + x)) (42 + j9) 2 = s (42 + j9) 2 := (zup_nj (by omega)).trans (zup_nj (by omega))
      have r3 : (zup (zup s (42 + i) 2 (s (42 + i) 2 - x)) o 9 (s o 9 + x)) (42 + j9) 4 = s (42 + j9) 4 := (zup_nj (by omega)).trans (zup_nj (by omega))
      have r4 : (zup (zup s (42 + i) 2 (s (42 + i) 2 - x)) o 9 (s o 9 + x)) (42 + j9) 5 = s (42 + j9) 5 := (zup_nj (by omega)).trans (zup_nj (by omega))
      rw [r0, r1, r2, r3, r4]
      exact q9
  · have m0 := zmm_w (s := s) (s' := (zup (zup s (42 + i) 2 (s (42 + i) 2 - x)) o 9 (s o 9 + x))) (i := i) (fun j hj => (zup_nj (by omega)).trans (zup_nj (by omega))) (fun j hj => (zup_nj (by omega)).trans (zup_nj (by omega))) (by omega) 0
    have m1 := zmm_w (s := s) (s' := (zup (zup s (42 + i) 2 (s (42 + i) 2 - x)) o 9 (s o 9 + x))) (i := i) (fun j hj => (zup_nj (by omega)).trans (zup_nj (by omega))) (fun j hj => (zup_nj (by omega)).trans (zup_nj (by omega))) (by omega) 1
    have q13 := a13
    have q7 := (a7 i (by omega)).1
    have q8 := a8 i (by omega)
    unfold zN1 at q13 ⊢
    rw [m0, m1]
    clear m0 m1 a1 a2 a3 a4 a5 a6 a7 a8 a9 a10 a11 a12 a13 a14 a15
    rcases h1 with ⟨h1, e9⟩ | ⟨h1, e9⟩
    · subst e9
      have r0 : (zup (zup s (42 + i) 2 (s (42 + i) 2 - x)) 22 9 (s 22 9 + x)) (42 + i) 2 = (s (42 + i) 2 - x) := (zup_nj (by omega)).trans zup_ej
      have r1 : (zup (zup s (42 + i) 2 (s (42 + i) 2 - x)) 22 9 (s 22 9 + x)) 21 7 = s 21 7 := (zup_nj (by omega)).trans (zup_nj (by omega))
      have r2 : (zup (zup s (42 + i) 2 (s (42 + i) 2 - x)) 22 9 (s 22 9 + x)) 21 9 = s 21 9 := (zup_nj (by omega)).trans (zup_nj (by omega))
      have r3 : (zup (zup s (42 + i) 2 (s (42 + i) 2 - x)) 22 9 (s 22 9 + x)) 22 7 = s 22 7 := (zup_nj (by omega)).trans (zup_nj (by omega))
      have r4 : (zup (zup s (42 + i) 2 (s (42 + i) 2 - x)) 22 9 (s 22 9 + x)) 22 9 = (s 22 9 + x) := zup_ej
      rw [r0, r1, r2, r3, r4]
      omega
    · subst e9
      have r0 : (zup (zup s (42 + i) 2 (s (42 + i) 2 - x)) 21 9 (s 21 9 + x)) (42 + i) 2 = (s (42 + i) 2 - x) := (zup_nj (by omega)).trans zup_ej
      have r1 : (zup (zup s (42 + i) 2 (s (42 + i) 2 - x)) 21 9 (s 21 9 + x)) 21 7 = s 21 7 := (zup_nj (by omega)).trans (zup_nj (by omega))
      have r2 : (zup (zup s (42 + i) 2 (s (42 + i) 2 - x)) 21 9 (s 21 9 + x)) 21 9 = (s 21 9 + x) := zup_ej
      have r3 : (zup (zup s (42 + i) 2 (s (42 + i) 2 - x)) 21 9 (s 21 9 + x)) 22 7 = s 22 7 := (zup_nj (by omega)).trans (zup_nj (by omega))
      have r4 : (zup (zup s (42 + i) 2 (s (42 + i) 2 - x)) 21 9 (s 21 9 + x)) 22 9 = s 22 9 := (zup_nj (by omega)).trans (zup_nj (by omega))
      rw [r0, r1, r2, r3, r4]
      omega
theorem V_firm (V : zV g U F T B ph s) {k : Nat} {v : Int} (h0 : k < 144) (h1 : s 11 k = 1) (h2 : 1 ≤ v ∧ v ≤ 99) : zV g U F T B ph (zup s 12 k v) := by
  have hB9 := zV_B V
  obtain ⟨a1, a2, a3, a4, a5, a6, a7, a8, a9, a10, a11, a12, a13, a14, a15⟩ := V
  refine ⟨zA_fr (fun p f h => zup_nj (by omega)) a1, ?_, ?_, zL1_fr (fun p f h => zup_nj (by omega)) a4, zG1_fr (fun p f h => zup_nj (by omega)) a5, zG2_fr (fun p f h => zup_nj (by omega)) a6, zC1_fr (fun p f h => zup_nj (by omega)) a7, zC2_fr (fun p f h => zup_nj (by omega)) a8, zM1_fr (fun p f h => zup_nj (by omega)) a9, zM2_fr (fun p f h => zup_nj (by omega)) a10, zS2_fr (fun p f h => zup_nj (by omega)) a11, zP1_fr (fun p f h => zup_nj (by omega)) a12, zN1_fr (fun p f h => zup_nj (by omega)) a13, zZ1_fr (fun p f h => zup_nj (by omega)) a14, zX1_fr (fun p f h => zup_nj (by omega)) a15⟩
  · intro j9 hj9
    by_cases e9 : j9 = k
    · rw [e9]
      have q9 := a2 k (by omega)
      have r0 : (zup s 12 k v) 9 k = s 9 k := zup_nj (by omega)
      have r1 : (zup s 12 k v) 10 k = s 10 k := zup_nj (by omega)
      have r2 : (zup s 12 k v) 11 k = s 11 k := zup_nj (by omega)
      have r3 : (zup s 12 k v) 12 k = v := zup_ej
      have r4 : (zup s 12 k v) 13 k = s 13 k := zup_nj (by omega)
      rw [r0, r1, r2, r3, r4]
      omega
    · have q9 := a2 j9 hj9
      have r0 : (zup s 12 k v) 9 j9 = s 9 j9 := zup_nj (by omega)
      have r1 : (zup s 12 k v) 10 j9 = s 10 j9 := zup_nj (by omega)
      have r2 : (zup s 12 k v) 11 j9 = s 11 j9 := zup_nj (by omega)
      have r3 : (zup s 12 k v) 12 j9 = s 12 j9 := zup_nj (by omega)
      have r4 : (zup s 12 k v) 13 j9 = s 13 j9 := zup_nj (by omega)
      rw [r0, r1, r2, r3, r4]
      exact q9
  · have q1 := a3.2.1
    have q2 := a3.2.2
    refine ⟨fun j9 hj9 => ?_, ?_, ?_⟩
    · by_cases e9 : j9 = k
      · rw [e9]
        have q9 := a3.1 k (by omega)
        have r0 : (zup s 12 k v) 11 k = s 11 k := zup_nj (by omega)
        have r1 : (zup s 12 k v) 12 k = v := zup_ej
        rw [r0, r1]
        omega
      · have q9 := a3.1 j9 hj9
        have r0 : (zup s 12 k v) 11 j9 = s 11 j9 := zup_nj (by omega)
        have r1 : (zup s 12 k v) 12 j9 = s 12 j9 := zup_nj (by omega)
        rw [r0, r1]
        exact q9
    · by_cases e9 : 0 = k
      · rw [e9]
        have r0 : (zup s 12 k v) 11 k = s 11 k := zup_nj (by omega)
        rw [r0]
        rw [← e9]
        exact q1
      · rw [show (zup s 12 k v) 11 0 = s 11 0 from zup_nj (by omega)]
        exact q1
    · by_cases e9 : (g 3).toNat = k
      · rw [e9]
        have r0 : (zup s 12 k v) 11 k = s 11 k := zup_nj (by omega)
        rw [r0]
        rw [← e9]
        exact q2
      · rw [show (zup s 12 k v) 11 (g 3).toNat = s 11 (g 3).toNat from zup_nj (by omega)]
        exact q2
theorem V_toil (V : zV g U F T B ph s) {k : Nat} {v : Int} (h0 : k < 144) (h1 : 0 ≤ v ∧ v ≤ B) : zV g U F T B ph (zup s 13 k v) := by
  have hB9 := zV_B V
  obtain ⟨a1, a2, a3, a4, a5, a6, a7, a8, a9, a10, a11, a12, a13, a14, a15⟩ := V
  refine ⟨zA_fr (fun p f h => zup_nj (by omega)) a1, ?_, zE_fr (fun p f h => zup_nj (by omega)) a3, zL1_fr (fun p f h => zup_nj (by omega)) a4, zG1_fr (fun p f h => zup_nj (by omega)) a5, zG2_fr (fun p f h => zup_nj (by omega)) a6, zC1_fr (fun p f h => zup_nj (by omega)) a7, zC2_fr (fun p f h => zup_nj (by omega)) a8, zM1_fr (fun p f h => zup_nj (by omega)) a9, zM2_fr (fun p f h => zup_nj (by omega)) a10, zS2_fr (fun p f h => zup_nj (by omega)) a11, zP1_fr (fun p f h => zup_nj (by omega)) a12, zN1_fr (fun p f h => zup_nj (by omega)) a13, zZ1_fr (fun p f h => zup_nj (by omega)) a14, zX1_fr (fun p f h => zup_nj (by omega)) a15⟩
  · intro j9 hj9
    by_cases e9 : j9 = k
    · rw [e9]
      have q9 := a2 k (by omega)
      have r0 : (zup s 13 k v) 9 k = s 9 k := zup_nj (by omega)
      have r1 : (zup s 13 k v) 10 k = s 10 k := zup_nj (by omega)
      have r2 : (zup s 13 k v) 11 k = s 11 k := zup_nj (by omega)
      have r3 : (zup s 13 k v) 12 k = s 12 k := zup_nj (by omega)
      have r4 : (zup s 13 k v) 13 k = v := zup_ej
      rw [r0, r1, r2, r3, r4]
      omega
    · have q9 := a2 j9 hj9
      have r0 : (zup s 13 k v) 9 j9 = s 9 j9 := zup_nj (by omega)
      have r1 : (zup s 13 k v) 10 j9 = s 10 j9 := zup_nj (by omega)
      have r2 : (zup s 13 k v) 11 j9 = s 11 j9 := zup_nj (by omega)
      have r3 : (zup s 13 k v) 12 j9 = s 12 j9 := zup_nj (by omega)
      have r4 : (zup s 13 k v) 13 j9 = s 13 j9 := zup_nj (by omega)
      rw [r0, r1, r2, r3, r4]
      exact q9
theorem V_brea (V : zV g U F T B ph s) {k : Nat} {x : Int} (h0 : (k : Int) < g 2) (h1 : s 11 k = 1) (h2 : s 7 13 + 1 ≤ B) : zV g U F T B ph (zup (zup (zup (zup s 12 k x) 11 k 6) 12 k 0) 7 13 (s 7 13 + 1)) := by
  have hB9 := zV_B V
  obtain ⟨a1, a2, a3, a4, a5, a6, a7, a8, a9, a10, a11, a12, a13, a14, a15⟩ := V
  have g9 := a1.2.1
  refine ⟨zA_fr (fun p f h => (zup_nj (by omega)).trans ((zup_nj (by omega)).trans ((zup_nj (by omega)).trans (zup_nj (by omega))))) a1, ?_, ?_, ?_, zG1_fr (fun p f h => (zup_nj (by omega)).trans ((zup_nj (by omega)).trans ((zup_nj (by omega)).trans (zup_nj (by omega))))) a5, zG2_fr (fun p f h => (zup_nj (by omega)).trans ((zup_nj (by omega)).trans ((zup_nj (by omega)).trans (zup_nj (by omega))))) a6, zC1_fr (fun p f h => (zup_nj (by omega)).trans ((zup_nj (by omega)).trans ((zup_nj (by omega)).trans (zup_nj (by omega))))) a7, zC2_fr (fun p f h => (zup_nj (by omega)).trans ((zup_nj (by omega)).trans ((zup_nj (by omega)).trans (zup_nj (by omega))))) a8, zM1_fr (fun p f h => (zup_nj (by omega)).trans ((zup_nj (by omega)).trans ((zup_nj (by omega)).trans (zup_nj (by omega))))) a9, zM2_fr (fun p f h => (zup_nj (by omega)).trans ((zup_nj (by omega)).trans ((zup_nj (by omega)).trans (zup_nj (by omega))))) a10, zS2_fr (fun p f h => (zup_nj (by omega)).trans ((zup_nj (by omega)).trans ((zup_nj (by omega)).trans (zup_nj (by omega))))) a11, zP1_fr (fun p f h => (zup_nj (by omega)).trans ((zup_nj (by omega)).trans ((zup_nj (by omega)).trans (zup_nj (by omega))))) a12, zN1_fr (fun p f h => (zup_nj (by omega)).trans ((zup_nj (by omega)).trans ((zup_nj (by omega)).trans (zup_nj (by omega))))) a13, zZ1_fr (fun p f h => (zup_nj (by omega)).trans ((zup_nj (by omega)).trans ((zup_nj (by omega)).trans (zup_nj (by omega))))) a14, zX1_fr (fun p f h => (zup_nj (by omega)).trans ((zup_nj (by omega)).trans ((zup_nj (by omega)).trans (zup_nj (by omega))))) a15⟩
  · intro j9 hj9
    by_cases e9 : j9 = k
    · rw [e9]
      have q9 := a2 k (by omega)
      have r0 : (zup (zup (zup (zup s 12 k x) 11 k 6) 12 k 0) 7 13 (s 7 13 + 1)) 9 k = s 9 k := (zup_nj (by omega)).trans ((zup_nj (by omega)).trans ((zup_nj (by omega)).trans (zup_nj (by omega))))
      have r1 : (zup (zup (zup (zup s 12 k x) 11 k 6) 12 k 0) 7 13 (s 7 13 + 1)) 10 k = s 10 k := (zup_nj (by omega)).trans ((zup_nj (by omega)).trans ((zup_nj (by omega)).trans (zup_nj (by omega))))
      have r2 : (zup (zup (zup (zup s 12 k x) 11 k 6) 12 k 0) 7 13 (s 7 13 + 1)) 11 k = 6 := (zup_nj (by omega)).trans ((zup_nj (by omega)).trans zup_ej)
      have r3 : (zup (zup (zup (zup s 12 k x) 11 k 6) 12 k 0) 7 13 (s 7 13 + 1)) 12 k = 0 := (zup_nj (by omega)).trans zup_ej
      have r4 : (zup (zup (zup (zup s 12 k x) 11 k 6) 12 k 0) 7 13 (s 7 13 + 1)) 13 k = s 13 k := (zup_nj (by omega)).trans ((zup_nj (by omega)).trans ((zup_nj (by omega)).trans (zup_nj (by omega))))
      rw [r0, r1, r2, r3, r4]
      omega
    · have q9 := a2 j9 hj9
      have r0 : (zup (zup (zup (zup s 12 k x) 11 k 6) 12 k 0) 7 13 (s 7 13 + 1)) 9 j9 = s 9 j9 := (zup_nj (by omega)).trans ((zup_nj (by omega)).trans ((zup_nj (by omega)).trans (zup_nj (by omega))))
      have r1 : (zup (zup (zup (zup s 12 k x) 11 k 6) 12 k 0) 7 13 (s 7 13 + 1)) 10 j9 = s 10 j9 := (zup_nj (by omega)).trans ((zup_nj (by omega)).trans ((zup_nj (by omega)).trans (zup_nj (by omega))))
      have r2 : (zup (zup (zup (zup s 12 k x) 11 k 6) 12 k 0) 7 13 (s 7 13 + 1)) 11 j9 = s 11 j9 := (zup_nj (by omega)).trans ((zup_nj (by omega)).trans ((zup_nj (by omega)).trans (zup_nj (by omega))))
      have r3 : (zup (zup (zup (zup s 12 k x) 11 k 6) 12 k 0) 7 13 (s 7 13 + 1)) 12 j9 = s 12 j9 := (zup_nj (by omega)).trans ((zup_nj (by omega)).trans ((zup_nj (by omega)).trans (zup_nj (by omega))))
      have r4 : (zup (zup (zup (zup s 12 k x) 11 k 6) 12 k 0) 7 13 (s 7 13 + 1)) 13 j9 = s 13 j9 := (zup_nj (by omega)).trans ((zup_nj (by omega)).trans ((zup_nj (by omega)).trans (zup_nj (by omega))))
      rw [r0, r1, r2, r3, r4]
      exact q9
  · have q1 := a3.2.1
    have q2 := a3.2.2
    refine ⟨fun j9 hj9 => ?_, ?_, ?_⟩
    · by_cases e9 : j9 = k
      · rw [e9]
        have q9 := a3.1 k (by omega)
        have r0 : (zup (zup (zup (zup s 12 k x) 11 k 6) 12 k 0) 7 13 (s 7 13 + 1)) 11 k = 6 := (zup_nj (by omega)).trans ((zup_nj (by omega)).trans zup_ej)
        have r1 : (zup (zup (zup (zup s 12 k x) 11 k 6) 12 k 0) 7 13 (s 7 13 + 1)) 12 k = 0 := (zup_nj (by omega)).trans zup_ej
        rw [r0, r1]
        omega
      · have q9 := a3.1 j9 hj9
        have r0 : (zup (zup (zup (zup s 12 k x) 11 k 6) 12 k 0) 7 13 (s 7 13 + 1)) 11 j9 = s 11 j9 := (zup_nj (by omega)).trans ((zup_nj (by omega)).trans ((zup_nj (by omega)).trans (zup_nj (by omega))))
        have r1 : (zup (zup (zup (zup s 12 k x) 11 k 6) 12 k 0) 7 13 (s 7 13 + 1)) 12 j9 = s 12 j9 := (zup_nj (by omega)).trans ((zup_nj (by omega)).trans ((zup_nj (by omega)).trans (zup_nj (by omega))))
        rw [r0, r1]
        exact q9
    · by_cases e9 : 0 = k
      · exfalso
        have q3 : s 11 k = 0 := by rw [← e9]; exact q1
        omega
      · rw [show (zup (zup (zup (zup s 12 k x) 11 k 6) 12 k 0) 7 13 (s 7 13 + 1)) 11 0 = s 11 0 from (zup_nj (by omega)).trans ((zup_nj (by omega)).trans ((zup_nj (by omega)).trans (zup_nj (by omega))))]
        exact q1
    · by_cases e9 : (g 3).toNat = k
      · exfalso
        rw [e9] at q2
        omega
      · rw [show (zup (zup (zup (zup s 12 k x) 11 k 6) 12 k 0) 7 13 (s 7 13 + 1)) 11 (g 3).toNat = s 11 (g 3).toNat from (zup_nj (by omega)).trans ((zup_nj (by omega)).trans ((zup_nj (by omega)).trans (zup_nj (by omega))))]
        exact q2
  · have c1 := zcn_w (s := s) (s' := (zup (zup (zup (zup s 12 k x) 11 k 6) 12 k 0) 7 13 (s 7 13 + 1))) (k := k) (fun j hj => (zup_nj (by omega)).trans ((zup_nj (by omega)).trans ((zup_nj (by omega)).trans (zup_nj (by omega))))) 1 (g 2).toNat
    have c6 := zcn_w (s := s) (s' := (zup (zup (zup (zup s 12 k x) 11 k 6) 12 k 0) 7 13 (s 7 13 + 1))) (k := k) (fun j hj => (zup_nj (by omega)).trans ((zup_nj (by omega)).trans ((zup_nj (by omega)).trans (zup_nj (by omega))))) 6 (g 2).toNat
    have q4 := a4
    unfold zL1 at q4 ⊢
    rw [c1, c6]
    have r0 : (zup (zup (zup (zup s 12 k x) 11 k 6) 12 k 0) 7 13 (s 7 13 + 1)) 11 k = 6 := (zup_nj (by omega)).trans ((zup_nj (by omega)).trans zup_ej)
    have r1 : (zup (zup (zup (zup s 12 k x) 11 k 6) 12 k 0) 7 13 (s 7 13 + 1)) 7 13 = (s 7 13 + 1) := zup_ej
    rw [r0, r1]
    omega
theorem V_breb (V : zV g U F T B ph s) {k : Nat} {x : Int} (h0 : (k : Int) < g 2) (h1 : s 11 k = 1) (h2 : s 7 13 + 1 ≤ B) (h3 : 0 < s 9 k) : zV g U F T B ph (zup (zup (zup (zup (zup s 12 k x) 11 k 6) 12 k 0) 9 k (s 9 k - 1)) 7 13 (s 7 13 + 1)) := by
  have hB9 := zV_B V
  obtain ⟨a1, a2, a3, a4, a5, a6, a7, a8, a9, a10, a11, a12, a13, a14, a15⟩ := V
  have g9 := a1.2.1
  refine ⟨zA_fr (fun p f h => (zup_nj (by omega)).trans ((zup_nj (by omega)).trans ((zup_nj (by omega)).trans ((zup_nj (by omega)).trans (zup_nj (by omega)))))) a1, ?_, ?_, ?_, zG1_fr (fun p f h => (zup_nj (by omega)).trans ((zup_nj (by omega)).trans ((zup_nj (by omega)).trans ((zup_nj (by omega)).trans (zup_nj (by omega)))))) a5, zG2_fr (fun p f h => (zup_nj (by omega)).trans ((zup_nj (by omega)).trans ((zup_nj (by omega)).trans ((zup_nj (by omega)).trans (zup_nj (by omega)))))) a6, zC1_fr (fun p f h => (zup_nj (by omega)).trans ((zup_nj (by omega)).trans ((zup_nj (by omega)).trans ((zup_nj (by omega)).trans (zup_nj (by omega)))))) a7, zC2_fr (fun p f h => (zup_nj (by omega)).trans ((zup_nj (by omega)).trans ((zup_nj (by omega)).trans ((zup_nj (by omega)).trans (zup_nj (by omega)))))) a8, zM1_fr (fun p f h => (zup_nj (by omega)).trans ((zup_nj (by omega)).trans ((zup_nj (by omega)).trans ((zup_nj (by omega)).trans (zup_nj (by omega)))))) a9, zM2_fr (fun p f h => (zup_nj (by omega)).trans ((zup_nj (by omega)).trans ((zup_nj (by omega)).trans ((zup_nj (by omega)).trans (zup_nj (by omega)))))) a10, zS2_fr (fun p f h => (zup_nj (by omega)).trans ((zup_nj (by omega)).trans ((zup_nj (by omega)).trans ((zup_nj (by omega)).trans (zup_nj (by omega)))))) a11, zP1_fr (fun p f h => (zup_nj (by omega)).trans ((zup_nj (by omega)).trans ((zup_nj (by omega)).trans ((zup_nj (by omega)).trans (zup_nj (by omega)))))) a12, zN1_fr (fun p f h => (zup_nj (by omega)).trans ((zup_nj (by omega)).trans ((zup_nj (by omega)).trans ((zup_nj (by omega)).trans (zup_nj (by omega)))))) a13, zZ1_fr (fun p f h => (zup_nj (by omega)).trans ((zup_nj (by omega)).trans ((zup_nj (by omega)).trans ((zup_nj (by omega)).trans (zup_nj (by omega)))))) a14, zX1_fr (fun p f h => (zup_nj (by omega)).trans ((zup_nj (by omega)).trans ((zup_nj (by omega)).trans ((zup_nj (by omega)).trans (zup_nj (by omega)))))) a15⟩
  · intro j9 hj9
    by_cases e9 : j9 = k
    · rw [e9]
      have q9 := a2 k (by omega)
      have r0 : (zup (zup (zup (zup (zup s 12 k x) 11 k 6) 12 k 0) 9 k (s 9 k - 1)) 7 13 (s 7 13 + 1)) 9 k = (s 9 k - 1) := (zup_nj (by omega)).trans zup_ej
      have r1 : (zup (zup (zup (zup (zup s 12 k x) 11 k 6) 12 k 0) 9 k (s 9 k - 1)) 7 13 (s 7 13 + 1)) 10 k = s 10 k := (zup_nj (by omega)).trans ((zup_nj (by omega)).trans ((zup_nj (by omega)).trans ((zup_nj (by omega)).trans (zup_nj (by omega)))))
      have r2 : (zup (zup (zup (zup (zup s 12 k x) 11 k 6) 12 k 0) 9 k (s 9 k - 1)) 7 13 (s 7 13 + 1)) 11 k = 6 := (zup_nj (by omega)).trans ((zup_nj (by omega)).trans ((zup_nj (by omega)).trans zup_ej))
      have r3 : (zup (zup (zup (zup (zup s 12 k x) 11 k 6) 12 k 0) 9 k (s 9 k - 1)) 7 13 (s 7 13 + 1)) 12 k = 0 := (zup_nj (by omega)).trans ((zup_nj (by omega)).trans zup_ej)
      have r4 : (zup (zup (zup (zup (zup s 12 k x) 11 k 6) 12 k 0) 9 k (s 9 k - 1)) 7 13 (s 7 13 + 1)) 13 k = s 13 k := (zup_nj (by omega)).trans ((zup_nj (by omega)).trans ((zup_nj (by omega)).trans ((zup_nj (by omega)).trans (zup_nj (by omega)))))
      rw [r0, r1, r2, r3, r4]
      omega
    · have q9 := a2 j9 hj9
      have r0 : (zup (zup (zup (zup (zup s 12 k x) 11 k 6) 12 k 0) 9 k (s 9 k - 1)) 7 13 (s 7 13 + 1)) 9 j9 = s 9 j9 := (zup_nj (by omega)).trans ((zup_nj (by omega)).trans ((zup_nj (by omega)).trans ((zup_nj (by omega)).trans (zup_nj (by omega)))))
      have r1 : (zup (zup (zup (zup (zup s 12 k x) 11 k 6) 12 k 0) 9 k (s 9 k - 1)) 7 13 (s 7 13 + 1)) 10 j9 = s 10 j9 := (zup_nj (by omega)).trans ((zup_nj (by omega)).trans ((zup_nj (by omega)).trans ((zup_nj (by omega)).trans (zup_nj (by omega)))))
      have r2 : (zup (zup (zup (zup (zup s 12 k x) 11 k 6) 12 k 0) 9 k (s 9 k - 1)) 7 13 (s 7 13 + 1)) 11 j9 = s 11 j9 := (zup_nj (by omega)).trans ((zup_nj (by omega)).trans ((zup_nj (by omega)).trans ((zup_nj (by omega)).trans (zup_nj (by omega)))))
      have r3 : (zup (zup (zup (zup (zup s 12 k x) 11 k 6) 12 k 0) 9 k (s 9 k - 1)) 7 13 (s 7 13 + 1)) 12 j9 = s 12 j9 := (zup_nj (by omega)).trans ((zup_nj (by omega)).trans ((zup_nj (by omega)).trans ((zup_nj (by omega)).trans (zup_nj (by omega)))))
      have r4 : (zup (zup (zup (zup (zup s 12 k x) 11 k 6) 12 k 0) 9 k (s 9 k - 1)) 7 13 (s 7 13 + 1)) 13 j9 = s 13 j9 := (zup_nj (by omega)).trans ((zup_nj (by omega)).trans ((zup_nj (by omega)).trans ((zup_nj (by omega)).trans (zup_nj (by omega)))))
      rw [r0, r1, r2, r3, r4]
      exact q9
  · have q1 := a3.2.1
    have q2 := a3.2.2
    refine ⟨fun j9 hj9 => ?_, ?_, ?_⟩
    · by_cases e9 : j9 = k
      · rw [e9]
        have q9 := a3.1 k (by omega)
        have r0 : (zup (zup (zup (zup (zup s 12 k x) 11 k 6) 12 k 0) 9 k (s 9 k - 1)) 7 13 (s 7 13 + 1)) 11 k = 6 := (zup_nj (by omega)).trans ((zup_nj (by omega)).trans ((zup_nj (by omega)).trans zup_ej))
        have r1 : (zup (zup (zup (zup (zup s 12 k x) 11 k 6) 12 k 0) 9 k (s 9 k - 1)) 7 13 (s 7 13 + 1)) 12 k = 0 := (zup_nj (by omega)).trans ((zup_nj (by omega)).trans zup_ej)
        rw [r0, r1]
        omega
      · have q9 := a3.1 j9 hj9
        have r0 : (zup (zup (zup (zup (zup s 12 k x) 11 k 6) 12 k 0) 9 k (s 9 k - 1)) 7 13 (s 7 13 + 1)) 11 j9 = s 11 j9 := (zup_nj (by omega)).trans ((zup_nj (by omega)).trans ((zup_nj (by omega)).trans ((zup_nj (by omega)).trans (zup_nj (by omega)))))
        have r1 : (zup (zup (zup (zup (zup s 12 k x) 11 k 6) 12 k 0) 9 k (s 9 k - 1)) 7 13 (s 7 13 + 1)) 12 j9 = s 12 j9 := (zup_nj (by omega)).trans ((zup_nj (by omega)).trans ((zup_nj (by omega)).trans ((zup_nj (by omega)).trans (zup_nj (by omega)))))
        rw [r0, r1]
        exact q9
    · by_cases e9 : 0 = k
      · exfalso
        have q3 : s 11 k = 0 := by rw [← e9]; exact q1
        omega
      · rw [show (zup (zup (zup (zup (zup s 12 k x) 11 k 6) 12 k 0) 9 k (s 9 k - 1)) 7 13 (s 7 13 + 1)) 11 0 = s 11 0 from (zup_nj (by omega)).trans ((zup_nj (by omega)).trans ((zup_nj (by omega)).trans ((zup_nj (by omega)).trans (zup_nj (by omega)))))]
        exact q1
    · by_cases e9 : (g 3).toNat = k
      · exfalso
        rw [e9] at q2
        omega
      · rw [show (zup (zup (zup (zup (zup s 12 k x) 11 k 6) 12 k 0) 9 k (s 9 k - 1)) 7 13 (s 7 13 + 1)) 11 (g 3).toNat = s 11 (g 3).toNat from (zup_nj (by omega)).trans ((zup_nj (by omega)).trans ((zup_nj (by omega)).trans ((zup_nj (by omega)).trans (zup_nj (by omega)))))]
        exact q2
  · have c1 := zcn_w (s := s) (s' := (zup (zup (zup (zup (zup s 12 k x) 11 k 6) 12 k 0) 9 k (s 9 k - 1)) 7 13 (s 7 13 + 1))) (k := k) (fun j hj => (zup_nj (by omega)).trans ((zup_nj (by omega)).trans ((zup_nj (by omega)).trans ((zup_nj (by omega)).trans (zup_nj (by omega)))))) 1 (g 2).toNat
    have c6 := zcn_w (s := s) (s' := (zup (zup (zup (zup (zup s 12 k x) 11 k 6) 12 k 0) 9 k (s 9 k - 1)) 7 13 (s 7 13 + 1))) (k := k) (fun j hj => (zup_nj (by omega)).trans ((zup_nj (by omega)).trans ((zup_nj (by omega)).trans ((zup_nj (by omega)).trans (zup_nj (by omega)))))) 6 (g 2).toNat
    have q4 := a4
    unfold zL1 at q4 ⊢
    rw [c1, c6]
    have r0 : (zup (zup (zup (zup (zup s 12 k x) 11 k 6) 12 k 0) 9 k (s 9 k - 1)) 7 13 (s 7 13 + 1)) 11 k = 6 := (zup_nj (by omega)).trans ((zup_nj (by omega)).trans ((zup_nj (by omega)).trans zup_ej))
    have r1 : (zup (zup (zup (zup (zup s 12 k x) 11 k 6) 12 k 0) 9 k (s 9 k - 1)) 7 13 (s 7 13 + 1)) 7 13 = (s 7 13 + 1) := zup_ej
    rw [r0, r1]
    omega
theorem V_dig (V : zV g U F T B ph s) {i k : Nat} {v y : Int} (h0 : i < 12) (h1 : (k : Int) < g 2) (h2 : 0 ≤ v ∧ v ≤ B) (h3 : ¬ k = 0) (h4 : ¬ (k : Int) = g 3) (h5 : s 11 k = 0 ∨ s 11 k = 4 ∨ s 11 k = 6 ∨ s 11 k = 7) (h6 : y = (k : Int)) : zV g U F T B ph (zup (zup (zup (zup s 21 2 v) 11 k 5) 13 k 0) (42 + i) 1 y) := by
  have hB9 := zV_B V
  obtain ⟨a1, a2, a3, a4, a5, a6, a7, a8, a9, a10, a11, a12, a13, a14, a15⟩ := V
  have g9 := a1.2.1
  refine ⟨zA_fr (fun p f h => (zup_nj (by omega)).trans ((zup_nj (by omega)).trans ((zup_nj (by omega)).trans (zup_nj (by omega))))) a1, ?_, ?_, ?_, zG1_fr (fun p f h => (zup_nj (by omega)).trans ((zup_nj (by omega)).trans ((zup_nj (by omega)).trans (zup_nj (by omega))))) a5, zG2_fr (fun p f h => (zup_nj (by omega)).trans ((zup_nj (by omega)).trans ((zup_nj (by omega)).trans (zup_nj (by omega))))) a6, ?_, ?_, zM1_fr (fun p f h => (zup_nj (by omega)).trans ((zup_nj (by omega)).trans ((zup_nj (by omega)).trans (zup_nj (by omega))))) a9, zM2_fr (fun p f h => (zup_nj (by omega)).trans ((zup_nj (by omega)).trans ((zup_nj (by omega)).trans (zup_nj (by omega))))) a10, ?_, zP1_fr (fun p f h => (zup_nj (by omega)).trans ((zup_nj (by omega)).trans ((zup_nj (by omega)).trans (zup_nj (by omega))))) a12, zN1_fr (fun p f h => (zup_nj (by omega)).trans ((zup_nj (by omega)).trans ((zup_nj (by omega)).trans (zup_nj (by omega))))) a13, zZ1_fr (fun p f h => (zup_nj (by omega)).trans ((zup_nj (by omega)).trans ((zup_nj (by omega)).trans (zup_nj (by omega))))) a14, zX1_fr (fun p f h => (zup_nj (by omega)).trans ((zup_nj (by omega)).trans ((zup_nj (by omega)).trans (zup_nj (by omega))))) a15⟩
  · intro j9 hj9
    by_cases e9 : j9 = k
    · rw [e9]
      have q9 := a2 k (by omega)
      have r0 : (zup (zup (zup (zup s 21 2 v) 11 k 5) 13 k 0) (42 + i) 1 y) 9 k = s 9 k := (zup_nj (by omega)).trans ((zup_nj (by omega)).trans ((zup_nj (by omega)).trans (zup_nj (by omega))))
      have r1 : (zup (zup (zup (zup s 21 2 v) 11 k 5) 13 k 0) (42 + i) 1 y) 10 k = s 10 k := (zup_nj (by omega)).trans ((zup_nj (by omega)).trans ((zup_nj (by omega)).trans (zup_nj (by omega))))
      have r2 : (zup (zup (zup (zup s 21 2 v) 11 k 5) 13 k 0) (42 + i) 1 y) 11 k = 5 := (zup_nj (by omega)).trans ((zup_nj (by omega)).trans zup_ej)
      have r3 : (zup (zup (zup (zup s 21 2 v) 11 k 5) 13 k 0) (42 + i) 1 y) 12 k = s 12 k := (zup_nj (by omega)).trans ((zup_nj (by omega)).trans ((zup_nj (by omega)).trans (zup_nj (by omega))))
      have r4 : (zup (zup (zup (zup s 21 2 v) 11 k 5) 13 k 0) (42 + i) 1 y) 13 k = 0 := (zup_nj (by omega)).trans zup_ej
      rw [r0, r1, r2, r3, r4]
      omega
    · have q9 := a2 j9 hj9
      have r0 : (zup (zup (zup (zup s 21 2 v) 11 k 5) 13 k 0) (42 + i) 1 y) 9 j9 = s 9 j9 := (zup_nj (by omega)).trans ((zup_nj (by omega)).trans ((zup_nj (by omega)).trans (zup_nj (by omega))))
      have r1 : (zup (zup (zup (zup s 21 2 v) 11 k 5) 13 k 0) (42 + i) 1 y) 10 j9 = s 10 j9 := (zup_nj (by omega)).trans ((zup_nj (by omega)).trans ((zup_nj (by omega)).trans (zup_nj (by omega))))
      have r2 : (zup (zup (zup (zup s 21 2 v) 11 k 5) 13 k 0) (42 + i) 1 y) 11 j9 = s 11 j9 := (zup_nj (by omega)).trans ((zup_nj (by omega)).trans ((zup_nj (by omega)).trans (zup_nj (by omega))))
      have r3 : (zup (zup (zup (zup s 21 2 v) 11 k 5) 13 k 0) (42 + i) 1 y) 12 j9 = s 12 j9 := (zup_nj (by omega)).trans ((zup_nj (by omega)).trans ((zup_nj (by omega)).trans (zup_nj (by omega))))
      have r4 : (zup (zup (zup (zup s 21 2 v) 11 k 5) 13 k 0) (42 + i) 1 y) 13 j9 = s 13 j9 := (zup_nj (by omega)).trans ((zup_nj (by omega)).trans ((zup_nj (by omega)).trans (zup_nj (by omega))))
      rw [r0, r1, r2, r3, r4]
      exact q9
  · have q1 := a3.2.1
    have q2 := a3.2.2
    refine ⟨fun j9 hj9 => ?_, ?_, ?_⟩
    · by_cases e9 : j9 = k
      · rw [e9]
        have q9 := a3.1 k (by omega)
        have r0 : (zup (zup (zup (zup s 21 2 v) 11 k 5) 13 k 0) (42 + i) 1 y) 11 k = 5 := (zup_nj (by omega)).trans ((zup_nj (by omega)).trans zup_ej)
        have r1 : (zup (zup (zup (zup s 21 2 v) 11 k 5) 13 k 0) (42 + i) 1 y) 12 k = s 12 k := (zup_nj (by omega)).trans ((zup_nj (by omega)).trans ((zup_nj (by omega)).trans (zup_nj (by omega))))
        rw [r0, r1]
        omega
      · have q9 := a3.1 j9 hj9
        have r0 : (zup (zup (zup (zup s 21 2 v) 11 k 5) 13 k 0) (42 + i) 1 y) 11 j9 = s 11 j9 := (zup_nj (by omega)).trans ((zup_nj (by omega)).trans ((zup_nj (by omega)).trans (zup_nj (by omega))))
        have r1 : (zup (zup (zup (zup s 21 2 v) 11 k 5) 13 k 0) (42 + i) 1 y) 12 j9 = s 12 j9 := (zup_nj (by omega)).trans ((zup_nj (by omega)).trans ((zup_nj (by omega)).trans (zup_nj (by omega))))
        rw [r0, r1]
        exact q9
    · by_cases e9 : 0 = k
      · exfalso
        have q3 : s 11 k = 0 := by rw [← e9]; exact q1
        omega
      · rw [show (zup (zup (zup (zup s 21 2 v) 11 k 5) 13 k 0) (42 + i) 1 y) 11 0 = s 11 0 from (zup_nj (by omega)).trans ((zup_nj (by omega)).trans ((zup_nj (by omega)).trans (zup_nj (by omega))))]
        exact q1
    · by_cases e9 : (g 3).toNat = k
      · exfalso
        rw [e9] at q2
        omega
      · rw [show (zup (zup (zup (zup s 21 2 v) 11 k 5) 13 k 0) (42 + i) 1 y) 11 (g 3).toNat = s 11 (g 3).toNat from (zup_nj (by omega)).trans ((zup_nj (by omega)).trans ((zup_nj (by omega)).trans (zup_nj (by omega))))]
        exact q2
  · have c1 := zcn_w (s := s) (s' := (zup (zup (zup (zup s 21 2 v) 11 k 5) 13 k 0) (42 + i) 1 y)) (k := k) (fun j hj => (zup_nj (by omega)).trans ((zup_nj (by omega)).trans ((zup_nj (by omega)).trans (zup_nj (by omega))))) 1 (g 2).toNat
    have c6 := zcn_w (s := s) (s' := (zup (zup (zup (zup s 21 2 v) 11 k 5) 13 k 0) (42 + i) 1 y)) (k := k) (fun j hj => (zup_nj (by omega)).trans ((zup_nj (by omega)).trans ((zup_nj (by omega)).trans (zup_nj (by omega))))) 6 (g 2).toNat
    have q4 := a4
    unfold zL1 at q4 ⊢
    rw [c1, c6]
    have r0 : (zup (zup (zup (zup s 21 2 v) 11 k 5) 13 k 0) (42 + i) 1 y) 11 k = 5 := (zup_nj (by omega)).trans ((zup_nj (by omega)).trans zup_ej)
    have r1 : (zup (zup (zup (zup s 21 2 v) 11 k 5) 13 k 0) (42 + i) 1 y) 7 13 = s 7 13 := (zup_nj (by omega)).trans ((zup_nj (by omega)).trans ((zup_nj (by omega)).trans (zup_nj (by omega))))
    rw [r0, r1]
    omega
  · intro j9 hj9
    by_cases e9 : j9 = i
    · rw [e9]
      have q9 := a7 i (by omega)
      have r0 : (zup (zup (zup (zup s 21 2 v) 11 k 5) 13 k 0) (42 + i) 1 y) (42 + i) 0 = s (42 + i) 0 := (zup_nj (by omega)).trans ((zup_nj (by omega)).trans ((zup_nj (by omega)).trans (zup_nj (by omega))))
      have r1 : (zup (zup (zup (zup s 21 2 v) 11 k 5) 13 k 0) (42 + i) 1 y) (42 + i) 1 = y := zup_ej
      have r2 : (zup (zup (zup (zup s 21 2 v) 11 k 5) 13 k 0) (42 + i) 1 y) (42 + i) 2 = s (42 + i) 2 := (zup_nj (by omega)).trans ((zup_nj (by omega)).trans ((zup_nj (by omega)).trans (zup_nj (by omega))))
      have r3 : (zup (zup (zup (zup s 21 2 v) 11 k 5) 13 k 0) (42 + i) 1 y) (42 + i) 3 = s (42 + i) 3 := (zup_nj (by omega)).trans ((zup_nj (by omega)).trans ((zup_nj (by omega)).trans (zup_nj (by omega))))
      have r4 : (zup (zup (zup (zup s 21 2 v) 11 k 5) 13 k 0) (42 + i) 1 y) (42 + i) 4 = s (42 + i) 4 := (zup_nj (by omega)).trans ((zup_nj (by omega)).trans ((zup_nj (by omega)).trans (zup_nj (by omega))))
      have r5 : (zup (zup (zup (zup s 21 2 v) 11 k 5) 13 k 0) (42 + i) 1 y) (42 + i) 5 = s (42 + i) 5 := (zup_nj (by omega)).trans ((zup_nj (by omega)).trans ((zup_nj (by omega)).trans (zup_nj (by omega))))
      rw [r0, r1, r2, r3, r4, r5]
      omega
    · have q9 := a7 j9 hj9
      have r0 : (zup (zup (zup (zup s 21 2 v) 11 k 5) 13 k 0) (42 + i) 1 y) (42 + j9) 0 = s (42 + j9) 0 := (zup_nj (by omega)).trans ((zup_nj (by omega)).trans ((zup_nj (by omega)).trans (zup_nj (by omega))))
      have r1 : (zup (zup (zup (zup s 21 2 v) 11 k 5) 13 k 0) (42 + i) 1 y) (42 + j9) 1 = s (42 + j9) 1 := (zup_nj (by omega)).trans ((zup_nj (by omega)).trans ((zup_nj (by omega)).trans (zup_nj (by omega))))
      have r2 : (zup (zup (zup (zup s 21 2 v) 11 k 5) 13 k 0) (42 + i) 1 y) (42 + j9) 2 = s (42 + j9) 2 := (zup_nj (by omega)).trans ((zup_nj (by omega)).trans ((zup_nj (by omega)).trans (zup_nj (by omega))))
      have r3 : (zup (zup (zup (zup s 21 2 v) 11 k 5) 13 k 0) (42 + i) 1 y) (42 + j9) 3 = s (42 + j9) 3 := (zup_nj (by omega)).trans ((zup_nj (by omega)).trans ((zup_nj (by omega)).trans (zup_nj (by omega))))
      have r4 : (zup (zup (zup (zup s 21 2 v) 11 k 5) 13 k 0) (42 + i) 1 y) (42 + j9) 4 = s (42 + j9) 4 := (zup_nj (by omega)).trans ((zup_nj (by omega)).trans ((zup_nj (by omega)).trans (zup_nj (by omega))))
      have r5 : (zup (zup (zup (zup s 21 2 v) 11 k 5) 13 k 0) (42 + i) 1 y) (42 + j9) 5 = s (42 + j9) 5 := (zup_nj (by omega)).trans ((zup_nj (by omega)).trans ((zup_nj (by omega)).trans (zup_nj (by omega))))
      rw [r0, r1, r2, r3, r4, r5]
      exact q9
  · intro j9 hj9
    by_cases e9 : j9 = i
    · rw [e9]
      have q9 := a8 i (by omega)
      have r0 : (zup (zup (zup (zup s 21 2 v) 11 k 5) 13 k 0) (42 + i) 1 y) (42 + i) 0 = s (42 + i) 0 := (zup_nj (by omega)).trans ((zup_nj (by omega)).trans ((zup_nj (by omega)).trans (zup_nj (by omega))))
      have r1 : (zup (zup (zup (zup s 21 2 v) 11 k 5) 13 k 0) (42 + i) 1 y) (42 + i) 1 = y := zup_ej
      have r2 : (zup (zup (zup (zup s 21 2 v) 11 k 5) 13 k 0) (42 + i) 1 y) (42 + i) 2 = s (42 + i) 2 := (zup_nj (by omega)).trans ((zup_nj (by omega)).trans ((zup_nj (by omega)).trans (zup_nj (by omega))))
      have r3 : (zup (zup (zup (zup s 21 2 v) 11 k 5) 13 k 0) (42 + i) 1 y) (42 + i) 4 = s (42 + i) 4 := (zup_nj (by omega)).trans ((zup_nj (by omega)).trans ((zup_nj (by omega)).trans (zup_nj (by omega))))
      have r4 : (zup (zup (zup (zup s 21 2 v) 11 k 5) 13 k 0) (42 + i) 1 y) (42 + i) 5 = s (42 + i) 5 := (zup_nj (by omega)).trans ((zup_nj (by omega)).trans ((zup_nj (by omega)).trans (zup_nj (by omega))))
      rw [r0, r1, r2, r3, r4]
      omega
    · have q9 := a8 j9 hj9
      have r0 : (zup (zup (zup (zup s 21 2 v) 11 k 5) 13 k 0) (42 + i) 1 y) (42 + j9) 0 = s (42 + j9) 0 := (zup_nj (by omega)).trans ((zup_nj (by omega)).trans ((zup_nj (by omega)).trans (zup_nj (by omega))))
      have r1 : (zup (zup (zup (zup s 21 2 v) 11 k 5) 13 k 0) (42 + i) 1 y) (42 + j9) 1 = s (42 + j9) 1 := (zup_nj (by omega)).trans ((zup_nj (by omega)).trans ((zup_nj (by omega)).trans (zup_nj (by omega))))
      have r2 : (zup (zup (zup (zup s 21 2 v) 11 k 5) 13 k 0) (42 + i) 1 y) (42 + j9) 2 = s (42 + j9) 2 := (zup_nj (by omega)).trans ((zup_nj (by omega)).trans ((zup_nj (by omega)).trans (zup_nj (by omega))))
      have r3 : (zup (zup (zup (zup s 21 2 v) 11 k 5) 13 k 0) (42 + i) 1 y) (42 + j9) 4 = s (42 + j9) 4 := (zup_nj (by omega)).trans ((zup_nj (by omega)).trans ((zup_nj (by omega)).trans (zup_nj (by omega))))
      have r4 : (zup (zup (zup (zup s 21 2 v) 11 k 5) 13 k 0) (42 + i) 1 y) (42 + j9) 5 = s (42 + j9) 5 := (zup_nj (by omega)).trans ((zup_nj (by omega)).trans ((zup_nj (by omega)).trans (zup_nj (by omega))))
      rw [r0, r1, r2, r3, r4]
      exact q9
  · intro j9 hj9
    by_cases e9 : j9 = 21
    · rw [e9]
      have q9 := a11 21 (Or.inl rfl)
      have r0 : (zup (zup (zup (zup s 21 2 v) 11 k 5) 13 k 0) (42 + i) 1 y) 21 0 = s 21 0 := (zup_nj (by omega)).trans ((zup_nj (by omega)).trans ((zup_nj (by omega)).trans (zup_nj (by omega))))
      have r1 : (zup (zup (zup (zup s 21 2 v) 11 k 5) 13 k 0) (42 + i) 1 y) 21 1 = s 21 1 := (zup_nj (by omega)).trans ((zup_nj (by omega)).trans ((zup_nj (by omega)).trans (zup_nj (by omega))))
      have r2 : (zup (zup (zup (zup s 21 2 v) 11 k 5) 13 k 0) (42 + i) 1 y) 21 2 = v := (zup_nj (by omega)).trans ((zup_nj (by omega)).trans ((zup_nj (by omega)).trans zup_ej))
      have r3 : (zup (zup (zup (zup s 21 2 v) 11 k 5) 13 k 0) (42 + i) 1 y) 21 3 = s 21 3 := (zup_nj (by omega)).trans ((zup_nj (by omega)).trans ((zup_nj (by omega)).trans (zup_nj (by omega))))
      rw [r0, r1, r2, r3]
      omega
    · have q9 := a11 j9 hj9
      have r0 : (zup (zup (zup (zup s 21 2 v) 11 k 5) 13 k 0) (42 + i) 1 y) j9 0 = s j9 0 := (zup_nj (by omega)).trans ((zup_nj (by omega)).trans ((zup_nj (by omega)).trans (zup_nj (by omega))))
      have r1 : (zup (zup (zup (zup s 21 2 v) 11 k 5) 13 k 0) (42 + i) 1 y) j9 1 = s j9 1 := (zup_nj (by omega)).trans ((zup_nj (by omega)).trans ((zup_nj (by omega)).trans (zup_nj (by omega))))
      have r2 : (zup (zup (zup (zup s 21 2 v) 11 k 5) 13 k 0) (42 + i) 1 y) j9 2 = s j9 2 := (zup_nj (by omega)).trans ((zup_nj (by omega)).trans ((zup_nj (by omega)).trans (zup_nj (by omega))))
      have r3 : (zup (zup (zup (zup s 21 2 v) 11 k 5) 13 k 0) (42 + i) 1 y) j9 3 = s j9 3 := (zup_nj (by omega)).trans ((zup_nj (by omega)).trans ((zup_nj (by omega)).trans (zup_nj (by omega))))
      rw [r0, r1, r2, r3]
      exact q9
theorem V_wall (V : zV g U F T B ph s) {k : Nat} {v w : Int} (h0 : (k : Int) < g 2) (h1 : s 11 k = 6) (h2 : 0 ≤ v ∧ v ≤ 9) (h3 : 0 ≤ w ∧ w ≤ 3) : zV g U F T B ph (zup (zup (zup (zup (zup s 9 k v) 10 k w) 11 k 1) 12 k 10) 13 k 0) := by
  have hB9 := zV_B V
  obtain ⟨a1, a2, a3, a4, a5, a6, a7, a8, a9, a10, a11, a12, a13, a14, a15⟩ := V
  have g9 := a1.2.1
  refine ⟨zA_fr (fun p f h => (zup_nj (by omega)).trans ((zup_nj (by omega)).trans ((zup_nj (by omega)).trans ((zup_nj (by omega)).trans (zup_nj (by omega)))))) a1, ?_, ?_, ?_, zG1_fr (fun p f h => (zup_nj (by omega)).trans ((zup_nj (by omega)).trans ((zup_nj (by omega)).trans ((zup_nj (by omega)).trans (zup_nj (by omega)))))) a5, zG2_fr (fun p f h => (zup_nj (by omega)).trans ((zup_nj (by omega)).trans ((zup_nj (by omega)).trans ((zup_nj (by omega)).trans (zup_nj (by omega)))))) a6, zC1_fr (fun p f h => (zup_nj (by omega)).trans ((zup_nj (by omega)).trans ((zup_nj (by omega)).trans ((zup_nj (by omega)).trans (zup_nj (by omega)))))) a7, zC2_fr (fun p f h => (zup_nj (by omega)).trans ((zup_nj (by omega)).trans ((zup_nj (by omega)).trans ((zup_nj (by omega)).trans (zup_nj (by omega)))))) a8, zM1_fr (fun p f h => (zup_nj (by omega)).trans ((zup_nj (by omega)).trans ((zup_nj (by omega)).trans ((zup_nj (by omega)).trans (zup_nj (by omega)))))) a9, zM2_fr (fun p f h => (zup_nj (by omega)).trans ((zup_nj (by omega)).trans ((zup_nj (by omega)).trans ((zup_nj (by omega)).trans (zup_nj (by omega)))))) a10, zS2_fr (fun p f h => (zup_nj (by omega)).trans ((zup_nj (by omega)).trans ((zup_nj (by omega)).trans ((zup_nj (by omega)).trans (zup_nj (by omega)))))) a11, zP1_fr (fun p f h => (zup_nj (by omega)).trans ((zup_nj (by omega)).trans ((zup_nj (by omega)).trans ((zup_nj (by omega)).trans (zup_nj (by omega)))))) a12, zN1_fr (fun p f h => (zup_nj (by omega)).trans ((zup_nj (by omega)).trans ((zup_nj (by omega)).trans ((zup_nj (by omega)).trans (zup_nj (by omega)))))) a13, zZ1_fr (fun p f h => (zup_nj (by omega)).trans ((zup_nj (by omega)).trans ((zup_nj (by omega)).trans ((zup_nj (by omega)).trans (zup_nj (by omega)))))) a14, zX1_fr (fun p f h => (zup_nj (by omega)).trans ((zup_nj (by omega)).trans ((zup_nj (by omega)).trans ((zup_nj (by omega)).trans (zup_nj (by omega)))))) a15⟩
  · intro j9 hj9
    by_cases e9 : j9 = k
    · rw [e9]
      have q9 := a2 k (by omega)
      have r0 : (zup (zup (zup (zup (zup s 9 k v) 10 k w) 11 k 1) 12 k 10) 13 k 0) 9 k = v := (zup_nj (by omega)).trans ((zup_nj (by omega)).trans ((zup_nj (by omega)).trans ((zup_nj (by omega)).trans zup_ej)))
      have r1 : (zup (zup (zup (zup (zup s 9 k v) 10 k w) 11 k 1) 12 k 10) 13 k 0) 10 k = w := (zup_nj (by omega)).trans ((zup_nj (by omega)).trans ((zup_nj (by omega)).trans zup_ej))
      have r2 : (zup (zup (zup (zup (zup s 9 k v) 10 k w) 11 k 1) 12 k 10) 13 k 0) 11 k = 1 := (zup_nj (by omega)).trans ((zup_nj (by omega)).trans zup_ej)
      have r3 : (zup (zup (zup (zup (zup s 9 k v) 10 k w) 11 k 1) 12 k 10) 13 k 0) 12 k = 10 := (zup_nj (by omega)).trans zup_ej
      have r4 : (zup (zup (zup (zup (zup s 9 k v) 10 k w) 11 k 1) 12 k 10) 13 k 0) 13 k = 0 := zup_ej
      rw [r0, r1, r2, r3, r4]
      omega
    · have q9 := a2 j9 hj9
      have r0 : (zup (zup (zup (zup (zup s 9 k v) 10 k w) 11 k 1) 12 k 10) 13 k 0) 9 j9 = s 9 j9 := (zup_nj (by omega)).trans ((zup_nj (by omega)).trans ((zup_nj (by omega)).trans ((zup_nj (by omega)).trans (zup_nj (by omega)))))
      have r1 : (zup (zup (zup (zup (zup s 9 k v) 10 k w) 11 k 1) 12 k 10) 13 k 0) 10 j9 = s 10 j9 := (zup_nj (by omega)).trans ((zup_nj (by omega)).trans ((zup_nj (by omega)).trans ((zup_nj (by omega)).trans (zup_nj (by omega)))))
      have r2 : (zup (zup (zup (zup (zup s 9 k v) 10 k w) 11 k 1) 12 k 10) 13 k 0) 11 j9 = s 11 j9 := (zup_nj (by omega)).trans ((zup_nj (by omega)).trans ((zup_nj (by omega)).trans ((zup_nj (by omega)).trans (zup_nj (by omega)))))
      have r3 : (zup (zup (zup (zup (zup s 9 k v) 10 k w) 11 k 1) 12 k 10) 13 k 0) 12 j9 = s 12 j9 := (zup_nj (by omega)).trans ((zup_nj (by omega)).trans ((zup_nj (by omega)).trans ((zup_nj (by omega)).trans (zup_nj (by omega)))))
      have r4 : (zup (zup (zup (zup (zup s 9 k v) 10 k w) 11 k 1) 12 k 10) 13 k 0) 13 j9 = s 13 j9 := (zup_nj (by omega)).trans ((zup_nj (by omega)).trans ((zup_nj (by omega)).trans ((zup_nj (by omega)).trans (zup_nj (by omega)))))
      rw [r0, r1, r2, r3, r4]
      exact q9
  · have q1 := a3.2.1
    have q2 := a3.2.2
    refine ⟨fun j9 hj9 => ?_, ?_, ?_⟩
    · by_cases e9 : j9 = k
      · rw [e9]
        have q9 := a3.1 k (by omega)
        have r0 : (zup (zup (zup (zup (zup s 9 k v) 10 k w) 11 k 1) 12 k 10) 13 k 0) 11 k = 1 := (zup_nj (by omega)).trans ((zup_nj (by omega)).trans zup_ej)
        have r1 : (zup (zup (zup (zup (zup s 9 k v) 10 k w) 11 k 1) 12 k 10) 13 k 0) 12 k = 10 := (zup_nj (by omega)).trans zup_ej
        rw [r0, r1]
        omega
      · have q9 := a3.1 j9 hj9
        have r0 : (zup (zup (zup (zup (zup s 9 k v) 10 k w) 11 k 1) 12 k 10) 13 k 0) 11 j9 = s 11 j9 := (zup_nj (by omega)).trans ((zup_nj (by omega)).trans ((zup_nj (by omega)).trans ((zup_nj (by omega)).trans (zup_nj (by omega)))))
        have r1 : (zup (zup (zup (zup (zup s 9 k v) 10 k w) 11 k 1) 12 k 10) 13 k 0) 12 j9 = s 12 j9 := (zup_nj (by omega)).trans ((zup_nj (by omega)).trans ((zup_nj (by omega)).trans ((zup_nj (by omega)).trans (zup_nj (by omega)))))
        rw [r0, r1]
        exact q9
    · by_cases e9 : 0 = k
      · exfalso
        have q3 : s 11 k = 0 := by rw [← e9]; exact q1
        omega
      · rw [show (zup (zup (zup (zup (zup s 9 k v) 10 k w) 11 k 1) 12 k 10) 13 k 0) 11 0 = s 11 0 from (zup_nj (by omega)).trans ((zup_nj (by omega)).trans ((zup_nj (by omega)).trans ((zup_nj (by omega)).trans (zup_nj (by omega)))))]
        exact q1
    · by_cases e9 : (g 3).toNat = k
      · exfalso
        rw [e9] at q2
        omega
      · rw [show (zup (zup (zup (zup (zup s 9 k v) 10 k w) 11 k 1) 12 k 10) 13 k 0) 11 (g 3).toNat = s 11 (g 3).toNat from (zup_nj (by omega)).trans ((zup_nj (by omega)).trans ((zup_nj (by omega)).trans ((zup_nj (by omega)).trans (zup_nj (by omega)))))]
        exact q2
  · have c1 := zcn_w (s := s) (s' := (zup (zup (zup (zup (zup s 9 k v) 10 k w) 11 k 1) 12 k 10) 13 k 0)) (k := k) (fun j hj => (zup_nj (by omega)).trans ((zup_nj (by omega)).trans ((zup_nj (by omega)).trans ((zup_nj (by omega)).trans (zup_nj (by omega)))))) 1 (g 2).toNat
    have c6 := zcn_w (s := s) (s' := (zup (zup (zup (zup (zup s 9 k v) 10 k w) 11 k 1) 12 k 10) 13 k 0)) (k := k) (fun j hj => (zup_nj (by omega)).trans ((zup_nj (by omega)).trans ((zup_nj (by omega)).trans ((zup_nj (by omega)).trans (zup_nj (by omega)))))) 6 (g 2).toNat
    have q4 := a4
    unfold zL1 at q4 ⊢
    rw [c1, c6]
    have r0 : (zup (zup (zup (zup (zup s 9 k v) 10 k w) 11 k 1) 12 k 10) 13 k 0) 11 k = 1 := (zup_nj (by omega)).trans ((zup_nj (by omega)).trans zup_ej)
    have r1 : (zup (zup (zup (zup (zup s 9 k v) 10 k w) 11 k 1) 12 k 10) 13 k 0) 7 13 = s 7 13 := (zup_nj (by omega)).trans ((zup_nj (by omega)).trans ((zup_nj (by omega)).trans ((zup_nj (by omega)).trans (zup_nj (by omega)))))
    rw [r0, r1]
    omega
theorem V_fill (V : zV g U F T B ph s) {k : Nat} {v : Int} (h0 : (k : Int) < g 2) (h1 : s 11 k = 5) (h2 : 0 ≤ v ∧ v ≤ B) : zV g U F T B ph (zup (zup s 11 k 0) 21 2 v) := by
  have hB9 := zV_B V
  obtain ⟨a1, a2, a3, a4, a5, a6, a7, a8, a9, a10, a11, a12, a13, a14, a15⟩ := V
  have g9 := a1.2.1
  refine ⟨zA_fr (fun p f h => (zup_nj (by omega)).trans (zup_nj (by omega))) a1, ?_, ?_, ?_, zG1_fr (fun p f h => (zup_nj (by omega)).trans (zup_nj (by omega))) a5, zG2_fr (fun p f h => (zup_nj (by omega)).trans (zup_nj (by omega))) a6, zC1_fr (fun p f h => (zup_nj (by omega)).trans (zup_nj (by omega))) a7, zC2_fr (fun p f h => (zup_nj (by omega)).trans (zup_nj (by omega))) a8, zM1_fr (fun p f h => (zup_nj (by omega)).trans (zup_nj (by omega))) a9, zM2_fr (fun p f h => (zup_nj (by omega)).trans (zup_nj (by omega))) a10, ?_, zP1_fr (fun p f h => (zup_nj (by omega)).trans (zup_nj (by omega))) a12, zN1_fr (fun p f h => (zup_nj (by omega)).trans (zup_nj (by omega))) a13, zZ1_fr (fun p f h => (zup_nj (by omega)).trans (zup_nj (by omega))) a14, zX1_fr (fun p f h => (zup_nj (by omega)).trans (zup_nj (by omega))) a15⟩
  · intro j9 hj9
    by_cases e9 : j9 = k
    · rw [e9]
      have q9 := a2 k (by omega)
      have r0 : (zup (zup s 11 k 0) 21 2 v) 9 k = s 9 k := (zup_nj (by omega)).trans (zup_nj (by omega))
      have r1 : (zup (zup s 11 k 0) 21 2 v) 10 k = s 10 k := (zup_nj (by omega)).trans (zup_nj (by omega))
      have r2 : (zup (zup s 11 k 0) 21 2 v) 11 k = 0 := (zup_nj (by omega)).trans zup_ej
      have r3 : (zup (zup s 11 k 0) 21 2 v) 12 k = s 12 k := (zup_nj (by omega)).trans (zup_nj (by omega))
      have r4 : (zup (zup s 11 k 0) 21 2 v) 13 k = s 13 k := (zup_nj (by omega)).trans (zup_nj (by omega))
      rw [r0, r1, r2, r3, r4]
      omega
    · have q9 := a2 j9 hj9
      have r0 : (zup (zup s 11 k 0) 21 2 v) 9 j9 = s 9 j9 := (zup_nj (by omega)).trans (zup_nj (by omega))
      have r1 : (zup (zup s 11 k 0) 21 2 v) 10 j9 = s 10 j9 := (zup_nj (by omega)).trans (zup_nj (by omega))
      have r2 : (zup (zup s 11 k 0) 21 2 v) 11 j9 = s 11 j9 := (zup_nj (by omega)).trans (zup_nj (by omega))
      have r3 : (zup (zup s 11 k 0) 21 2 v) 12 j9 = s 12 j9 := (zup_nj (by omega)).trans (zup_nj (by omega))
      have r4 : (zup (zup s 11 k 0) 21 2 v) 13 j9 = s 13 j9 := (zup_nj (by omega)).trans (zup_nj (by omega))
      rw [r0, r1, r2, r3, r4]
      exact q9
  · have q1 := a3.2.1
    have q2 := a3.2.2
    refine ⟨fun j9 hj9 => ?_, ?_, ?_⟩
    · by_cases e9 : j9 = k
      · rw [e9]
        have q9 := a3.1 k (by omega)
        have r0 : (zup (zup s 11 k 0) 21 2 v) 11 k = 0 := (zup_nj (by omega)).trans zup_ej
        have r1 : (zup (zup s 11 k 0) 21 2 v) 12 k = s 12 k := (zup_nj (by omega)).trans (zup_nj (by omega))
        rw [r0, r1]
        omega
      · have q9 := a3.1 j9 hj9
        have r0 : (zup (zup s 11 k 0) 21 2 v) 11 j9 = s 11 j9 := (zup_nj (by omega)).trans (zup_nj (by omega))
        have r1 : (zup (zup s 11 k 0) 21 2 v) 12 j9 = s 12 j9 := (zup_nj (by omega)).trans (zup_nj (by omega))
        rw [r0, r1]
        exact q9
    · by_cases e9 : 0 = k
      · exfalso
        have q3 : s 11 k = 0 := by rw [← e9]; exact q1
        omega
      · rw [show (zup (zup s 11 k 0) 21 2 v) 11 0 = s 11 0 from (zup_nj (by omega)).trans (zup_nj (by omega))]
        exact q1
    · by_cases e9 : (g 3).toNat = k
      · exfalso
        rw [e9] at q2
        omega
      · rw [show (zup (zup s 11 k 0) 21 2 v) 11 (g 3).toNat = s 11 (g 3).toNat from (zup_nj (by omega)).trans (zup_nj (by omega))]
        exact q2
  · have c1 := zcn_w (s := s) (s' := (zup (zup s 11 k 0) 21 2 v)) (k := k) (fun j hj => (zup_nj (by omega)).trans (zup_nj (by omega))) 1 (g 2).toNat
    have c6 := zcn_w (s := s) (s' := (zup (zup s 11 k 0) 21 2 v)) (k := k) (fun j hj => (zup_nj (by omega)).trans (zup_nj (by omega))) 6 (g 2).toNat
    have q4 := a4
    unfold zL1 at q4 ⊢
    rw [c1, c6]
    have r0 : (zup (zup s 11 k 0) 21 2 v) 11 k = 0 := (zup_nj (by omega)).trans zup_ej
    have r1 : (zup (zup s 11 k 0) 21 2 v) 7 13 = s 7 13 := (zup_nj (by omega)).trans (zup_nj (by omega))
    rw [r0, r1]
    omega
  · intro j9 hj9
    by_cases e9 : j9 = 21
    · rw [e9]
      have q9 := a11 21 (Or.inl rfl)
      have r0 : (zup (zup s 11 k 0) 21 2 v) 21 0 = s 21 0 := (zup_nj (by omega)).trans (zup_nj (by omega))
      have r1 : (zup (zup s 11 k 0) 21 2 v) 21 1 = s 21 1 := (zup_nj (by omega)).trans (zup_nj (by omega))
      have r2 : (zup (zup s 11 k 0) 21 2 v) 21 2 = v := zup_ej
      have r3 : (zup (zup s 11 k 0) 21 2 v) 21 3 = s 21 3 := (zup_nj (by omega)).trans (zup_nj (by omega))
      rw [r0, r1, r2, r3]
      omega
    · have q9 := a11 j9 hj9
      have r0 : (zup (zup s 11 k 0) 21 2 v) j9 0 = s j9 0 := (zup_nj (by omega)).trans (zup_nj (by omega))
      have r1 : (zup (zup s 11 k 0) 21 2 v) j9 1 = s j9 1 := (zup_nj (by omega)).trans (zup_nj (by omega))
      have r2 : (zup (zup s 11 k 0) 21 2 v) j9 2 = s j9 2 := (zup_nj (by omega)).trans (zup_nj (by omega))
      have r3 : (zup (zup s 11 k 0) 21 2 v) j9 3 = s j9 3 := (zup_nj (by omega)).trans (zup_nj (by omega))
      rw [r0, r1, r2, r3]
      exact q9
theorem V_sink (V : zV g U F T B ph s) {k : Nat} (h0 : (k : Int) < g 2) (h1 : ¬ k = 0) (h2 : ¬ (k : Int) = g 3) (h3 : ¬ s 11 k = 1) (h4 : ¬ s 11 k = 6) : zV g U F T B ph (zup s 11 k 7) := by
  have hB9 := zV_B V
  obtain ⟨a1, a2, a3, a4, a5, a6, a7, a8, a9, a10, a11, a12, a13, a14, a15⟩ := V
  have g9 := a1.2.1
  refine ⟨zA_fr (fun p f h => zup_nj (by omega)) a1, ?_, ?_, ?_, zG1_fr (fun p f h => zup_nj (by omega)) a5, zG2_fr (fun p f h => zup_nj (by omega)) a6, zC1_fr (fun p f h => zup_nj (by omega)) a7, zC2_fr (fun p f h => zup_nj (by omega)) a8, zM1_fr (fun p f h => zup_nj (by omega)) a9, zM2_fr (fun p f h => zup_nj (by omega)) a10, zS2_fr (fun p f h => zup_nj (by omega)) a11, zP1_fr (fun p f h => zup_nj (by omega)) a12, zN1_fr (fun p f h => zup_nj (by omega)) a13, zZ1_fr (fun p f h => zup_nj (by omega)) a14, zX1_fr (fun p f h => zup_nj (by omega)) a15⟩
  · intro j9 hj9
    by_cases e9 : j9 = k
    · rw [e9]
      have q9 := a2 k (by omega)
      have r0 : (zup s 11 k 7) 9 k = s 9 k := zup_nj (by omega)
      have r1 : (zup s 11 k 7) 10 k = s 10 k := zup_nj (by omega)
      have r2 : (zup s 11 k 7) 11 k = 7 := zup_ej
      have r3 : (zup s 11 k 7) 12 k = s 12 k := zup_nj (by omega)
      have r4 : (zup s 11 k 7) 13 k = s 13 k := zup_nj (by omega)
      rw [r0, r1, r2, r3, r4]
      omega
    · have q9 := a2 j9 hj9
      have r0 : (zup s 11 k 7) 9 j9 = s 9 j9 := zup_nj (by omega)
      have r1 : (zup s 11 k 7) 10 j9 = s 10 j9 := zup_nj (by omega)
      have r2 : (zup s 11 k 7) 11 j9 = s 11 j9 := zup_nj (by omega)
      have r3 : (zup s 11 k 7) 12 j9 = s 12 j9 := zup_nj (by omega)
      have r4 : (zup s 11 k 7) 13 j9 = s 13 j9 := zup_nj (by omega)
      rw [r0, r1, r2, r3, r4]
      exact q9
  · have q1 := a3.2.1
    have q2 := a3.2.2
    refine ⟨fun j9 hj9 => ?_, ?_, ?_⟩
    · by_cases e9 : j9 = k
      · rw [e9]
        have q9 := a3.1 k (by omega)
        have r0 : (zup s 11 k 7) 11 k = 7 := zup_ej
        have r1 : (zup s 11 k 7) 12 k = s 12 k := zup_nj (by omega)
        rw [r0, r1]
        omega
      · have q9 := a3.1 j9 hj9
        have r0 : (zup s 11 k 7) 11 j9 = s 11 j9 := zup_nj (by omega)
        have r1 : (zup s 11 k 7) 12 j9 = s 12 j9 := zup_nj (by omega)
        rw [r0, r1]
        exact q9
    · by_cases e9 : 0 = k
      · exfalso
        have q3 : s 11 k = 0 := by rw [← e9]; exact q1
        omega
      · rw [show (zup s 11 k 7) 11 0 = s 11 0 from zup_nj (by omega)]
        exact q1
    · by_cases e9 : (g 3).toNat = k
      · exfalso
        rw [e9] at q2
        omega
      · rw [show (zup s 11 k 7) 11 (g 3).toNat = s 11 (g 3).toNat from zup_nj (by omega)]
        exact q2
  · have c1 := zcn_w (s := s) (s' := (zup s 11 k 7)) (k := k) (fun j hj => zup_nj (by omega)) 1 (g 2).toNat
    have c6 := zcn_w (s := s) (s' := (zup s 11 k 7)) (k := k) (fun j hj => zup_nj (by omega)) 6 (g 2).toNat
    have q4 := a4
    unfold zL1 at q4 ⊢
    rw [c1, c6]
    have r0 : (zup s 11 k 7) 11 k = 7 := zup_ej
    have r1 : (zup s 11 k 7) 7 13 = s 7 13 := zup_nj (by omega)
    rw [r0, r1]
    omega
theorem V_sinl (V : zV g U F T B ph s) {k : Nat} (h0 : (k : Int) < g 2) (h1 : ¬ k = 0) (h2 : ¬ (k : Int) = g 3) (h3 : ¬ s 11 k = 1) (h4 : ¬ s 11 k = 6) (h5 : 0 < s 9 k) : zV g U F T B ph (zup (zup s 11 k 7) 9 k (s 9 k - 1)) := by
  have hB9 := zV_B V
  obtain ⟨a1, a2, a3, a4, a5, a6, a7, a8, a9, a10, a11, a12, a13, a14, a15⟩ := V
  have g9 := a1.2.1
  refine ⟨zA_fr (fun p f h => (zup_nj (by omega)).trans (zup_nj (by omega))) a1, ?_, ?_, ?_, zG1_fr (fun p f h => (zup_nj (by omega)).trans (zup_nj (by omega))) a5, zG2_fr (fun p f h => (zup_nj (by omega)).trans (zup_nj (by omega))) a6, zC1_fr (fun p f h => (zup_nj (by omega)).trans (zup_nj (by omega))) a7, zC2_fr (fun p f h => (zup_nj (by omega)).trans (zup_nj (by omega))) a8, zM1_fr (fun p f h => (zup_nj (by omega)).trans (zup_nj (by omega))) a9, zM2_fr (fun p f h => (zup_nj (by omega)).trans (zup_nj (by omega))) a10, zS2_fr (fun p f h => (zup_nj (by omega)).trans (zup_nj (by omega))) a11, zP1_fr (fun p f h => (zup_nj (by omega)).trans (zup_nj (by omega))) a12, zN1_fr (fun p f h => (zup_nj (by omega)).trans (zup_nj (by omega))) a13, zZ1_fr (fun p f h => (zup_nj (by omega)).trans (zup_nj (by omega))) a14, zX1_fr (fun p f h => (zup_nj (by omega)).trans (zup_nj (by omega))) a15⟩
  · intro j9 hj9
    by_cases e9 : j9 = k
    · rw [e9]
      have q9 := a2 k (by omega)
      have r0 : (zup (zup s 11 k 7) 9 k (s 9 k - 1)) 9 k = (s 9 k - 1) := zup_ej
      have r1 : (zup (zup s 11 k 7) 9 k (s 9 k - 1)) 10 k = s 10 k := (zup_nj (by omega)).trans (zup_nj (by omega))
      have r2 : (zup (zup s 11 k 7) 9 k (s 9 k - 1)) 11 k = 7 := (zup_nj (by omega)).trans zup_ej
      have r3 : (zup (zup s 11 k 7) 9 k (s 9 k - 1)) 12 k = s 12 k := (zup_nj (by omega)).trans (zup_nj (by omega))
      have r4 : (zup (zup s 11 k 7) 9 k (s 9 k - 1)) 13 k = s 13 k := (zup_nj (by omega)).trans (zup_nj (by omega))
      rw [r0, r1, r2, r3, r4]
      omega
    · have q9 := a2 j9 hj9
      have r0 : (zup (zup s 11 k 7) 9 k (s 9 k - 1)) 9 j9 = s 9 j9 := (zup_nj (by omega)).trans (zup_nj (by omega))
      have r1 : (zup (zup s 11 k 7) 9 k (s 9 k - 1)) 10 j9 = s 10 j9 := (zup_nj (by omega)).trans (zup_nj (by omega))
      have r2 : (zup (zup s 11 k 7) 9 k (s 9 k - 1)) 11 j9 = s 11 j9 := (zup_nj (by omega)).trans (zup_nj (by omega))
      have r3 : (zup (zup s 11 k 7) 9 k (s 9 k - 1)) 12 j9 = s 12 j9 := (zup_nj (by omega)).trans (zup_nj (by omega))
      have r4 : (zup (zup s 11 k 7) 9 k (s 9 k - 1)) 13 j9 = s 13 j9 := (zup_nj (by omega)).trans (zup_nj (by omega))
      rw [r0, r1, r2, r3, r4]
      exact q9
  · have q1 := a3.2.1
    have q2 := a3.2.2
    refine ⟨fun j9 hj9 => ?_, ?_, ?_⟩
    · by_cases e9 : j9 = k
      · rw [e9]
        have q9 := a3.1 k (by omega)
        have r0 : (zup (zup s 11 k 7) 9 k (s 9 k - 1)) 11 k = 7 := (zup_nj (by omega)).trans zup_ej
        have r1 : (zup (zup s 11 k 7) 9 k (s 9 k - 1)) 12 k = s 12 k := (zup_nj (by omega)).trans (zup_nj (by omega))
        rw [r0, r1]
        omega
      · have q9 := a3.1 j9 hj9
        have r0 : (zup (zup s 11 k 7) 9 k (s 9 k - 1)) 11 j9 = s 11 j9 := (zup_nj (by omega)).trans (zup_nj (by omega))
        have r1 : (zup (zup s 11 k 7) 9 k (s 9 k - 1)) 12 j9 = s 12 j9 := (zup_nj (by omega)).trans (zup_nj (by omega))
        rw [r0, r1]
        exact q9
    · by_cases e9 : 0 = k
      · exfalso
        have q3 : s 11 k = 0 := by rw [← e9]; exact q1
        omega
      · rw [show (zup (zup s 11 k 7) 9 k (s 9 k - 1)) 11 0 = s 11 0 from (zup_nj (by omega)).trans (zup_nj (by omega))]
        exact q1
    · by_cases e9 : (g 3).toNat = k
      · exfalso
        rw [e9] at q2
        omega
      · rw [show (zup (zup s 11 k 7) 9 k (s 9 k - 1)) 11 (g 3).toNat = s 11 (g 3).toNat from (zup_nj (by omega)).trans (zup_nj (by omega))]
        exact q2
  · have c1 := zcn_w (s := s) (s' := (zup (zup s 11 k 7) 9 k (s 9 k - 1))) (k := k) (fun j hj => (zup_nj (by omega)).trans (zup_nj (by omega))) 1 (g 2).toNat
    have c6 := zcn_w (s := s) (s' := (zup (zup s 11 k 7) 9 k (s 9 k - 1))) (k := k) (fun j hj => (zup_nj (by omega)).trans (zup_nj (by omega))) 6 (g 2).toNat
    have q4 := a4
    unfold zL1 at q4 ⊢
    rw [c1, c6]
    have r0 : (zup (zup s 11 k 7) 9 k (s 9 k - 1)) 11 k = 7 := (zup_nj (by omega)).trans zup_ej
    have r1 : (zup (zup s 11 k 7) 9 k (s 9 k - 1)) 7 13 = s 7 13 := (zup_nj (by omega)).trans (zup_nj (by omega))
    rw [r0, r1]
    omega
theorem V_mst (V : zV g U F T B ph s) {i : Nat} (h0 : i < 6) (h1 : s (54 + 2 * i) 6 = 0) : zV g U F T B ph (zup s (54 + 2 * i) 6 1) := by
  have hB9 := zV_B V
  obtain ⟨a1, a2, a3, a4, a5, a6, a7, a8, a9, a10, a11, a12, a13, a14, a15⟩ := V
  refine ⟨zA_fr (fun p f h => zup_nj (by omega)) a1, zD_fr (fun p f h => zup_nj (by omega)) a2, zE_fr (fun p f h => zup_nj (by omega)) a3, zL1_fr (fun p f h => zup_nj (by omega)) a4, zG1_fr (fun p f h => zup_nj (by omega)) a5, zG2_fr (fun p f h => zup_nj (by omega)) a6, zC1_fr (fun p f h => zup_nj (by omega)) a7, zC2_fr (fun p f h => zup_nj (by omega)) a8, ?_, zM2_fr (fun p f h => zup_nj (by omega)) a10, zS2_fr (fun p f h => zup_nj (by omega)) a11, ?_, zN1_fr (fun p f h => zup_nj (by omega)) a13, zZ1_fr (fun p f h => zup_nj (by omega)) a14, zX1_fr (fun p f h => zup_nj (by omega)) a15⟩
  · intro j9 hj9
    by_cases e9 : j9 = i
    · rw [e9]
      have q9 := a9 i (by omega)
      have q8 := q9.1
      have q7 := q9.2.1
      have q6 := q9.2.2.1
      refine ⟨?_, ?_, ?_, fun j8 hj8 => ?_⟩
      · have q9 := 0
        have r0 : (zup s (54 + 2 * i) 6 1) (54 + 2 * i) 1 = s (54 + 2 * i) 1 := zup_nj (by omega)
        rw [r0]
        omega
      · have q9 := 0
        have r0 : (zup s (54 + 2 * i) 6 1) (54 + 2 * i) 2 = s (54 + 2 * i) 2 := zup_nj (by omega)
        rw [r0]
        omega
      · have q9 := 0
        have r0 : (zup s (54 + 2 * i) 6 1) (54 + 2 * i) 6 = 1 := zup_ej
        rw [r0]
        omega
      · have q5 := q9.2.2.2 j8 hj8
        have r0 : (zup s (54 + 2 * i) 6 1) (55 + 2 * i) j8 = s (55 + 2 * i) j8 := zup_nj (by omega)
        rw [r0]
        exact q5
    · have q9 := a9 j9 hj9
      refine ⟨?_, ?_, ?_, fun j8 hj8 => ?_⟩
      · have q8 := q9.1
        have r0 : (zup s (54 + 2 * i) 6 1) (54 + 2 * j9) 1 = s (54 + 2 * j9) 1 := zup_nj (by omega)
        rw [r0]
        exact q8
      · have q8 := q9.2.1
        have r0 : (zup s (54 + 2 * i) 6 1) (54 + 2 * j9) 2 = s (54 + 2 * j9) 2 := zup_nj (by omega)
        rw [r0]
        exact q8
      · have q8 := q9.2.2.1
        have r0 : (zup s (54 + 2 * i) 6 1) (54 + 2 * j9) 6 = s (54 + 2 * j9) 6 := zup_nj (by omega)
        rw [r0]
        exact q8
      · have q8 := q9.2.2.2 j8 hj8
        have r0 : (zup s (54 + 2 * i) 6 1) (55 + 2 * j9) j8 = s (55 + 2 * j9) j8 := zup_nj (by omega)
        rw [r0]
        exact q8
  · have m0 := zmc_w (s := s) (s' := (zup s (54 + 2 * i) 6 1)) (i := i) (fun j hj hn => ⟨zup_nj (by omega), zup_nj (by omega), zup_nj (by omega)⟩) (by omega) 0
    have m1 := zmc_w (s := s) (s' := (zup s (54 + 2 * i) 6 1)) (i := i) (fun j hj hn => ⟨zup_nj (by omega), zup_nj (by omega), zup_nj (by omega)⟩) (by omega) 1
    have q12 := a12
    have q11 := a9 i (by omega)
    have q10 := q11.1
    have q8 := q11.2.2.1
    unfold zP1 at q12 ⊢
    rw [m0, m1]
    clear m0 m1 q11 a1 a2 a3 a4 a5 a6 a7 a8 a9 a10 a11 a12 a13 a14 a15
    have r0 : (zup s (54 + 2 * i) 6 1) (54 + 2 * i) 1 = s (54 + 2 * i) 1 := zup_nj (by omega)
    have r1 : (zup s (54 + 2 * i) 6 1) (54 + 2 * i) 4 = s (54 + 2 * i) 4 := zup_nj (by omega)
    have r2 : (zup s (54 + 2 * i) 6 1) (54 + 2 * i) 6 = 1 := zup_ej
    have r3 : (zup s (54 + 2 * i) 6 1) 21 0 = s 21 0 := zup_nj (by omega)
    have r4 : (zup s (54 + 2 * i) 6 1) 21 6 = s 21 6 := zup_nj (by omega)
    have r5 : (zup s (54 + 2 * i) 6 1) 21 10 = s 21 10 := zup_nj (by omega)
    have r6 : (zup s (54 + 2 * i) 6 1) 22 0 = s 22 0 := zup_nj (by omega)
    have r7 : (zup s (54 + 2 * i) 6 1) 22 6 = s 22 6 := zup_nj (by omega)
    have r8 : (zup s (54 + 2 * i) 6 1) 22 10 = s 22 10 := zup_nj (by omega)
    rw [r0, r1, r2, r3, r4, r5, r6, r7, r8]
    omega
theorem V_mgo (V : zV g U F T B ph s) {i n : Nat} {v w x : Int} (h0 : i < 6) (h1 : n < 6) (h2 : -1 ≤ v ∧ v < g 2) (h3 : 1 ≤ w ∧ w ≤ 6) : zV g U F T B ph (zup (zup (zup s (55 + 2 * i) n v) (54 + 2 * i) 2 w) (54 + 2 * i) 5 x) := by
  have hB9 := zV_B V
  obtain ⟨a1, a2, a3, a4, a5, a6, a7, a8, a9, a10, a11, a12, a13, a14, a15⟩ := V
  refine ⟨zA_fr (fun p f h => (zup_nj (by omega)).trans ((zup_nj (by omega)).trans (zup_nj (by omega)))) a1, zD_fr (fun p f h => (zup_nj (by omega)).trans ((zup_nj (by omega)).trans (zup_nj (by omega)))) a2, zE_fr (fun p f h => (zup_nj (by omega)).trans ((zup_nj (by omega)).trans (zup_nj (by omega)))) a3, zL1_fr (fun p f h => (zup_nj (by omega)).trans ((zup_nj (by omega)).trans (zup_nj (by omega)))) a4, zG1_fr (fun p f h => (zup_nj (by omega)).trans ((zup_nj (by omega)).trans (zup_nj (by omega)))) a5, zG2_fr (fun p f h => (zup_nj (by omega)).trans ((zup_nj (by omega)).trans (zup_nj (by omega)))) a6, zC1_fr (fun p f h => (zup_nj (by omega)).trans ((zup_nj (by omega)).trans (zup_nj (by omega)))) a7, zC2_fr (fun p f h => (zup_nj (by omega)).trans ((zup_nj (by omega)).trans (zup_nj (by omega)))) a8, ?_, ?_, zS2_fr (fun p f h => (zup_nj (by omega)).trans ((zup_nj (by omega)).trans (zup_nj (by omega)))) a11, zP1_fr (fun p f h => (zup_nj (by omega)).trans ((zup_nj (by omega)).trans (zup_nj (by omega)))) a12, zN1_fr (fun p f h => (zup_nj (by omega)).trans ((zup_nj (by omega)).trans (zup_nj (by omega)))) a13, zZ1_fr (fun p f h => (zup_nj (by omega)).trans ((zup_nj (by omega)).trans (zup_nj (by omega)))) a14, zX1_fr (fun p f h => (zup_nj (by omega)).trans ((zup_nj (by omega)).trans (zup_nj (by omega)))) a15⟩
  · intro j9 hj9
    by_cases e9 : j9 = i
    · rw [e9]
      have q9 := a9 i (by omega)
      have q8 := q9.1
      have q7 := q9.2.1
      have q6 := q9.2.2.1
      refine ⟨?_, ?_, ?_, fun j8 hj8 => ?_⟩
      · have q9 := 0
        have r0 : (zup (zup (zup s (55 + 2 * i) n v) (54 + 2 * i) 2 w) (54 + 2 * i) 5 x) (54 + 2 * i) 1 = s (54 + 2 * i) 1 := (zup_nj (by omega)).trans ((zup_nj (by omega)).trans (zup_nj (by omega)))
        rw [r0]
        omega
      · have q9 := 0
        have r0 : (zup (zup (zup s (55 + 2 * i) n v) (54 + 2 * i) 2 w) (54 + 2 * i) 5 x) (54 + 2 * i) 2 = w := (zup_nj (by omega)).trans zup_ej
        rw [r0]
        omega
      · have q9 := 0
        have r0 : (zup (zup (zup s (55 + 2 * i) n v) (54 + 2 * i) 2 w) (54 + 2 * i) 5 x) (54 + 2 * i) 6 = s (54 + 2 * i) 6 := (zup_nj (by omega)).trans ((zup_nj (by omega)).trans (zup_nj (by omega)))
        rw [r0]
        omega
      · by_cases e8 : j8 = n
        · rw [e8]
          have r0 : (zup (zup (zup s (55 + 2 * i) n v) (54 + 2 * i) 2 w) (54 + 2 * i) 5 x) (55 + 2 * i) n = v := (zup_nj (by omega)).trans ((zup_nj (by omega)).trans zup_ej)
          rw [r0]
          omega
        · have q5 := q9.2.2.2 j8 hj8
          have r0 : (zup (zup (zup s (55 + 2 * i) n v) (54 + 2 * i) 2 w) (54 + 2 * i) 5 x) (55 + 2 * i) j8 = s (55 + 2 * i) j8 := (zup_nj (by omega)).trans ((zup_nj (by omega)).trans (zup_nj (by omega)))
          rw [r0]
          exact q5
    · have q9 := a9 j9 hj9
      refine ⟨?_, ?_, ?_, fun j8 hj8 => ?_⟩
      · have q8 := q9.1
        have r0 : (zup (zup (zup s (55 + 2 * i) n v) (54 + 2 * i) 2 w) (54 + 2 * i) 5 x) (54 + 2 * j9) 1 = s (54 + 2 * j9) 1 := (zup_nj (by omega)).trans ((zup_nj (by omega)).trans (zup_nj (by omega)))
        rw [r0]
        exact q8
      · have q8 := q9.2.1
        have r0 : (zup (zup (zup s (55 + 2 * i) n v) (54 + 2 * i) 2 w) (54 + 2 * i) 5 x) (54 + 2 * j9) 2 = s (54 + 2 * j9) 2 := (zup_nj (by omega)).trans ((zup_nj (by omega)).trans (zup_nj (by omega)))
        rw [r0]
        exact q8
      · have q8 := q9.2.2.1
        have r0 : (zup (zup (zup s (55 + 2 * i) n v) (54 + 2 * i) 2 w) (54 + 2 * i) 5 x) (54 + 2 * j9) 6 = s (54 + 2 * j9) 6 := (zup_nj (by omega)).trans ((zup_nj (by omega)).trans (zup_nj (by omega)))
        rw [r0]
        exact q8
      · have q8 := q9.2.2.2 j8 hj8
        have r0 : (zup (zup (zup s (55 + 2 * i) n v) (54 + 2 * i) 2 w) (54 + 2 * i) 5 x) (55 + 2 * j9) j8 = s (55 + 2 * j9) j8 := (zup_nj (by omega)).trans ((zup_nj (by omega)).trans (zup_nj (by omega)))
        rw [r0]
        exact q8
  · have q10 := a10.1
    refine ⟨?_, fun j9 hj9 => ?_⟩
    · have q1 := 0
      have r0 : (zup (zup (zup s (55 + 2 * i) n v) (54 + 2 * i) 2 w) (54 + 2 * i) 5 x) 7 9 = s 7 9 := (zup_nj (by omega)).trans ((zup_nj (by omega)).trans (zup_nj (by omega)))
      rw [r0]
      omega
    · by_cases e9 : j9 = i
      · rw [e9]
        have q9 := a10.2 i (by omega)
        have r0 : (zup (zup (zup s (55 + 2 * i) n v) (54 + 2 * i) 2 w) (54 + 2 * i) 5 x) 7 9 = s 7 9 := (zup_nj (by omega)).trans ((zup_nj (by omega)).trans (zup_nj (by omega)))
        have r1 : (zup (zup (zup s (55 + 2 * i) n v) (54 + 2 * i) 2 w) (54 + 2 * i) 5 x) (54 + 2 * i) 1 = s (54 + 2 * i) 1 := (zup_nj (by omega)).trans ((zup_nj (by omega)).trans (zup_nj (by omega)))
        have r2 : (zup (zup (zup s (55 + 2 * i) n v) (54 + 2 * i) 2 w) (54 + 2 * i) 5 x) (54 + 2 * i) 2 = w := (zup_nj (by omega)).trans zup_ej
        have r3 : (zup (zup (zup s (55 + 2 * i) n v) (54 + 2 * i) 2 w) (54 + 2 * i) 5 x) (54 + 2 * i) 4 = s (54 + 2 * i) 4 := (zup_nj (by omega)).trans ((zup_nj (by omega)).trans (zup_nj (by omega)))
        rw [r0, r1, r2, r3]
        omega
      · have q9 := a10.2 j9 hj9
        have r0 : (zup (zup (zup s (55 + 2 * i) n v) (54 + 2 * i) 2 w) (54 + 2 * i) 5 x) 7 9 = s 7 9 := (zup_nj (by omega)).trans ((zup_nj (by omega)).trans (zup_nj (by omega)))
        have r1 : (zup (zup (zup s (55 + 2 * i) n v) (54 + 2 * i) 2 w) (54 + 2 * i) 5 x) (54 + 2 * j9) 1 = s (54 + 2 * j9) 1 := (zup_nj (by omega)).trans ((zup_nj (by omega)).trans (zup_nj (by omega)))
        have r2 : (zup (zup (zup s (55 + 2 * i) n v) (54 + 2 * i) 2 w) (54 + 2 * i) 5 x) (54 + 2 * j9) 2 = s (54 + 2 * j9) 2 := (zup_nj (by omega)).trans ((zup_nj (by omega)).trans (zup_nj (by omega)))
        have r3 : (zup (zup (zup s (55 + 2 * i) n v) (54 + 2 * i) 2 w) (54 + 2 * i) 5 x) (54 + 2 * j9) 4 = s (54 + 2 * j9) 4 := (zup_nj (by omega)).trans ((zup_nj (by omega)).trans (zup_nj (by omega)))
        rw [r0, r1, r2, r3]
        omega
theorem V_blow (V : zV g U F T B ph s) {o i : Nat} (h0 : i < 6) (h1 : s (54 + 2 * i) 1 = 1 ∧ o = 22 ∨ ¬ s (54 + 2 * i) 1 = 1 ∧ o = 21) (h2 : ¬ s (54 + 2 * i) 1 = -1) (h3 : s (54 + 2 * i) 6 = 0 ∨ s (54 + 2 * i) 6 = 1) : zV g U F T B ph (zup (zup s (54 + 2 * i) 6 2) o 6 (s o 6 + s (54 + 2 * i) 4)) := by
  have hB9 := zV_B V
  obtain ⟨a1, a2, a3, a4, a5, a6, a7, a8, a9, a10, a11, a12, a13, a14, a15⟩ := V
  refine ⟨zA_fr (fun p f h => (zup_nj (by omega)).trans (zup_nj (by omega))) a1, zD_fr (fun p f h => (zup_nj (by omega)).trans (zup_nj (by omega))) a2, zE_fr (fun p f h => (zup_nj (by omega)).trans (zup_nj (by omega))) a3, zL1_fr (fun p f h => (zup_nj (by omega)).trans (zup_nj (by omega))) a4, zG1_fr (fun p f h => (zup_nj (by omega)).trans (zup_nj (by omega))) a5, zG2_fr (fun p f h => (zup_nj (by omega)).trans (zup_nj (by omega))) a6, zC1_fr (fun p f h => (zup_nj (by omega)).trans (zup_nj (by omega))) a7, zC2_fr (fun p f h => (zup_nj (by omega)).trans (zup_nj (by omega))) a8, ?_, zM2_fr (fun p f h => (zup_nj (by omega)).trans (zup_nj (by omega))) a10, zS2_fr (fun p f h => (zup_nj (by omega)).trans (zup_nj (by omega))) a11, ?_, zN1_fr (fun p f h => (zup_nj (by omega)).trans (zup_nj (by omega))) a13, zZ1_fr (fun p f h => (zup_nj (by omega)).trans (zup_nj (by omega))) a14, zX1_fr (fun p f h => (zup_nj (by omega)).trans (zup_nj (by omega))) a15⟩
  · intro j9 hj9
    by_cases e9 : j9 = i
    · rw [e9]
      have q9 := a9 i (by omega)
      have q8 := q9.1
      have q7 := q9.2.1
      have q6 := q9.2.2.1
      refine ⟨?_, ?_, ?_, fun j8 hj8 => ?_⟩
      · have q9 := 0
        have r0 : (zup (zup s (54 + 2 * i) 6 2) o 6 (s o 6 + s (54 + 2 * i) 4)) (54 + 2 * i) 1 = s (54 + 2 * i) 1 := (zup_nj (by omega)).trans (zup_nj (by omega))
        rw [r0]
        omega
      · have q9 := 0
        have r0 : (zup (zup s (54 + 2 * i) 6 2) o 6 (s o 6 + s (54 + 2 * i) 4)) (54 + 2 * i) 2 = s (54 + 2 * i) 2 := (zup_nj (by omega)).trans (zup_nj (by omega))
        rw [r0]
        omega
      · have q9 := 0
        have r0 : (zup (zup s (54 + 2 * i) 6 2) o 6 (s o 6 + s (54 + 2 * i) 4)) (54 + 2 * i) 6 = 2 := (zup_nj (by omega)).trans zup_ej
        rw [r0]
        omega
      · have q5 := q9.2.2.2 j8 hj8
        have r0 : (zup (zup s (54 + 2 * i) 6 2) o 6 (s o 6 + s (54 + 2 * i) 4)) (55 + 2 * i) j8 = s (55 + 2 * i) j8 := (zup_nj (by omega)).trans (zup_nj (by omega))
        rw [r0]
        exact q5
    · have q9 := a9 j9 hj9
      refine ⟨?_, ?_, ?_, fun j8 hj8 => ?_⟩
      · have q8 := q9.1
        have r0 : (zup (zup s (54 + 2 * i) 6 2) o 6 (s o 6 + s (54 + 2 * i) 4)) (54 + 2 * j9) 1 = s (54 + 2 * j9) 1 := (zup_nj (by omega)).trans (zup_nj (by omega))
        rw [r0]
        exact q8
      · have q8 := q9.2.1
        have r0 : (zup (zup s (54 + 2 * i) 6 2) o 6 (s o 6 + s (54 + 2 * i) 4)) (54 + 2 * j9) 2 = s (54 + 2 * j9) 2 := (zup_nj (by omega)).trans (zup_nj (by omega))
        rw [r0]
        exact q8
      · have q8 := q9.2.2.1
        have r0 : (zup (zup s (54 + 2 * i) 6 2) o 6 (s o 6 + s (54 + 2 * i) 4)) (54 + 2 * j9) 6 = s (54 + 2 * j9) 6 := (zup_nj (by omega)).trans (zup_nj (by omega))
        rw [r0]
        exact q8
      · have q8 := q9.2.2.2 j8 hj8
        have r0 : (zup (zup s (54 + 2 * i) 6 2) o 6 (s o 6 + s (54 + 2 * i) 4)) (55 + 2 * j9) j8 = s (55 + 2 * j9) j8 := (zup_nj (by omega)).trans (zup_nj (by omega))
        rw [r0]
        exact q8
  · have m0 := zmc_w (s := s) (s' := (zup (zup s (54 + 2 * i) 6 2) o 6 (s o 6 + s (54 + 2 * i) 4))) (i := i) (fun j hj hn => ⟨(zup_nj (by omega)).trans (zup_nj (by omega)), (zup_nj (by omega)).trans (zup_nj (by omega)), (zup_nj (by omega)).trans (zup_nj (by omega))⟩) (by omega) 0
    have m1 := zmc_w (s := s) (s' := (zup (zup s (54 + 2 * i) 6 2) o 6 (s o 6 + s (54 + 2 * i) 4))) (i := i) (fun j hj hn => ⟨(zup_nj (by omega)).trans (zup_nj (by omega)), (zup_nj (by omega)).trans (zup_nj (by omega)), (zup_nj (by omega)).trans (zup_nj (by omega))⟩) (by omega) 1
    have q12 := a12
    have q11 := a9 i (by omega)
    have q10 := q11.1
    have q8 := q11.2.2.1
    unfold zP1 at q12 ⊢
    rw [m0, m1]
    clear m0 m1 q11 a1 a2 a3 a4 a5 a6 a7 a8 a9 a10 a11 a12 a13 a14 a15
    rcases h1 with ⟨h1, e9⟩ | ⟨h1, e9⟩
    · subst e9
      have r0 : (zup (zup s (54 + 2 * i) 6 2) 22 6 (s 22 6 + s (54 + 2 * i) 4)) (54 + 2 * i) 1 = s (54 + 2 * i) 1 := (zup_nj (by omega)).trans (zup_nj (by omega))
      have r1 : (zup (zup s (54 + 2 * i) 6 2) 22 6 (s 22 6 + s (54 + 2 * i) 4)) (54 + 2 * i) 4 = s (54 + 2 * i) 4 := (zup_nj (by omega)).trans (zup_nj (by omega))
      have r2 : (zup (zup s (54 + 2 * i) 6 2) 22 6 (s 22 6 + s (54 + 2 * i) 4)) (54 + 2 * i) 6 = 2 := (zup_nj (by omega)).trans zup_ej
      have r3 : (zup (zup s (54 + 2 * i) 6 2) 22 6 (s 22 6 + s (54 + 2 * i) 4)) 21 0 = s 21 0 := (zup_nj (by omega)).trans (zup_nj (by omega))
      have r4 : (zup (zup s (54 + 2 * i) 6 2) 22 6 (s 22 6 + s (54 + 2 * i) 4)) 21 6 = s 21 6 := (zup_nj (by omega)).trans (zup_nj (by omega))
      have r5 : (zup (zup s (54 + 2 * i) 6 2) 22 6 (s 22 6 + s (54 + 2 * i) 4)) 21 10 = s 21 10 := (zup_nj (by omega)).trans (zup_nj (by omega))
      have r6 : (zup (zup s (54 + 2 * i) 6 2) 22 6 (s 22 6 + s (54 + 2 * i) 4)) 22 0 = s 22 0 := (zup_nj (by omega)).trans (zup_nj (by omega))
      have r7 : (zup (zup s (54 + 2 * i) 6 2) 22 6 (s 22 6 + s (54 + 2 * i) 4)) 22 6 = (s 22 6 + s (54 + 2 * i) 4) := zup_ej
      have r8 : (zup (zup s (54 + 2 * i) 6 2) 22 6 (s 22 6 + s (54 + 2 * i) 4)) 22 10 = s 22 10 := (zup_nj (by omega)).trans (zup_nj (by omega))
      rw [r0, r1, r2, r3, r4, r5, r6, r7, r8]
      omega
    · subst e9
      have r0 : (zup (zup s (54 + 2 * i) 6 2) 21 6 (s 21 6 + s (54 + 2 * i) 4)) (54 + 2 * i) 1 = s (54 + 2 * i) 1 := (zup_nj (by omega)).trans (zup_nj (by omega))
      have r1 : (zup (zup s (54 + 2 * i) 6 2) 21 6 (s 21 6 + s (54 + 2 * i) 4)) (54 + 2 * i) 4 = s (54 + 2 * i) 4 := (zup_nj (by omega)).trans (zup_nj (by omega))
      have r2 : (zup (zup s (54 + 2 * i) 6 2) 21 6 (s 21 6 + s (54 + 2 * i) 4)) (54 + 2 * i) 6 = 2 := (zup_nj (by omega)).trans zup_ej
      have r3 : (zup (zup s (54 + 2 * i) 6 2) 21 6 (s 21 6 + s (54 + 2 * i) 4)) 21 0 = s 21 0 := (zup_nj (by omega)).trans (zup_nj (by omega))
      have r4 : (zup (zup s (54 + 2 * i) 6 2) 21 6 (s 21 6 + s (54 + 2 * i) 4)) 21 6 = (s 21 6 + s (54 + 2 * i) 4) := zup_ej
      have r5 : (zup (zup s (54 + 2 * i) 6 2) 21 6 (s 21 6 + s (54 + 2 * i) 4)) 21 10 = s 21 10 := (zup_nj (by omega)).trans (zup_nj (by omega))
      have r6 : (zup (zup s (54 + 2 * i) 6 2) 21 6 (s 21 6 + s (54 + 2 * i) 4)) 22 0 = s 22 0 := (zup_nj (by omega)).trans (zup_nj (by omega))
      have r7 : (zup (zup s (54 + 2 * i) 6 2) 21 6 (s 21 6 + s (54 + 2 * i) 4)) 22 6 = s 22 6 := (zup_nj (by omega)).trans (zup_nj (by omega))
      have r8 : (zup (zup s (54 + 2 * i) 6 2) 21 6 (s 21 6 + s (54 + 2 * i) 4)) 22 10 = s 22 10 := (zup_nj (by omega)).trans (zup_nj (by omega))
      rw [r0, r1, r2, r3, r4, r5, r6, r7, r8]
      omega
theorem V_crsh (V : zV g U F T B ph s) {o i : Nat} (h0 : i < 6) (h1 : s (54 + 2 * i) 1 = 1 ∧ o = 22 ∨ ¬ s (54 + 2 * i) 1 = 1 ∧ o = 21) (h2 : ¬ s (54 + 2 * i) 1 = -1) (h3 : s (54 + 2 * i) 6 = 0 ∨ s (54 + 2 * i) 6 = 1) : zV g U F T B ph (zup (zup s (54 + 2 * i) 6 3) o 6 (s o 6 + s (54 + 2 * i) 4)) := by
  have hB9 := zV_B V
  obtain ⟨a1, a2, a3, a4, a5, a6, a7, a8, a9, a10, a11, a12, a13, a14, a15⟩ := V
  refine ⟨zA_fr (fun p f h => (zup_nj (by omega)).trans (zup_nj (by omega))) a1, zD_fr (fun p f h => (zup_nj (by omega)).trans (zup_nj (by omega))) a2, zE_fr (fun p f h => (zup_nj (by omega)).trans (zup_nj (by omega))) a3, zL1_fr (fun p f h => (zup_nj (by omega)).trans (zup_nj (by omega))) a4, zG1_fr (fun p f h => (zup_nj (by omega)).trans (zup_nj (by omega))) a5, zG2_fr (fun p f h => (zup_nj (by omega)).trans (zup_nj (by omega))) a6, zC1_fr (fun p f h => (zup_nj (by omega)).trans (zup_nj (by omega))) a7, zC2_fr (fun p f h => (zup_nj (by omega)).trans (zup_nj (by omega))) a8, ?_, zM2_fr (fun p f h => (zup_nj (by omega)).trans (zup_nj (by omega))) a10, zS2_fr (fun p f h => (zup_nj (by omega)).trans (zup_nj (by omega))) a11, ?_, zN1_fr (fun p f h => (zup_nj (by omega)).trans (zup_nj (by omega))) a13, zZ1_fr (fun p f h => (zup_nj (by omega)).trans (zup_nj (by omega))) a14, zX1_fr (fun p f h => (zup_nj (by omega)).trans (zup_nj (by omega))) a15⟩
  · intro j9 hj9
    by_cases e9 : j9 = i
    · rw [e9]
      have q9 := a9 i (by omega)
      have q8 := q9.1
      have q7 := q9.2.1
      have q6 := q9.2.2.1
      refine ⟨?_, ?_, ?_, fun j8 hj8 => ?_⟩
      · have q9 := 0
        have r0 : (zup (zup s (54 + 2 * i) 6 3) o 6 (s o 6 + s (54 + 2 * i) 4)) (54 + 2 * i) 1 = s (54 + 2 * i) 1 := (zup_nj (by omega)).trans (zup_nj (by omega))
        rw [r0]
        omega
      · have q9 := 0
        have r0 : (zup (zup s (54 + 2 * i) 6 3) o 6 (s o 6 + s (54 + 2 * i) 4)) (54 + 2 * i) 2 = s (54 + 2 * i) 2 := (zup_nj (by omega)).trans (zup_nj (by omega))
        rw [r0]
        omega
      · have q9 := 0
        have r0 : (zup (zup s (54 + 2 * i) 6 3) o 6 (s o 6 + s (54 + 2 * i) 4)) (54 + 2 * i) 6 = 3 := (zup_nj (by omega)).trans zup_ej
        rw [r0]
        omega
      · have q5 := q9.2.2.2 j8 hj8
        have r0 : (zup (zup s (54 + 2 * i) 6 3) o 6 (s o 6 + s (54 + 2 * i) 4)) (55 + 2 * i) j8 = s (55 + 2 * i) j8 := (zup_nj (by omega)).trans (zup_nj (by omega))
        rw [r0]
        exact q5
    · have q9 := a9 j9 hj9
      refine ⟨?_, ?_, ?_, fun j8 hj8 => ?_⟩
      · have q8 := q9.1
        have r0 : (zup (zup s (54 + 2 * i) 6 3) o 6 (s o 6 + s (54 + 2 * i) 4)) (54 + 2 * j9) 1 = s (54 + 2 * j9) 1 := (zup_nj (by omega)).trans (zup_nj (by omega))
        rw [r0]
        exact q8
      · have q8 := q9.2.1
        have r0 : (zup (zup s (54 + 2 * i) 6 3) o 6 (s o 6 + s (54 + 2 * i) 4)) (54 + 2 * j9) 2 = s (54 + 2 * j9) 2 := (zup_nj (by omega)).trans (zup_nj (by omega))
        rw [r0]
        exact q8
      · have q8 := q9.2.2.1
        have r0 : (zup (zup s (54 + 2 * i) 6 3) o 6 (s o 6 + s (54 + 2 * i) 4)) (54 + 2 * j9) 6 = s (54 + 2 * j9) 6 := (zup_nj (by omega)).trans (zup_nj (by omega))
        rw [r0]
        exact q8
      · have q8 := q9.2.2.2 j8 hj8
        have r0 : (zup (zup s (54 + 2 * i) 6 3) o 6 (s o 6 + s (54 + 2 * i) 4)) (55 + 2 * j9) j8 = s (55 + 2 * j9) j8 := (zup_nj (by omega)).trans (zup_nj (by omega))
        rw [r0]
        exact q8
  · have m0 := zmc_w (s := s) (s' := (zup (zup s (54 + 2 * i) 6 3) o 6 (s o 6 + s (54 + 2 * i) 4))) (i := i) (fun j hj hn => ⟨(zup_nj (by omega)).trans (zup_nj (by omega)), (zup_nj (by omega)).trans (zup_nj (by omega)), (zup_nj (by omega)).trans (zup_nj (by omega))⟩) (by omega) 0
    have m1 := zmc_w (s := s) (s' := (zup (zup s (54 + 2 * i) 6 3) o 6 (s o 6 + s (54 + 2 * i) 4))) (i := i) (fun j hj hn => ⟨(zup_nj (by omega)).trans (zup_nj (by omega)), (zup_nj (by omega)).trans (zup_nj (by omega)), (zup_nj (by omega)).trans (zup_nj (by omega))⟩) (by omega) 1
    have q12 := a12
    have q11 := a9 i (by omega)
    have q10 := q11.1
    have q8 := q11.2.2.1
    unfold zP1 at q12 ⊢
    rw [m0, m1]
    clear m0 m1 q11 a1 a2 a3 a4 a5 a6 a7 a8 a9 a10 a11 a12 a13 a14 a15
    rcases h1 with ⟨h1, e9⟩ | ⟨h1, e9⟩
    · subst e9
      have r0 : (zup (zup s (54 + 2 * i) 6 3) 22 6 (s 22 6 + s (54 + 2 * i) 4)) (54 + 2 * i) 1 = s (54 + 2 * i) 1 := (zup_nj (by omega)).trans (zup_nj (by omega))
      have r1 : (zup (zup s (54 + 2 * i) 6 3) 22 6 (s 22 6 + s (54 + 2 * i) 4)) (54 + 2 * i) 4 = s (54 + 2 * i) 4 := (zup_nj (by omega)).trans (zup_nj (by omega))
      have r2 : (zup (zup s (54 + 2 * i) 6 3) 22 6 (s 22 6 + s (54 + 2 * i) 4)) (54 + 2 * i) 6 = 3 := (zup_nj (by omega)).trans zup_ej
      have r3 : (zup (zup s (54 + 2 * i) 6 3) 22 6 (s 22 6 + s (54 + 2 * i) 4)) 21 0 = s 21 0 := (zup_nj (by omega)).trans (zup_nj (by omega))
      have r4 : (zup (zup s (54 + 2 * i) 6 3) 22 6 (s 22 6 + s (54 + 2 * i) 4)) 21 6 = s 21 6 := (zup_nj (by omega)).trans (zup_nj (by omega))
      have r5 : (zup (zup s (54 + 2 * i) 6 3) 22 6 (s 22 6 + s (54 + 2 * i) 4)) 21 10 = s 21 10 := (zup_nj (by omega)).trans (zup_nj (by omega))
      have r6 : (zup (zup s (54 + 2 * i) 6 3) 22 6 (s 22 6 + s (54 + 2 * i) 4)) 22 0 = s 22 0 := (zup_nj (by omega)).trans (zup_nj (by omega))
      have r7 : (zup (zup s (54 + 2 * i) 6 3) 22 6 (s 22 6 + s (54 + 2 * i) 4)) 22 6 = (s 22 6 + s (54 + 2 * i) 4) := zup_ej
      have r8 : (zup (zup s (54 + 2 * i) 6 3) 22 6 (s 22 6 + s (54 + 2 * i) 4)) 22 10 = s 22 10 := (zup_nj (by omega)).trans (zup_nj (by omega))
      rw [r0, r1, r2, r3, r4, r5, r6, r7, r8]
      omega
    · subst e9
      have r0 : (zup (zup s (54 + 2 * i) 6 3) 21 6 (s 21 6 + s (54 + 2 * i) 4)) (54 + 2 * i) 1 = s (54 + 2 * i) 1 := (zup_nj (by omega)).trans (zup_nj (by omega))
      have r1 : (zup (zup s (54 + 2 * i) 6 3) 21 6 (s 21 6 + s (54 + 2 * i) 4)) (54 + 2 * i) 4 = s (54 + 2 * i) 4 := (zup_nj (by omega)).trans (zup_nj (by omega))
      have r2 : (zup (zup s (54 + 2 * i) 6 3) 21 6 (s 21 6 + s (54 + 2 * i) 4)) (54 + 2 * i) 6 = 3 := (zup_nj (by omega)).trans zup_ej
      have r3 : (zup (zup s (54 + 2 * i) 6 3) 21 6 (s 21 6 + s (54 + 2 * i) 4)) 21 0 = s 21 0 := (zup_nj (by omega)).trans (zup_nj (by omega))
      have r4 : (zup (zup s (54 + 2 * i) 6 3) 21 6 (s 21 6 + s (54 + 2 * i) 4)) 21 6 = (s 21 6 + s (54 + 2 * i) 4) := zup_ej
      have r5 : (zup (zup s (54 + 2 * i) 6 3) 21 6 (s 21 6 + s (54 + 2 * i) 4)) 21 10 = s 21 10 := (zup_nj (by omega)).trans (zup_nj (by omega))
      have r6 : (zup (zup s (54 + 2 * i) 6 3) 21 6 (s 21 6 + s (54 + 2 * i) 4)) 22 0 = s 22 0 := (zup_nj (by omega)).trans (zup_nj (by omega))
      have r7 : (zup (zup s (54 + 2 * i) 6 3) 21 6 (s 21 6 + s (54 + 2 * i) 4)) 22 6 = s 22 6 := (zup_nj (by omega)).trans (zup_nj (by omega))
      have r8 : (zup (zup s (54 + 2 * i) 6 3) 21 6 (s 21 6 + s (54 + 2 * i) 4)) 22 10 = s 22 10 := (zup_nj (by omega)).trans (zup_nj (by omega))
      rw [r0, r1, r2, r3, r4, r5, r6, r7, r8]
      omega
theorem V_chrg (V : zV g U F T B ph s) {o i : Nat} {x : Int} (h0 : i < 6) (h1 : s (54 + 2 * i) 1 = 1 ∧ o = 22 ∨ ¬ s (54 + 2 * i) 1 = 1 ∧ o = 21) (h2 : ¬ s (54 + 2 * i) 1 = -1) (h3 : s (54 + 2 * i) 6 = 0 ∨ s (54 + 2 * i) 6 = 1) (h4 : 0 ≤ x ∧ x ≤ s o 0) : zV g U F T B ph (zup (zup s o 0 (s o 0 - x)) (54 + 2 * i) 4 (s (54 + 2 * i) 4 + x)) := by
  have hB9 := zV_B V
  obtain ⟨a1, a2, a3, a4, a5, a6, a7, a8, a9, a10, a11, a12, a13, a14, a15⟩ := V
  refine ⟨zA_fr (fun p f h => (zup_nj (by omega)).trans (zup_nj (by omega))) a1, zD_fr (fun p f h => (zup_nj (by omega)).trans (zup_nj (by omega))) a2, zE_fr (fun p f h => (zup_nj (by omega)).trans (zup_nj (by omega))) a3, zL1_fr (fun p f h => (zup_nj (by omega)).trans (zup_nj (by omega))) a4, zG1_fr (fun p f h => (zup_nj (by omega)).trans (zup_nj (by omega))) a5, zG2_fr (fun p f h => (zup_nj (by omega)).trans (zup_nj (by omega))) a6, zC1_fr (fun p f h => (zup_nj (by omega)).trans (zup_nj (by omega))) a7, zC2_fr (fun p f h => (zup_nj (by omega)).trans (zup_nj (by omega))) a8, zM1_fr (fun p f h => (zup_nj (by omega)).trans (zup_nj (by omega))) a9, ?_, ?_, ?_, zN1_fr (fun p f h => (zup_nj (by omega)).trans (zup_nj (by omega))) a13, zZ1_fr (fun p f h => (zup_nj (by omega)).trans (zup_nj (by omega))) a14, zX1_fr (fun p f h => (zup_nj (by omega)).trans (zup_nj (by omega))) a15⟩
  · have q10 := a10.1
    refine ⟨?_, fun j9 hj9 => ?_⟩
    · have q1 := 0
      have r0 : (zup (zup s o 0 (s o 0 - x)) (54 + 2 * i) 4 (s (54 + 2 * i) 4 + x)) 7 9 = s 7 9 := (zup_nj (by omega)).trans (zup_nj (by omega))
      rw [r0]
      omega
    · by_cases e9 : j9 = i
      · rw [e9]
        have q9 := a10.2 i (by omega)
        have r0 : (zup (zup s o 0 (s o 0 - x)) (54 + 2 * i) 4 (s (54 + 2 * i) 4 + x)) 7 9 = s 7 9 := (zup_nj (by omega)).trans (zup_nj (by omega))
        have r1 : (zup (zup s o 0 (s o 0 - x)) (54 + 2 * i) 4 (s (54 + 2 * i) 4 + x)) (54 + 2 * i) 1 = s (54 + 2 * i) 1 := (zup_nj (by omega)).trans (zup_nj (by omega))
        have r2 : (zup (zup s o 0 (s o 0 - x)) (54 + 2 * i) 4 (s (54 + 2 * i) 4 + x)) (54 + 2 * i) 2 = s (54 + 2 * i) 2 := (zup_nj (by omega)).trans (zup_nj (by omega))
        have r3 : (zup (zup s o 0 (s o 0 - x)) (54 + 2 * i) 4 (s (54 + 2 * i) 4 + x)) (54 + 2 * i) 4 = (s (54 + 2 * i) 4 + x) := zup_ej
        rw [r0, r1, r2, r3]
        omega
      · have q9 := a10.2 j9 hj9
        have r0 : (zup (zup s o 0 (s o 0 - x)) (54 + 2 * i) 4 (s (54 + 2 * i) 4 + x)) 7 9 = s 7 9 := (zup_nj (by omega)).trans (zup_nj (by omega))
        have r1 : (zup (zup s o 0 (s o 0 - x)) (54 + 2 * i) 4 (s (54 + 2 * i) 4 + x)) (54 + 2 * j9) 1 = s (54 + 2 * j9) 1 := (zup_nj (by omega)).trans (zup_nj (by omega))
        have r2 : (zup (zup s o 0 (s o 0 - x)) (54 + 2 * i) 4 (s (54 + 2 * i) 4 + x)) (54 + 2 * j9) 2 = s (54 + 2 * j9) 2 := (zup_nj (by omega)).trans (zup_nj (by omega))
        have r3 : (zup (zup s o 0 (s o 0 - x)) (54 + 2 * i) 4 (s (54 + 2 * i) 4 + x)) (54 + 2 * j9) 4 = s (54 + 2 * j9) 4 := (zup_nj (by omega)).trans (zup_nj (by omega))
        rw [r0, r1, r2, r3]
        omega
  · intro j9 hj9
    by_cases e9 : j9 = o
    · rw [e9]
      have q9 := a11 o (by omega)
      have r0 : (zup (zup s o 0 (s o 0 - x)) (54 + 2 * i) 4 (s (54 + 2 * i) 4 + x)) o 0 = (s o 0 - x) := (zup_nj (by omega)).trans zup_ej
      have r1 : (zup (zup s o 0 (s o 0 - x)) (54 + 2 * i) 4 (s (54 + 2 * i) 4 + x)) o 1 = s o 1 := (zup_nj (by omega)).trans (zup_nj (by omega))
      have r2 : (zup (zup s o 0 (s o 0 - x)) (54 + 2 * i) 4 (s (54 + 2 * i) 4 + x)) o 2 = s o 2 := (zup_nj (by omega)).trans (zup_nj (by omega))
      have r3 : (zup (zup s o 0 (s o 0 - x)) (54 + 2 * i) 4 (s (54 + 2 * i) 4 + x)) o 3 = s o 3 := (zup_nj (by omega)).trans (zup_nj (by omega))
      rw [r0, r1, r2, r3]
      omega
    · have q9 := a11 j9 hj9
      have r0 : (zup (zup s o 0 (s o 0 - x)) (54 + 2 * i) 4 (s (54 + 2 * i) 4 + x)) j9 0 = s j9 0 := (zup_nj (by omega)).trans (zup_nj (by omega))
      have r1 : (zup (zup s o 0 (s o 0 - x)) (54 + 2 * i) 4 (s (54 + 2 * i) 4 + x)) j9 1 = s j9 1 := (zup_nj (by omega)).trans (zup_nj (by omega))
      have r2 : (zup (zup s o 0 (s o 0 - x)) (54 + 2 * i) 4 (s (54 + 2 * i) 4 + x)) j9 2 = s j9 2 := (zup_nj (by omega)).trans (zup_nj (by omega))
      have r3 : (zup (zup s o 0 (s o 0 - x)) (54 + 2 * i) 4 (s (54 + 2 * i) 4 + x)) j9 3 = s j9 3 := (zup_nj (by omega)).trans (zup_nj (by omega))
      rw [r0, r1, r2, r3]
      exact q9
  · have m0 := zmc_w (s := s) (s' := (zup (zup s o 0 (s o 0 - x)) (54 + 2 * i) 4 (s (54 + 2 * i) 4 + x))) (i := i) (fun j hj hn => ⟨(zup_nj (by omega)).trans (zup_nj (by omega)), (zup_nj (by omega)).trans (zup_nj (by omega)), (zup_nj (by omega)).trans (zup_nj (by omega))⟩) (by omega) 0
    have m1 := zmc_w (s := s) (s' := (zup (zup s o 0 (s o 0 - x)) (54 + 2 * i) 4 (s (54 + 2 * i) 4 + x))) (i := i) (fun j hj hn => ⟨(zup_nj (by omega)).trans (zup_nj (by omega)), (zup_nj (by omega)).trans (zup_nj (by omega)), (zup_nj (by omega)).trans (zup_nj (by omega))⟩) (by omega) 1
    have q12 := a12
    have q11 := a9 i (by omega)
    have q10 := q11.1
    have q8 := q11.2.2.1
    unfold zP1 at q12 ⊢
    rw [m0, m1]
    clear m0 m1 q11 a1 a2 a3 a4 a5 a6 a7 a8 a9 a10 a11 a12 a13 a14 a15
    rcases h1 with ⟨h1, e9⟩ | ⟨h1, e9⟩
    · subst e9
      have r0 : (zup (zup s 22 0 (s 22 0 - x)) (54 + 2 * i) 4 (s (54 + 2 * i) 4 + x)) (54 + 2 * i) 1 = s (54 + 2 * i) 1 := (zup_nj (by omega)).trans (zup_nj (by omega))
      have r1 : (zup (zup s 22 0 (s 22 0 - x)) (54 + 2 * i) 4 (s (54 + 2 * i) 4 + x)) (54 + 2 * i) 4 = (s (54 + 2 * i) 4 + x) := zup_ej
      have r2 : (zup (zup s 22 0 (s 22 0 - x)) (54 + 2 * i) 4 (s (54 + 2 * i) 4 + x)) (54 + 2 * i) 6 = s (54 + 2 * i) 6 := (zup_nj (by omega)).trans (zup_nj (by omega))
      have r3 : (zup (zup s 22 0 (s 22 0 - x)) (54 + 2 * i) 4 (s (54 + 2 * i) 4 + x)) 21 0 = s 21 0 := (zup_nj (by omega)).trans (zup_nj (by omega))
      have r4 : (zup (zup s 22 0 (s 22 0 - x)) (54 + 2 * i) 4 (s (54 + 2 * i) 4 + x)) 21 6 = s 21 6 := (zup_nj (by omega)).trans (zup_nj (by omega))
      have r5 : (zup (zup s 22 0 (s 22 0 - x)) (54 + 2 * i) 4 (s (54 + 2 * i) 4 + x)) 21 10 = s 21 10 := (zup_nj (by omega)).trans (zup_nj (by omega))
      have r6 : (zup (zup s 22 0 (s 22 0 - x)) (54 + 2 * i) 4 (s (54 + 2 * i) 4 + x)) 22 0 = (s 22 0 - x) := (zup_nj (by omega)).trans zup_ej
      have r7 : (zup (zup s 22 0 (s 22 0 - x)) (54 + 2 * i) 4 (s (54 + 2 * i) 4 + x)) 22 6 = s 22 6 := (zup_nj (by omega)).trans (zup_nj (by omega))
      have r8 : (zup (zup s 22 0 (s 22 0 - x)) (54 + 2 * i) 4 (s (54 + 2 * i) 4 + x)) 22 10 = s 22 10 := (zup_nj (by omega)).trans (zup_nj (by omega))
      rw [r0, r1, r2, r3, r4, r5, r6, r7, r8]
      omega
    · subst e9
      have r0 : (zup (zup s 21 0 (s 21 0 - x)) (54 + 2 * i) 4 (s (54 + 2 * i) 4 + x)) (54 + 2 * i) 1 = s (54 + 2 * i) 1 := (zup_nj (by omega)).trans (zup_nj (by omega))
      have r1 : (zup (zup s 21 0 (s 21 0 - x)) (54 + 2 * i) 4 (s (54 + 2 * i) 4 + x)) (54 + 2 * i) 4 = (s (54 + 2 * i) 4 + x) := zup_ej
      have r2 : (zup (zup s 21 0 (s 21 0 - x)) (54 + 2 * i) 4 (s (54 + 2 * i) 4 + x)) (54 + 2 * i) 6 = s (54 + 2 * i) 6 := (zup_nj (by omega)).trans (zup_nj (by omega))
      have r3 : (zup (zup s 21 0 (s 21 0 - x)) (54 + 2 * i) 4 (s (54 + 2 * i) 4 + x)) 21 0 = (s 21 0 - x) := (zup_nj (by omega)).trans zup_ej
      have r4 : (zup (zup s 21 0 (s 21 0 - x)) (54 + 2 * i) 4 (s (54 + 2 * i) 4 + x)) 21 6 = s 21 6 := (zup_nj (by omega)).trans (zup_nj (by omega))
      have r5 : (zup (zup s 21 0 (s 21 0 - x)) (54 + 2 * i) 4 (s (54 + 2 * i) 4 + x)) 21 10 = s 21 10 := (zup_nj (by omega)).trans (zup_nj (by omega))
      have r6 : (zup (zup s 21 0 (s 21 0 - x)) (54 + 2 * i) 4 (s (54 + 2 * i) 4 + x)) 22 0 = s 22 0 := (zup_nj (by omega)).trans (zup_nj (by omega))
      have r7 : (zup (zup s 21 0 (s 21 0 - x)) (54 + 2 * i) 4 (s (54 + 2 * i) 4 + x)) 22 6 = s 22 6 := (zup_nj (by omega)).trans (zup_nj (by omega))
      have r8 : (zup (zup s 21 0 (s 21 0 - x)) (54 + 2 * i) 4 (s (54 + 2 * i) 4 + x)) 22 10 = s 22 10 := (zup_nj (by omega)).trans (zup_nj (by omega))
      rw [r0, r1, r2, r3, r4, r5, r6, r7, r8]
      omega
theorem V_mine (V : zV g U F T B ph s) {i : Nat} {v w x : Int} (h0 : i < 6) (h1 : s 7 9 = i) (h2 : 0 ≤ v ∧ v ≤ 1) (h3 : -1 ≤ w ∧ w < g 2) : zV g U F T B ph (zup (zup (zup (zup (zup s (54 + 2 * i) 1 v) (55 + 2 * i) 0 w) (54 + 2 * i) 2 1) (54 + 2 * i) 3 x) 7 9 (s 7 9 + 1)) := by
  have hB9 := zV_B V
  obtain ⟨a1, a2, a3, a4, a5, a6, a7, a8, a9, a10, a11, a12, a13, a14, a15⟩ := V
  refine ⟨zA_fr (fun p f h => (zup_nj (by omega)).trans ((zup_nj (by omega)).trans ((zup_nj (by omega)).trans ((zup_nj (by omega)).trans (zup_nj (by omega)))))) a1, zD_fr (fun p f h => (zup_nj (by omega)).trans ((zup_nj (by omega)).trans ((zup_nj (by omega)).trans ((zup_nj (by omega)).trans (zup_nj (by omega)))))) a2, zE_fr (fun p f h => (zup_nj (by omega)).trans ((zup_nj (by omega)).trans ((zup_nj (by omega)).trans ((zup_nj (by omega)).trans (zup_nj (by omega)))))) a3, zL1_fr (fun p f h => (zup_nj (by omega)).trans ((zup_nj (by omega)).trans ((zup_nj (by omega)).trans ((zup_nj (by omega)).trans (zup_nj (by omega)))))) a4, zG1_fr (fun p f h => (zup_nj (by omega)).trans ((zup_nj (by omega)).trans ((zup_nj (by omega)).trans ((zup_nj (by omega)).trans (zup_nj (by omega)))))) a5, zG2_fr (fun p f h => (zup_nj (by omega)).trans ((zup_nj (by omega)).trans ((zup_nj (by omega)).trans ((zup_nj (by omega)).trans (zup_nj (by omega)))))) a6, zC1_fr (fun p f h => (zup_nj (by omega)).trans ((zup_nj (by omega)).trans ((zup_nj (by omega)).trans ((zup_nj (by omega)).trans (zup_nj (by omega)))))) a7, zC2_fr (fun p f h => (zup_nj (by omega)).trans ((zup_nj (by omega)).trans ((zup_nj (by omega)).trans ((zup_nj (by omega)).trans (zup_nj (by omega)))))) a8, ?_, ?_, zS2_fr (fun p f h => (zup_nj (by omega)).trans ((zup_nj (by omega)).trans ((zup_nj (by omega)).trans ((zup_nj (by omega)).trans (zup_nj (by omega)))))) a11, ?_, zN1_fr (fun p f h => (zup_nj (by omega)).trans ((zup_nj (by omega)).trans ((zup_nj (by omega)).trans ((zup_nj (by omega)).trans (zup_nj (by omega)))))) a13, zZ1_fr (fun p f h => (zup_nj (by omega)).trans ((zup_nj (by omega)).trans ((zup_nj (by omega)).trans ((zup_nj (by omega)).trans (zup_nj (by omega)))))) a14, zX1_fr (fun p f h => (zup_nj (by omega)).trans ((zup_nj (by omega)).trans ((zup_nj (by omega)).trans ((zup_nj (by omega)).trans (zup_nj (by omega)))))) a15⟩
  · intro j9 hj9
    by_cases e9 : j9 = i
    · rw [e9]
      have q9 := a9 i (by omega)
      have q8 := q9.1
      have q7 := q9.2.1
      have q6 := q9.2.2.1
      refine ⟨?_, ?_, ?_, fun j8 hj8 => ?_⟩
      · have q9 := 0
        have r0 : (zup (zup (zup (zup (zup s (54 + 2 * i) 1 v) (55 + 2 * i) 0 w) (54 + 2 * i) 2 1) (54 + 2 * i) 3 x) 7 9 (s 7 9 + 1)) (54 + 2 * i) 1 = v := (zup_nj (by omega)).trans ((zup_nj (by omega)).trans ((zup_nj (by omega)).trans ((zup_nj (by omega)).trans zup_ej)))
        rw [r0]
        omega
      · have q9 := 0
        have r0 : (zup (zup (zup (zup (zup s (54 + 2 * i) 1 v) (55 + 2 * i) 0 w) (54 + 2 * i) 2 1) (54 + 2 * i) 3 x) 7 9 (s 7 9 + 1)) (54 + 2 * i) 2 = 1 := (zup_nj (by omega)).trans ((zup_nj (by omega)).trans zup_ej)
        rw [r0]
        omega
      · have q9 := 0
        have r0 : (zup (zup (zup (zup (zup s (54 + 2 * i) 1 v) (55 + 2 * i) 0 w) (54 + 2 * i) 2 1) (54 + 2 * i) 3 x) 7 9 (s 7 9 + 1)) (54 + 2 * i) 6 = s (54 + 2 * i) 6 := (zup_nj (by omega)).trans ((zup_nj (by omega)).trans ((zup_nj (by omega)).trans ((zup_nj (by omega)).trans (zup_nj (by omega)))))
        rw [r0]
        omega
      · by_cases e8 : j8 = 0
        · rw [e8]
          have r0 : (zup (zup (zup (zup (zup s (54 + 2 * i) 1 v) (55 + 2 * i) 0 w) (54 + 2 * i) 2 1) (54 + 2 * i) 3 x) 7 9 (s 7 9 + 1)) (55 + 2 * i) 0 = w := (zup_nj (by omega)).trans ((zup_nj (by omega)).trans ((zup_nj (by omega)).trans zup_ej))
          rw [r0]
          omega
        · have q5 := q9.2.2.2 j8 hj8
          have r0 : (zup (zup (zup (zup (zup s (54 + 2 * i) 1 v) (55 + 2 * i) 0 w) (54 + 2 * i) 2 1) (54 + 2 * i) 3 x) 7 9 (s 7 9 + 1)) (55 + 2 * i) j8 = s (55 + 2 * i) j8 := (zup_nj (by omega)).trans ((zup_nj (by omega)).trans ((zup_nj (by omega)).trans ((zup_nj (by omega)).trans (zup_nj (by omega)))))
          rw [r0]
          exact q5
    · have q9 := a9 j9 hj9
      refine ⟨?_, ?_, ?_, fun j8 hj8 => ?_⟩
      · have q8 := q9.1
        have r0 : (zup (zup (zup (zup (zup s (54 + 2 * i) 1 v) (55 + 2 * i) 0 w) (54 + 2 * i) 2 1) (54 + 2 * i) 3 x) 7 9 (s 7 9 + 1)) (54 + 2 * j9) 1 = s (54 + 2 * j9) 1 := (zup_nj (by omega)).trans ((zup_nj (by omega)).trans ((zup_nj (by omega)).trans ((zup_nj (by omega)).trans (zup_nj (by omega)))))
        rw [r0]
        exact q8
      · have q8 := q9.2.1
        have r0 : (zup (zup (zup (zup (zup s (54 + 2 * i) 1 v) (55 + 2 * i) 0 w) (54 + 2 * i) 2 1) (54 + 2 * i) 3 x) 7 9 (s 7 9 + 1)) (54 + 2 * j9) 2 = s (54 + 2 * j9) 2 := (zup_nj (by omega)).trans ((zup_nj (by omega)).trans ((zup_nj (by omega)).trans ((zup_nj (by omega)).trans (zup_nj (by omega)))))
        rw [r0]
        exact q8
      · have q8 := q9.2.2.1
        have r0 : (zup (zup (zup (zup (zup s (54 + 2 * i) 1 v) (55 + 2 * i) 0 w) (54 + 2 * i) 2 1) (54 + 2 * i) 3 x) 7 9 (s 7 9 + 1)) (54 + 2 * j9) 6 = s (54 + 2 * j9) 6 := (zup_nj (by omega)).trans ((zup_nj (by omega)).trans ((zup_nj (by omega)).trans ((zup_nj (by omega)).trans (zup_nj (by omega)))))
        rw [r0]
        exact q8
      · have q8 := q9.2.2.2 j8 hj8
        have r0 : (zup (zup (zup (zup (zup s (54 + 2 * i) 1 v) (55 + 2 * i) 0 w) (54 + 2 * i) 2 1) (54 + 2 * i) 3 x) 7 9 (s 7 9 + 1)) (55 + 2 * j9) j8 = s (55 + 2 * j9) j8 := (zup_nj (by omega)).trans ((zup_nj (by omega)).trans ((zup_nj (by omega)).trans ((zup_nj (by omega)).trans (zup_nj (by omega)))))
        rw [r0]
        exact q8
  · have q10 := a10.1
    refine ⟨?_, fun j9 hj9 => ?_⟩
    · have q1 := 0
      have r0 : (zup (zup (zup (zup (zup s (54 + 2 * i) 1 v) (55 + 2 * i) 0 w) (54 + 2 * i) 2 1) (54 + 2 * i) 3 x) 7 9 (s 7 9 + 1)) 7 9 = (s 7 9 + 1) := zup_ej
      rw [r0]
      omega
    · by_cases e9 : j9 = i
      · rw [e9]
        have q9 := a10.2 i (by omega)
        have r0 : (zup (zup (zup (zup (zup s (54 + 2 * i) 1 v) (55 + 2 * i) 0 w) (54 + 2 * i) 2 1) (54 + 2 * i) 3 x) 7 9 (s 7 9 + 1)) 7 9 = (s 7 9 + 1) := zup_ej
        have r1 : (zup (zup (zup (zup (zup s (54 + 2 * i) 1 v) (55 + 2 * i) 0 w) (54 + 2 * i) 2 1) (54 + 2 * i) 3 x) 7 9 (s 7 9 + 1)) (54 + 2 * i) 1 = v := (zup_nj (by omega)).trans ((zup_nj (by omega)).trans ((zup_nj (by omega)).trans ((zup_nj (by omega)).trans zup_ej)))
        have r2 : (zup (zup (zup (zup (zup s (54 + 2 * i) 1 v) (55 + 2 * i) 0 w) (54 + 2 * i) 2 1) (54 + 2 * i) 3 x) 7 9 (s 7 9 + 1)) (54 + 2 * i) 2 = 1 := (zup_nj (by omega)).trans ((zup_nj (by omega)).trans zup_ej)
        have r3 : (zup (zup (zup (zup (zup s (54 + 2 * i) 1 v) (55 + 2 * i) 0 w) (54 + 2 * i) 2 1) (54 + 2 * i) 3 x) 7 9 (s 7 9 + 1)) (54 + 2 * i) 4 = s (54 + 2 * i) 4 := (zup_nj (by omega)).trans ((zup_nj (by omega)).trans ((zup_nj (by omega)).trans ((zup_nj (by omega)).trans (zup_nj (by omega)))))
        rw [r0, r1, r2, r3]
        omega
      · have q9 := a10.2 j9 hj9
        have r0 : (zup (zup (zup (zup (zup s (54 + 2 * i) 1 v) (55 + 2 * i) 0 w) (54 + 2 * i) 2 1) (54 + 2 * i) 3 x) 7 9 (s 7 9 + 1)) 7 9 = (s 7 9 + 1) := zup_ej
        have r1 : (zup (zup (zup (zup (zup s (54 + 2 * i) 1 v) (55 + 2 * i) 0 w) (54 + 2 * i) 2 1) (54 + 2 * i) 3 x) 7 9 (s 7 9 + 1)) (54 + 2 * j9) 1 = s (54 + 2 * j9) 1 := (zup_nj (by omega)).trans ((zup_nj (by omega)).trans ((zup_nj (by omega)).trans ((zup_nj (by omega)).trans (zup_nj (by omega)))))
        have r2 : (zup (zup (zup (zup (zup s (54 + 2 * i) 1 v) (55 + 2 * i) 0 w) (54 + 2 * i) 2 1) (54 + 2 * i) 3 x) 7 9 (s 7 9 + 1)) (54 + 2 * j9) 2 = s (54 + 2 * j9) 2 := (zup_nj (by omega)).trans ((zup_nj (by omega)).trans ((zup_nj (by omega)).trans ((zup_nj (by omega)).trans (zup_nj (by omega)))))
        have r3 : (zup (zup (zup (zup (zup s (54 + 2 * i) 1 v) (55 + 2 * i) 0 w) (54 + 2 * i) 2 1) (54 + 2 * i) 3 x) 7 9 (s 7 9 + 1)) (54 + 2 * j9) 4 = s (54 + 2 * j9) 4 := (zup_nj (by omega)).trans ((zup_nj (by omega)).trans ((zup_nj (by omega)).trans ((zup_nj (by omega)).trans (zup_nj (by omega)))))
        rw [r0, r1, r2, r3]
        omega
  · have m0 := zmc_w (s := s) (s' := (zup (zup (zup (zup (zup s (54 + 2 * i) 1 v) (55 + 2 * i) 0 w) (54 + 2 * i) 2 1) (54 + 2 * i) 3 x) 7 9 (s 7 9 + 1))) (i := i) (fun j hj hn => ⟨(zup_nj (by omega)).trans ((zup_nj (by omega)).trans ((zup_nj (by omega)).trans ((zup_nj (by omega)).trans (zup_nj (by omega))))), (zup_nj (by omega)).trans ((zup_nj (by omega)).trans ((zup_nj (by omega)).trans ((zup_nj (by omega)).trans (zup_nj (by omega))))), (zup_nj (by omega)).trans ((zup_nj (by omega)).trans ((zup_nj (by omega)).trans ((zup_nj (by omega)).trans (zup_nj (by omega)))))⟩) (by omega) 0
    have m1 := zmc_w (s := s) (s' := (zup (zup (zup (zup (zup s (54 + 2 * i) 1 v) (55 + 2 * i) 0 w) (54 + 2 * i) 2 1) (54 + 2 * i) 3 x) 7 9 (s 7 9 + 1))) (i := i) (fun j hj hn => ⟨(zup_nj (by omega)).trans ((zup_nj (by omega)).trans ((zup_nj (by omega)).trans ((zup_nj (by omega)).trans (zup_nj (by omega))))), (zup_nj (by omega)).trans ((zup_nj (by omega)).trans ((zup_nj (by omega)).trans ((zup_nj (by omega)).trans (zup_nj (by omega))))), (zup_nj (by omega)).trans ((zup_nj (by omega)).trans ((zup_nj (by omega)).trans ((zup_nj (by omega)).trans (zup_nj (by omega)))))⟩) (by omega) 1
    have q12 := a12
    have q9 := (a10.2 i (by omega)).2 (by omega)
    have q11 := a9 i (by omega)
    have q10 := q11.1
    have q8 := q11.2.2.1
    unfold zP1 at q12 ⊢
    rw [m0, m1]
    clear m0 m1 q11 a1 a2 a3 a4 a5 a6 a7 a8 a9 a10 a11 a12 a13 a14 a15
    have r0 : (zup (zup (zup (zup (zup s (54 + 2 * i) 1 v) (55 + 2 * i) 0 w) (54 + 2 * i) 2 1) (54 + 2 * i) 3 x) 7 9 (s 7 9 + 1)) (54 + 2 * i) 1 = v := (zup_nj (by omega)).trans ((zup_nj (by omega)).trans ((zup_nj (by omega)).trans ((zup_nj (by omega)).trans zup_ej)))
    have r1 : (zup (zup (zup (zup (zup s (54 + 2 * i) 1 v) (55 + 2 * i) 0 w) (54 + 2 * i) 2 1) (54 + 2 * i) 3 x) 7 9 (s 7 9 + 1)) (54 + 2 * i) 4 = s (54 + 2 * i) 4 := (zup_nj (by omega)).trans ((zup_nj (by omega)).trans ((zup_nj (by omega)).trans ((zup_nj (by omega)).trans (zup_nj (by omega)))))
    have r2 : (zup (zup (zup (zup (zup s (54 + 2 * i) 1 v) (55 + 2 * i) 0 w) (54 + 2 * i) 2 1) (54 + 2 * i) 3 x) 7 9 (s 7 9 + 1)) (54 + 2 * i) 6 = s (54 + 2 * i) 6 := (zup_nj (by omega)).trans ((zup_nj (by omega)).trans ((zup_nj (by omega)).trans ((zup_nj (by omega)).trans (zup_nj (by omega)))))
    have r3 : (zup (zup (zup (zup (zup s (54 + 2 * i) 1 v) (55 + 2 * i) 0 w) (54 + 2 * i) 2 1) (54 + 2 * i) 3 x) 7 9 (s 7 9 + 1)) 21 0 = s 21 0 := (zup_nj (by omega)).trans ((zup_nj (by omega)).trans ((zup_nj (by omega)).trans ((zup_nj (by omega)).trans (zup_nj (by omega)))))
    have r4 : (zup (zup (zup (zup (zup s (54 + 2 * i) 1 v) (55 + 2 * i) 0 w) (54 + 2 * i) 2 1) (54 + 2 * i) 3 x) 7 9 (s 7 9 + 1)) 21 6 = s 21 6 := (zup_nj (by omega)).trans ((zup_nj (by omega)).trans ((zup_nj (by omega)).trans ((zup_nj (by omega)).trans (zup_nj (by omega)))))
    have r5 : (zup (zup (zup (zup (zup s (54 + 2 * i) 1 v) (55 + 2 * i) 0 w) (54 + 2 * i) 2 1) (54 + 2 * i) 3 x) 7 9 (s 7 9 + 1)) 21 10 = s 21 10 := (zup_nj (by omega)).trans ((zup_nj (by omega)).trans ((zup_nj (by omega)).trans ((zup_nj (by omega)).trans (zup_nj (by omega)))))
    have r6 : (zup (zup (zup (zup (zup s (54 + 2 * i) 1 v) (55 + 2 * i) 0 w) (54 + 2 * i) 2 1) (54 + 2 * i) 3 x) 7 9 (s 7 9 + 1)) 22 0 = s 22 0 := (zup_nj (by omega)).trans ((zup_nj (by omega)).trans ((zup_nj (by omega)).trans ((zup_nj (by omega)).trans (zup_nj (by omega)))))
    have r7 : (zup (zup (zup (zup (zup s (54 + 2 * i) 1 v) (55 + 2 * i) 0 w) (54 + 2 * i) 2 1) (54 + 2 * i) 3 x) 7 9 (s 7 9 + 1)) 22 6 = s 22 6 := (zup_nj (by omega)).trans ((zup_nj (by omega)).trans ((zup_nj (by omega)).trans ((zup_nj (by omega)).trans (zup_nj (by omega)))))
    have r8 : (zup (zup (zup (zup (zup s (54 + 2 * i) 1 v) (55 + 2 * i) 0 w) (54 + 2 * i) 2 1) (54 + 2 * i) 3 x) 7 9 (s 7 9 + 1)) 22 10 = s 22 10 := (zup_nj (by omega)).trans ((zup_nj (by omega)).trans ((zup_nj (by omega)).trans ((zup_nj (by omega)).trans (zup_nj (by omega)))))
    rw [r0, r1, r2, r3, r4, r5, r6, r7, r8]
    omega
theorem V_supp (V : zV g U F T B ph s) {x : Int} (h0 : 0 ≤ x) (h1 : s 21 0 + x ≤ B) (h2 : s 21 1 + x ≤ B) : zV g U F T B ph (zup (zup (zup s 21 0 (s 21 0 + x)) 21 10 (s 21 10 + x)) 21 1 (s 21 1 + x)) := by
  have hB9 := zV_B V
  obtain ⟨a1, a2, a3, a4, a5, a6, a7, a8, a9, a10, a11, a12, a13, a14, a15⟩ := V
  refine ⟨zA_fr (fun p f h => (zup_nj (by omega)).trans ((zup_nj (by omega)).trans (zup_nj (by omega)))) a1, zD_fr (fun p f h => (zup_nj (by omega)).trans ((zup_nj (by omega)).trans (zup_nj (by omega)))) a2, zE_fr (fun p f h => (zup_nj (by omega)).trans ((zup_nj (by omega)).trans (zup_nj (by omega)))) a3, zL1_fr (fun p f h => (zup_nj (by omega)).trans ((zup_nj (by omega)).trans (zup_nj (by omega)))) a4, zG1_fr (fun p f h => (zup_nj (by omega)).trans ((zup_nj (by omega)).trans (zup_nj (by omega)))) a5, zG2_fr (fun p f h => (zup_nj (by omega)).trans ((zup_nj (by omega)).trans (zup_nj (by omega)))) a6, zC1_fr (fun p f h => (zup_nj (by omega)).trans ((zup_nj (by omega)).trans (zup_nj (by omega)))) a7, zC2_fr (fun p f h => (zup_nj (by omega)).trans ((zup_nj (by omega)).trans (zup_nj (by omega)))) a8, zM1_fr (fun p f h => (zup_nj (by omega)).trans ((zup_nj (by omega)).trans (zup_nj (by omega)))) a9, zM2_fr (fun p f h => (zup_nj (by omega)).trans ((zup_nj (by omega)).trans (zup_nj (by omega)))) a10, ?_, ?_, zN1_fr (fun p f h => (zup_nj (by omega)).trans ((zup_nj (by omega)).trans (zup_nj (by omega)))) a13, zZ1_fr (fun p f h => (zup_nj (by omega)).trans ((zup_nj (by omega)).trans (zup_nj (by omega)))) a14, zX1_fr (fun p f h => (zup_nj (by omega)).trans ((zup_nj (by omega)).trans (zup_nj (by omega)))) a15⟩
  · intro j9 hj9
    by_cases e9 : j9 = 21
    · rw [e9]
      have q9 := a11 21 (Or.inl rfl)
      have r0 : (zup (zup (zup s 21 0 (s 21 0 + x)) 21 10 (s 21 10 + x)) 21 1 (s 21 1 + x)) 21 0 = (s 21 0 + x) := (zup_nj (by omega)).trans ((zup_nj (by omega)).trans zup_ej)
      have r1 : (zup (zup (zup s 21 0 (s 21 0 + x)) 21 10 (s 21 10 + x)) 21 1 (s 21 1 + x)) 21 1 = (s 21 1 + x) := zup_ej
      have r2 : (zup (zup (zup s 21 0 (s 21 0 + x)) 21 10 (s 21 10 + x)) 21 1 (s 21 1 + x)) 21 2 = s 21 2 := (zup_nj (by omega)).trans ((zup_nj (by omega)).trans (zup_nj (by omega)))
      have r3 : (zup (zup (zup s 21 0 (s 21 0 + x)) 21 10 (s 21 10 + x)) 21 1 (s 21 1 + x)) 21 3 = s 21 3 := (zup_nj (by omega)).trans ((zup_nj (by omega)).trans (zup_nj (by omega)))
      rw [r0, r1, r2, r3]
      omega
    · have q9 := a11 j9 hj9
      have r0 : (zup (zup (zup s 21 0 (s 21 0 + x)) 21 10 (s 21 10 + x)) 21 1 (s 21 1 + x)) j9 0 = s j9 0 := (zup_nj (by omega)).trans ((zup_nj (by omega)).trans (zup_nj (by omega)))
      have r1 : (zup (zup (zup s 21 0 (s 21 0 + x)) 21 10 (s 21 10 + x)) 21 1 (s 21 1 + x)) j9 1 = s j9 1 := (zup_nj (by omega)).trans ((zup_nj (by omega)).trans (zup_nj (by omega)))
      have r2 : (zup (zup (zup s 21 0 (s 21 0 + x)) 21 10 (s 21 10 + x)) 21 1 (s 21 1 + x)) j9 2 = s j9 2 := (zup_nj (by omega)).trans ((zup_nj (by omega)).trans (zup_nj (by omega)))
      have r3 : (zup (zup (zup s 21 0 (s 21 0 + x)) 21 10 (s 21 10 + x)) 21 1 (s 21 1 + x)) j9 3 = s j9 3 := (zup_nj (by omega)).trans ((zup_nj (by omega)).trans (zup_nj (by omega)))
      rw [r0, r1, r2, r3]
      exact q9
  · have e9 : ∀ d, zmc (zup (zup (zup s 21 0 (s 21 0 + x)) 21 10 (s 21 10 + x)) 21 1 (s 21 1 + x)) d 6 = zmc s d 6 := fun d => zsm_eq (fun j hj => by rw [show (zup (zup (zup s 21 0 (s 21 0 + x)) 21 10 (s 21 10 + x)) 21 1 (s 21 1 + x)) (54 + 2 * j) 1 = s (54 + 2 * j) 1 from (zup_nj (by omega)).trans ((zup_nj (by omega)).trans (zup_nj (by omega))), show (zup (zup (zup s 21 0 (s 21 0 + x)) 21 10 (s 21 10 + x)) 21 1 (s 21 1 + x)) (54 + 2 * j) 4 = s (54 + 2 * j) 4 from (zup_nj (by omega)).trans ((zup_nj (by omega)).trans (zup_nj (by omega))), show (zup (zup (zup s 21 0 (s 21 0 + x)) 21 10 (s 21 10 + x)) 21 1 (s 21 1 + x)) (54 + 2 * j) 6 = s (54 + 2 * j) 6 from (zup_nj (by omega)).trans ((zup_nj (by omega)).trans (zup_nj (by omega)))])
    have q12 := a12
    unfold zP1 at q12 ⊢
    rw [e9, e9]
    clear e9 a1 a2 a3 a4 a5 a6 a7 a8 a9 a10 a11 a12 a13 a14 a15
    have r0 : (zup (zup (zup s 21 0 (s 21 0 + x)) 21 10 (s 21 10 + x)) 21 1 (s 21 1 + x)) 21 0 = (s 21 0 + x) := (zup_nj (by omega)).trans ((zup_nj (by omega)).trans zup_ej)
    have r1 : (zup (zup (zup s 21 0 (s 21 0 + x)) 21 10 (s 21 10 + x)) 21 1 (s 21 1 + x)) 21 6 = s 21 6 := (zup_nj (by omega)).trans ((zup_nj (by omega)).trans (zup_nj (by omega)))
    have r2 : (zup (zup (zup s 21 0 (s 21 0 + x)) 21 10 (s 21 10 + x)) 21 1 (s 21 1 + x)) 21 10 = (s 21 10 + x) := (zup_nj (by omega)).trans zup_ej
    have r3 : (zup (zup (zup s 21 0 (s 21 0 + x)) 21 10 (s 21 10 + x)) 21 1 (s 21 1 + x)) 22 0 = s 22 0 := (zup_nj (by omega)).trans ((zup_nj (by omega)).trans (zup_nj (by omega)))
    have r4 : (zup (zup (zup s 21 0 (s 21 0 + x)) 21 10 (s 21 10 + x)) 21 1 (s 21 1 + x)) 22 6 = s 22 6 := (zup_nj (by omega)).trans ((zup_nj (by omega)).trans (zup_nj (by omega)))
    have r5 : (zup (zup (zup s 21 0 (s 21 0 + x)) 21 10 (s 21 10 + x)) 21 1 (s 21 1 + x)) 22 10 = s 22 10 := (zup_nj (by omega)).trans ((zup_nj (by omega)).trans (zup_nj (by omega)))
    rw [r0, r1, r2, r3, r4, r5]
    omega
theorem V_end0 (V : zV g U F T B 1 s) {v : Int} (h0 : -1 ≤ v ∧ v ≤ 5) : zV g U F T B 2 (zup (zup s 7 11 2) 7 12 v) := by
  have hB9 := zV_B V
  obtain ⟨a1, a2, a3, a4, a5, a6, a7, a8, a9, a10, a11, a12, a13, a14, a15⟩ := V
  refine ⟨zA_fr (fun p f h => (zup_nj (by omega)).trans (zup_nj (by omega))) a1, zD_fr (fun p f h => (zup_nj (by omega)).trans (zup_nj (by omega))) a2, zE_fr (fun p f h => (zup_nj (by omega)).trans (zup_nj (by omega))) a3, zL1_fr (fun p f h => (zup_nj (by omega)).trans (zup_nj (by omega))) a4, zG1_fr (fun p f h => (zup_nj (by omega)).trans (zup_nj (by omega))) a5, zG2_fr (fun p f h => (zup_nj (by omega)).trans (zup_nj (by omega))) a6, zC1_fr (fun p f h => (zup_nj (by omega)).trans (zup_nj (by omega))) a7, zC2_fr (fun p f h => (zup_nj (by omega)).trans (zup_nj (by omega))) a8, zM1_fr (fun p f h => (zup_nj (by omega)).trans (zup_nj (by omega))) a9, zM2_fr (fun p f h => (zup_nj (by omega)).trans (zup_nj (by omega))) a10, zS2_fr (fun p f h => (zup_nj (by omega)).trans (zup_nj (by omega))) a11, zP1_fr (fun p f h => (zup_nj (by omega)).trans (zup_nj (by omega))) a12, zN1_fr (fun p f h => (zup_nj (by omega)).trans (zup_nj (by omega))) a13, ?_, zX1_fr (fun p f h => (zup_nj (by omega)).trans (zup_nj (by omega))) a15⟩
  · have q14 := a14
    unfold zZ1 at q14 ⊢
    have r0 : (zup (zup s 7 11 2) 7 12 v) 7 7 = s 7 7 := (zup_nj (by omega)).trans (zup_nj (by omega))
    have r1 : (zup (zup s 7 11 2) 7 12 v) 7 8 = s 7 8 := (zup_nj (by omega)).trans (zup_nj (by omega))
    have r2 : (zup (zup s 7 11 2) 7 12 v) 7 10 = s 7 10 := (zup_nj (by omega)).trans (zup_nj (by omega))
    have r3 : (zup (zup s 7 11 2) 7 12 v) 7 11 = 2 := (zup_nj (by omega)).trans zup_ej
    have r4 : (zup (zup s 7 11 2) 7 12 v) 7 12 = v := zup_ej
    have r5 : (zup (zup s 7 11 2) 7 12 v) 7 14 = s 7 14 := (zup_nj (by omega)).trans (zup_nj (by omega))
    have r6 : (zup (zup s 7 11 2) 7 12 v) 7 15 = s 7 15 := (zup_nj (by omega)).trans (zup_nj (by omega))
    rw [r0, r1, r2, r3, r4, r5, r6]
    omega
theorem V_end1 (V : zV g U F T B 1 s) {v : Int} (h0 : -1 ≤ v ∧ v ≤ 5) : zV g U F T B 2 (zup (zup (zup s 7 14 (s 7 14 / 2)) 7 11 2) 7 12 v) := by
  have hB9 := zV_B V
  obtain ⟨a1, a2, a3, a4, a5, a6, a7, a8, a9, a10, a11, a12, a13, a14, a15⟩ := V
  refine ⟨zA_fr (fun p f h => (zup_nj (by omega)).trans ((zup_nj (by omega)).trans (zup_nj (by omega)))) a1, zD_fr (fun p f h => (zup_nj (by omega)).trans ((zup_nj (by omega)).trans (zup_nj (by omega)))) a2, zE_fr (fun p f h => (zup_nj (by omega)).trans ((zup_nj (by omega)).trans (zup_nj (by omega)))) a3, zL1_fr (fun p f h => (zup_nj (by omega)).trans ((zup_nj (by omega)).trans (zup_nj (by omega)))) a4, zG1_fr (fun p f h => (zup_nj (by omega)).trans ((zup_nj (by omega)).trans (zup_nj (by omega)))) a5, zG2_fr (fun p f h => (zup_nj (by omega)).trans ((zup_nj (by omega)).trans (zup_nj (by omega)))) a6, zC1_fr (fun p f h => (zup_nj (by omega)).trans ((zup_nj (by omega)).trans (zup_nj (by omega)))) a7, zC2_fr (fun p f h => (zup_nj (by omega)).trans ((zup_nj (by omega)).trans (zup_nj (by omega)))) a8, zM1_fr (fun p f h => (zup_nj (by omega)).trans ((zup_nj (by omega)).trans (zup_nj (by omega)))) a9, zM2_fr (fun p f h => (zup_nj (by omega)).trans ((zup_nj (by omega)).trans (zup_nj (by omega)))) a10, zS2_fr (fun p f h => (zup_nj (by omega)).trans ((zup_nj (by omega)).trans (zup_nj (by omega)))) a11, zP1_fr (fun p f h => (zup_nj (by omega)).trans ((zup_nj (by omega)).trans (zup_nj (by omega)))) a12, zN1_fr (fun p f h => (zup_nj (by omega)).trans ((zup_nj (by omega)).trans (zup_nj (by omega)))) a13, ?_, zX1_fr (fun p f h => (zup_nj (by omega)).trans ((zup_nj (by omega)).trans (zup_nj (by omega)))) a15⟩
  · have q14 := a14
    unfold zZ1 at q14 ⊢
    have r0 : (zup (zup (zup s 7 14 (s 7 14 / 2)) 7 11 2) 7 12 v) 7 7 = s 7 7 := (zup_nj (by omega)).trans ((zup_nj (by omega)).trans (zup_nj (by omega)))
    have r1 : (zup (zup (zup s 7 14 (s 7 14 / 2)) 7 11 2) 7 12 v) 7 8 = s 7 8 := (zup_nj (by omega)).trans ((zup_nj (by omega)).trans (zup_nj (by omega)))
    have r2 : (zup (zup (zup s 7 14 (s 7 14 / 2)) 7 11 2) 7 12 v) 7 10 = s 7 10 := (zup_nj (by omega)).trans ((zup_nj (by omega)).trans (zup_nj (by omega)))
    have r3 : (zup (zup (zup s 7 14 (s 7 14 / 2)) 7 11 2) 7 12 v) 7 11 = 2 := (zup_nj (by omega)).trans zup_ej
    have r4 : (zup (zup (zup s 7 14 (s 7 14 / 2)) 7 11 2) 7 12 v) 7 12 = v := zup_ej
    have r5 : (zup (zup (zup s 7 14 (s 7 14 / 2)) 7 11 2) 7 12 v) 7 14 = (s 7 14 / 2) := (zup_nj (by omega)).trans ((zup_nj (by omega)).trans zup_ej)
    have r6 : (zup (zup (zup s 7 14 (s 7 14 / 2)) 7 11 2) 7 12 v) 7 15 = s 7 15 := (zup_nj (by omega)).trans ((zup_nj (by omega)).trans (zup_nj (by omega)))
    rw [r0, r1, r2, r3, r4, r5, r6]
    omega
theorem V_clck (V : zV g U F T B ph s)  (h0 : T + 1 ≤ 3000) : zV g U F (T + 1) B ph (zup s 7 10 (s 7 10 + 1)) := by
  have hB9 := zV_B V
  obtain ⟨a1, a2, a3, a4, a5, a6, a7, a8, a9, a10, a11, a12, a13, a14, a15⟩ := V
  refine ⟨zA_fr (fun p f h => zup_nj (by omega)) a1, zD_fr (fun p f h => zup_nj (by omega)) a2, zE_fr (fun p f h => zup_nj (by omega)) a3, zL1_fr (fun p f h => zup_nj (by omega)) a4, zG1_fr (fun p f h => zup_nj (by omega)) a5, zG2_fr (fun p f h => zup_nj (by omega)) a6, zC1_fr (fun p f h => zup_nj (by omega)) a7, zC2_fr (fun p f h => zup_nj (by omega)) a8, zM1_fr (fun p f h => zup_nj (by omega)) a9, zM2_fr (fun p f h => zup_nj (by omega)) a10, zS2_fr (fun p f h => zup_nj (by omega)) a11, zP1_fr (fun p f h => zup_nj (by omega)) a12, zN1_fr (fun p f h => zup_nj (by omega)) a13, ?_, zX1_fr (fun p f h => zup_nj (by omega)) a15⟩
  · have q14 := a14
    unfold zZ1 at q14 ⊢
    have r0 : (zup s 7 10 (s 7 10 + 1)) 7 7 = s 7 7 := zup_nj (by omega)
    have r1 : (zup s 7 10 (s 7 10 + 1)) 7 8 = s 7 8 := zup_nj (by omega)
    have r2 : (zup s 7 10 (s 7 10 + 1)) 7 10 = (s 7 10 + 1) := zup_ej
    have r3 : (zup s 7 10 (s 7 10 + 1)) 7 11 = s 7 11 := zup_nj (by omega)
    have r4 : (zup s 7 10 (s 7 10 + 1)) 7 12 = s 7 12 := zup_nj (by omega)
    have r5 : (zup s 7 10 (s 7 10 + 1)) 7 14 = s 7 14 := zup_nj (by omega)
    have r6 : (zup s 7 10 (s 7 10 + 1)) 7 15 = s 7 15 := zup_nj (by omega)
    rw [r0, r1, r2, r3, r4, r5, r6]
    omega
end ZVT
