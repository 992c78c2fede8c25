/-! methods without loops, told by functions (printed by program) -/
section ZB
variable {ro : Nat → Int32 → zS → Option (zO × zS)} {L : Nat} {X : zK} {h : zH} {R : Nat → Nat → Option Nat} {G : Nat → Nat → Int64} {nc ns : Nat} {Q : zO → zS → Prop}
def v_Math_abs (h : zH) (x1 : Int32) : Int32 := if 0 ≤ x1 then x1 else (-x1)
theorem b_Math_abs (S : zSR R) {x1 : Int32}  (hQ : Q (.inl (some (.int (v_Math_abs h x1)))) (zN L X h R G nc ns)) : zW ro 169 0 (zfst [.int x1] 1) [] (zN L X h R G nc ns) Q := by
  unfold v_Math_abs at hQ
  show zW ro 169 0 [some (.int x1)] [] (zN L X h R G nc ns) Q
  refine zW.run 1 (pc' := 1) (ls' := [some (.int x1)]) (st' := [.int x1]) (σ' := (zN L X h R G nc ns)) (fun n => rfl) ?_
  refine zW.if_ge rfl (fun c1 => ?_) (fun c1 => ?_)
  · skip
    refine zW.run 1 (pc' := 10) (ls' := [some (.int x1)]) (st' := [.int x1]) (σ' := (zN L X h R G nc ns)) (fun n => rfl) ?_
    exact zW.iret rfl rfl (rfl) (by simp only [if_pos c1] at hQ; exact hQ)
  · skip
    refine zW.run 3 (pc' := 10) (ls' := [some (.int x1)]) (st' := [.int (-x1)]) (σ' := (zN L X h R G nc ns)) (fun n => rfl) ?_
    exact zW.iret rfl rfl (rfl) (by simp only [if_neg c1] at hQ; exact hQ)
def v_Math_max (h : zH) (x1 : Int32) (x2 : Int32) : Int32 := if x1 < x2 then x2 else x1
theorem b_Math_max (S : zSR R) {x1 : Int32} {x2 : Int32}  (hQ : Q (.inl (some (.int (v_Math_max h x1 x2)))) (zN L X h R G nc ns)) : zW ro 171 0 (zfst [.int x1, .int x2] 2) [] (zN L X h R G nc ns) Q := by
  unfold v_Math_max at hQ
  show zW ro 171 0 [some (.int x1), some (.int x2)] [] (zN L X h R G nc ns) Q
  refine zW.run 2 (pc' := 2) (ls' := [some (.int x1), some (.int x2)]) (st' := [.int x2, .int x1]) (σ' := (zN L X h R G nc ns)) (fun n => rfl) ?_
  refine zW.icmp_lt rfl (fun c1 => ?_) (fun c1 => ?_)
  · skip
    refine zW.run 1 (pc' := 10) (ls' := [some (.int x1), some (.int x2)]) (st' := [.int x2]) (σ' := (zN L X h R G nc ns)) (fun n => rfl) ?_
    exact zW.iret rfl rfl (rfl) (by simp only [if_pos c1] at hQ; exact hQ)
  · skip
    refine zW.run 2 (pc' := 10) (ls' := [some (.int x1), some (.int x2)]) (st' := [.int x1]) (σ' := (zN L X h R G nc ns)) (fun n => rfl) ?_
    exact zW.iret rfl rfl (rfl) (by simp only [if_neg c1] at hQ; exact hQ)
def v_Math_min (h : zH) (x1 : Int32) (x2 : Int32) : Int32 := if x2 < x1 then x2 else x1
theorem b_Math_min (S : zSR R) {x1 : Int32} {x2 : Int32}  (hQ : Q (.inl (some (.int (v_Math_min h x1 x2)))) (zN L X h R G nc ns)) : zW ro 172 0 (zfst [.int x1, .int x2] 2) [] (zN L X h R G nc ns) Q := by
  unfold v_Math_min at hQ
  show zW ro 172 0 [some (.int x1), some (.int x2)] [] (zN L X h R G nc ns) Q
  refine zW.run 2 (pc' := 2) (ls' := [some (.int x1), some (.int x2)]) (st' := [.int x2, .int x1]) (σ' := (zN L X h R G nc ns)) (fun n => rfl) ?_
  refine zW.icmp_gt rfl (fun c1 => ?_) (fun c1 => ?_)
  · skip
    refine zW.run 1 (pc' := 10) (ls' := [some (.int x1), some (.int x2)]) (st' := [.int x2]) (σ' := (zN L X h R G nc ns)) (fun n => rfl) ?_
    exact zW.iret rfl rfl (rfl) (by simp only [if_pos c1] at hQ; exact hQ)
  · skip
    refine zW.run 2 (pc' := 10) (ls' := [some (.int x1), some (.int x2)]) (st' := [.int x1]) (σ' := (zN L X h R G nc ns)) (fun n => rfl) ?_
    exact zW.iret rfl rfl (rfl) (by simp only [if_neg c1] at hQ; exact hQ)
def v_Company_isAt (h : zH) (o1 : Nat) (x1 : Int32) (x2 : Int32) : Int32 := if (h o1 2) ≤ 0 then 0 else if (h o1 0) = x1 then if (h o1 1) = x2 then 1 else 0 else 0
theorem b_Company_isAt (S : zSR R) {o1 : Nat} {x1 : Int32} {x2 : Int32} (k1 : (zK0 L ++ X)[o1]? = some (4, 6)) (hQ : Q (.inl (some (.int (v_Company_isAt h o1 x1 x2)))) (zN L X h R G nc ns)) : zW ro 33 0 (zfst [.ref o1, .int x1, .int x2] 3) [] (zN L X h R G nc ns) Q := by
  unfold v_Company_isAt at hQ
  show zW ro 33 0 [some (.ref o1), some (.int x1), some (.int x2)] [] (zN L X h R G nc ns) Q
  refine zW.run 1 (pc' := 1) (ls' := [some (.ref o1), some (.int x1), some (.int x2)]) (st' := [.ref o1]) (σ' := (zN L X h R G nc ns)) (fun n => rfl) ?_
  refine zW.getf (v := .int (h o1 2)) rfl k1 rfl ?_
  refine zW.if_le rfl (fun c1 => ?_) (fun c1 => ?_)
  · skip
    refine zW.run 1 (pc' := 28) (ls' := [some (.ref o1), some (.int x1), some (.int x2)]) (st' := [.int 0]) (σ' := (zN L X h R G nc ns)) (fun n => rfl) ?_
    exact zW.iret rfl rfl (znb0) (by simp only [if_pos c1] at hQ; exact hQ)
  · skip
    refine zW.run 1 (pc' := 8) (ls' := [some (.ref o1), some (.int x1), some (.int x2)]) (st' := [.ref o1]) (σ' := (zN L X h R G nc ns)) (fun n => rfl) ?_
    refine zW.getf (v := .int (h o1 0)) rfl k1 rfl ?_
    refine zW.run 1 (pc' := 12) (ls' := [some (.ref o1), some (.int x1), some (.int x2)]) (st' := [.int x1, .int (h o1 0)]) (σ' := (zN L X h R G nc ns)) (fun n => rfl) ?_
    refine zW.icmp_ne rfl (fun c2 => ?_) (fun c2 => ?_)
    · skip
      refine zW.run 1 (pc' := 28) (ls' := [some (.ref o1), some (.int x1), some (.int x2)]) (st' := [.int 0]) (σ' := (zN L X h R G nc ns)) (fun n => rfl) ?_
      exact zW.iret rfl rfl (znb0) (by simp only [if_neg c1, if_neg c2] at hQ; exact hQ)
    · skip
      refine zW.run 1 (pc' := 16) (ls' := [some (.ref o1), some (.int x1), some (.int x2)]) (st' := [.ref o1]) (σ' := (zN L X h R G nc ns)) (fun n => rfl) ?_
      refine zW.getf (v := .int (h o1 1)) rfl k1 rfl ?_
      refine zW.run 1 (pc' := 20) (ls' := [some (.ref o1), some (.int x1), some (.int x2)]) (st' := [.int x2, .int (h o1 1)]) (σ' := (zN L X h R G nc ns)) (fun n => rfl) ?_
      refine zW.icmp_ne rfl (fun c3 => ?_) (fun c3 => ?_)
      · skip
        refine zW.run 1 (pc' := 28) (ls' := [some (.ref o1), some (.int x1), some (.int x2)]) (st' := [.int 0]) (σ' := (zN L X h R G nc ns)) (fun n => rfl) ?_
        exact zW.iret rfl rfl (znb0) (by simp only [if_neg c1, if_pos c2, if_neg c3] at hQ; exact hQ)
      · skip
        refine zW.run 2 (pc' := 28) (ls' := [some (.ref o1), some (.int x1), some (.int x2)]) (st' := [.int 1]) (σ' := (zN L X h R G nc ns)) (fun n => rfl) ?_
        exact zW.iret rfl rfl (znb1) (by simp only [if_neg c1, if_pos c2, if_pos c3] at hQ; exact hQ)
theorem n_Company_isAt (h : zH) (o1 : Nat) (x1 : Int32) (x2 : Int32) : narrow .boolean (.int (v_Company_isAt h o1 x1 x2)) = .int (v_Company_isAt h o1 x1 x2) := by
  unfold v_Company_isAt
  by_cases c1 : (h o1 2) ≤ 0
  · rw [if_pos c1]
    exact znb0
  · rw [if_neg c1]
    by_cases c2 : (h o1 0) = x1
    · rw [if_pos c2]
      by_cases c3 : (h o1 1) = x2
      · rw [if_pos c3]
        exact znb1
      · rw [if_neg c3]
        exact znb0
    · rw [if_neg c2]
      exact znb0
def v_Company_isOnGuard (h : zH) (o1 : Nat) : Int32 := if (h o1 2) ≤ 0 then 0 else if (h o1 4) = 2 then if 10 ≤ (h o1 3) then 0 else 1 else 0
theorem b_Company_isOnGuard (S : zSR R) {o1 : Nat} (k1 : (zK0 L ++ X)[o1]? = some (4, 6)) (hQ : Q (.inl (some (.int (v_Company_isOnGuard h o1)))) (zN L X h R G nc ns)) : zW ro 34 0 (zfst [.ref o1] 1) [] (zN L X h R G nc ns) Q := by
  unfold v_Company_isOnGuard at hQ
  show zW ro 34 0 [some (.ref o1)] [] (zN L X h R G nc ns) Q
  refine zW.run 1 (pc' := 1) (ls' := [some (.ref o1)]) (st' := [.ref o1]) (σ' := (zN L X h R G nc ns)) (fun n => rfl) ?_
  refine zW.getf (v := .int (h o1 2)) rfl k1 rfl ?_
  refine zW.if_le rfl (fun c1 => ?_) (fun c1 => ?_)
  · skip
    refine zW.run 1 (pc' := 29) (ls' := [some (.ref o1)]) (st' := [.int 0]) (σ' := (zN L X h R G nc ns)) (fun n => rfl) ?_
    exact zW.iret rfl rfl (znb0) (by simp only [if_pos c1] at hQ; exact hQ)
  · skip
    refine zW.run 1 (pc' := 8) (ls' := [some (.ref o1)]) (st' := [.ref o1]) (σ' := (zN L X h R G nc ns)) (fun n => rfl) ?_
    refine zW.getf (v := .int (h o1 4)) rfl k1 rfl ?_
    refine zW.run 1 (pc' := 12) (ls' := [some (.ref o1)]) (st' := [.int 2, .int (h o1 4)]) (σ' := (zN L X h R G nc ns)) (fun n => rfl) ?_
    refine zW.icmp_ne rfl (fun c2 => ?_) (fun c2 => ?_)
    · skip
      refine zW.run 1 (pc' := 29) (ls' := [some (.ref o1)]) (st' := [.int 0]) (σ' := (zN L X h R G nc ns)) (fun n => rfl) ?_
      exact zW.iret rfl rfl (znb0) (by simp only [if_neg c1, if_neg c2] at hQ; exact hQ)
    · skip
      refine zW.run 1 (pc' := 16) (ls' := [some (.ref o1)]) (st' := [.ref o1]) (σ' := (zN L X h R G nc ns)) (fun n => rfl) ?_
      refine zW.getf (v := .int (h o1 3)) rfl k1 rfl ?_
      refine zW.run 1 (pc' := 21) (ls' := [some (.ref o1)]) (st' := [.int 10, .int (h o1 3)]) (σ' := (zN L X h R G nc ns)) (fun n => rfl) ?_
      refine zW.icmp_ge rfl (fun c3 => ?_) (fun c3 => ?_)
      · skip
        refine zW.run 1 (pc' := 29) (ls' := [some (.ref o1)]) (st' := [.int 0]) (σ' := (zN L X h R G nc ns)) (fun n => rfl) ?_
        exact zW.iret rfl rfl (znb0) (by simp only [if_neg c1, if_pos c2, if_pos c3] at hQ; exact hQ)
      · skip
        refine zW.run 2 (pc' := 29) (ls' := [some (.ref o1)]) (st' := [.int 1]) (σ' := (zN L X h R G nc ns)) (fun n => rfl) ?_
        exact zW.iret rfl rfl (znb1) (by simp only [if_neg c1, if_pos c2, if_neg c3] at hQ; exact hQ)
theorem n_Company_isOnGuard (h : zH) (o1 : Nat) : narrow .boolean (.int (v_Company_isOnGuard h o1)) = .int (v_Company_isOnGuard h o1) := by
  unfold v_Company_isOnGuard
  by_cases c1 : (h o1 2) ≤ 0
  · rw [if_pos c1]
    exact znb0
  · rw [if_neg c1]
    by_cases c2 : (h o1 4) = 2
    · rw [if_pos c2]
      by_cases c3 : 10 ≤ (h o1 3)
      · rw [if_pos c3]
        exact znb0
      · rw [if_neg c3]
        exact znb1
    · rw [if_neg c2]
      exact znb0
def v_Company_isPlaced (h : zH) (o1 : Nat) : Int32 := if (h o1 0) = (-1) then 0 else 1
theorem b_Company_isPlaced (S : zSR R) {o1 : Nat} (k1 : (zK0 L ++ X)[o1]? = some (4, 6)) (hQ : Q (.inl (some (.int (v_Company_isPlaced h o1)))) (zN L X h R G nc ns)) : zW ro 35 0 (zfst [.ref o1] 1) [] (zN L X h R G nc ns) Q := by
  unfold v_Company_isPlaced at hQ
  show zW ro 35 0 [some (.ref o1)] [] (zN L X h R G nc ns) Q
  refine zW.run 1 (pc' := 1) (ls' := [some (.ref o1)]) (st' := [.ref o1]) (σ' := (zN L X h R G nc ns)) (fun n => rfl) ?_
  refine zW.getf (v := .int (h o1 0)) rfl k1 rfl ?_
  refine zW.run 1 (pc' := 5) (ls' := [some (.ref o1)]) (st' := [.int (-1), .int (h o1 0)]) (σ' := (zN L X h R G nc ns)) (fun n => rfl) ?_
  refine zW.icmp_eq rfl (fun c1 => ?_) (fun c1 => ?_)
  · skip
    refine zW.run 1 (pc' := 13) (ls' := [some (.ref o1)]) (st' := [.int 0]) (σ' := (zN L X h R G nc ns)) (fun n => rfl) ?_
    exact zW.iret rfl rfl (znb0) (by simp only [if_pos c1] at hQ; exact hQ)
  · skip
    refine zW.run 2 (pc' := 13) (ls' := [some (.ref o1)]) (st' := [.int 1]) (σ' := (zN L X h R G nc ns)) (fun n => rfl) ?_
    exact zW.iret rfl rfl (znb1) (by simp only [if_neg c1] at hQ; exact hQ)
theorem n_Company_isPlaced (h : zH) (o1 : Nat) : narrow .boolean (.int (v_Company_isPlaced h o1)) = .int (v_Company_isPlaced h o1) := by
  unfold v_Company_isPlaced
  by_cases c1 : (h o1 0) = (-1)
  · rw [if_pos c1]
    exact znb0
  · rw [if_neg c1]
    exact znb1
def s_Company_place (h : zH) (o1 : Nat) (x1 : Int32) (x2 : Int32) (x3 : Int32) : zH := (zup (zup (zup h o1 0 x1) o1 1 x2) o1 2 x3)
theorem b_Company_place (S : zSR R) {o1 : Nat} {x1 : Int32} {x2 : Int32} {x3 : Int32} (k1 : (zK0 L ++ X)[o1]? = some (4, 6)) (hQ : Q (.inl none) (zN L X (s_Company_place h o1 x1 x2 x3) R G nc ns)) : zW ro 36 0 (zfst [.ref o1, .int x1, .int x2, .int x3] 4) [] (zN L X h R G nc ns) Q := by
  show zW ro 36 0 [some (.ref o1), some (.int x1), some (.int x2), some (.int x3)] [] (zN L X h R G nc ns) Q
  refine zW.run 2 (pc' := 2) (ls' := [some (.ref o1), some (.int x1), some (.int x2), some (.int x3)]) (st' := [.int x1, .ref o1]) (σ' := (zN L X h R G nc ns)) (fun n => rfl) ?_
  refine zW.putf (σ1 := (zN L X (zup h o1 0 x1) R G nc ns)) rfl k1 rfl rfl rfl ?_
  refine zW.run 2 (pc' := 7) (ls' := [some (.ref o1), some (.int x1), some (.int x2), some (.int x3)]) (st' := [.int x2, .ref o1]) (σ' := (zN L X (zup h o1 0 x1) R G nc ns)) (fun n => rfl) ?_
  refine zW.putf (σ1 := (zN L X (zup (zup h o1 0 x1) o1 1 x2) R G nc ns)) rfl k1 rfl rfl rfl ?_
  refine zW.run 2 (pc' := 12) (ls' := [some (.ref o1), some (.int x1), some (.int x2), some (.int x3)]) (st' := [.int x3, .ref o1]) (σ' := (zN L X (zup (zup h o1 0 x1) o1 1 x2) R G nc ns)) (fun n => rfl) ?_
  refine zW.putf (σ1 := (zN L X (zup (zup (zup h o1 0 x1) o1 1 x2) o1 2 x3) R G nc ns)) rfl k1 rfl rfl rfl ?_
  exact zW.vret rfl hQ
def s_Company_restNow (h : zH) (o1 : Nat) : zH := (zup (zup h o1 4 0) o1 5 (-1))
theorem b_Company_restNow (S : zSR R) {o1 : Nat} (k1 : (zK0 L ++ X)[o1]? = some (4, 6)) (hQ : Q (.inl none) (zN L X (s_Company_restNow h o1) R G nc ns)) : zW ro 37 0 (zfst [.ref o1] 1) [] (zN L X h R G nc ns) Q := by
  show zW ro 37 0 [some (.ref o1)] [] (zN L X h R G nc ns) Q
  refine zW.run 2 (pc' := 2) (ls' := [some (.ref o1)]) (st' := [.int 0, .ref o1]) (σ' := (zN L X h R G nc ns)) (fun n => rfl) ?_
  refine zW.putf (σ1 := (zN L X (zup h o1 4 0) R G nc ns)) rfl k1 rfl rfl rfl ?_
  refine zW.run 2 (pc' := 7) (ls' := [some (.ref o1)]) (st' := [.int (-1), .ref o1]) (σ' := (zN L X (zup h o1 4 0) R G nc ns)) (fun n => rfl) ?_
  refine zW.putf (σ1 := (zN L X (zup (zup h o1 4 0) o1 5 (-1)) R G nc ns)) rfl k1 rfl rfl rfl ?_
  exact zW.vret rfl hQ
def v_Gun_isPlaced (h : zH) (o1 : Nat) : Int32 := if (h o1 0) = (-1) then 0 else 1
theorem b_Gun_isPlaced (S : zSR R) {o1 : Nat} (k1 : (zK0 L ++ X)[o1]? = some (3, 7)) (hQ : Q (.inl (some (.int (v_Gun_isPlaced h o1)))) (zN L X h R G nc ns)) : zW ro 83 0 (zfst [.ref o1] 1) [] (zN L X h R G nc ns) Q := by
  unfold v_Gun_isPlaced at hQ
  show zW ro 83 0 [some (.ref o1)] [] (zN L X h R G nc ns) Q
  refine zW.run 1 (pc' := 1) (ls' := [some (.ref o1)]) (st' := [.ref o1]) (σ' := (zN L X h R G nc ns)) (fun n => rfl) ?_
  refine zW.getf (v := .int (h o1 0)) rfl k1 rfl ?_
  refine zW.run 1 (pc' := 5) (ls' := [some (.ref o1)]) (st' := [.int (-1), .int (h o1 0)]) (σ' := (zN L X h R G nc ns)) (fun n => rfl) ?_
  refine zW.icmp_eq rfl (fun c1 => ?_) (fun c1 => ?_)
  · skip
    refine zW.run 1 (pc' := 13) (ls' := [some (.ref o1)]) (st' := [.int 0]) (σ' := (zN L X h R G nc ns)) (fun n => rfl) ?_
    exact zW.iret rfl rfl (znb0) (by simp only [if_pos c1] at hQ; exact hQ)
  · skip
    refine zW.run 2 (pc' := 13) (ls' := [some (.ref o1)]) (st' := [.int 1]) (σ' := (zN L X h R G nc ns)) (fun n => rfl) ?_
    exact zW.iret rfl rfl (znb1) (by simp only [if_neg c1] at hQ; exact hQ)
theorem n_Gun_isPlaced (h : zH) (o1 : Nat) : narrow .boolean (.int (v_Gun_isPlaced h o1)) = .int (v_Gun_isPlaced h o1) := by
  unfold v_Gun_isPlaced
  by_cases c1 : (h o1 0) = (-1)
  · rw [if_pos c1]
    exact znb0
  · rw [if_neg c1]
    exact znb1
def v_Gun_isReadyOf (h : zH) (o1 : Nat) (x1 : Int32) : Int32 := if (h o1 0) = x1 then if (h o1 5) = 0 then 1 else 0 else 0
theorem b_Gun_isReadyOf (S : zSR R) {o1 : Nat} {x1 : Int32} (k1 : (zK0 L ++ X)[o1]? = some (3, 7)) (hQ : Q (.inl (some (.int (v_Gun_isReadyOf h o1 x1)))) (zN L X h R G nc ns)) : zW ro 84 0 (zfst [.ref o1, .int x1] 2) [] (zN L X h R G nc ns) Q := by
  unfold v_Gun_isReadyOf at hQ
  show zW ro 84 0 [some (.ref o1), some (.int x1)] [] (zN L X h R G nc ns) Q
  refine zW.run 1 (pc' := 1) (ls' := [some (.ref o1), some (.int x1)]) (st' := [.ref o1]) (σ' := (zN L X h R G nc ns)) (fun n => rfl) ?_
  refine zW.getf (v := .int (h o1 0)) rfl k1 rfl ?_
  refine zW.run 1 (pc' := 5) (ls' := [some (.ref o1), some (.int x1)]) (st' := [.int x1, .int (h o1 0)]) (σ' := (zN L X h R G nc ns)) (fun n => rfl) ?_
  refine zW.icmp_ne rfl (fun c1 => ?_) (fun c1 => ?_)
  · skip
    refine zW.run 1 (pc' := 20) (ls' := [some (.ref o1), some (.int x1)]) (st' := [.int 0]) (σ' := (zN L X h R G nc ns)) (fun n => rfl) ?_
    exact zW.iret rfl rfl (znb0) (by simp only [if_neg c1] at hQ; exact hQ)
  · skip
    refine zW.run 1 (pc' := 9) (ls' := [some (.ref o1), some (.int x1)]) (st' := [.ref o1]) (σ' := (zN L X h R G nc ns)) (fun n => rfl) ?_
    refine zW.getf (v := .int (h o1 5)) rfl k1 rfl ?_
    refine zW.if_ne rfl (fun c2 => ?_) (fun c2 => ?_)
    · skip
      refine zW.run 1 (pc' := 20) (ls' := [some (.ref o1), some (.int x1)]) (st' := [.int 0]) (σ' := (zN L X h R G nc ns)) (fun n => rfl) ?_
      exact zW.iret rfl rfl (znb0) (by simp only [if_pos c1, if_neg c2] at hQ; exact hQ)
    · skip
      refine zW.run 2 (pc' := 20) (ls' := [some (.ref o1), some (.int x1)]) (st' := [.int 1]) (σ' := (zN L X h R G nc ns)) (fun n => rfl) ?_
      exact zW.iret rfl rfl (znb1) (by simp only [if_pos c1, if_pos c2] at hQ; exact hQ)
theorem n_Gun_isReadyOf (h : zH) (o1 : Nat) (x1 : Int32) : narrow .boolean (.int (v_Gun_isReadyOf h o1 x1)) = .int (v_Gun_isReadyOf h o1 x1) := by
  unfold v_Gun_isReadyOf
  by_cases c1 : (h o1 0) = x1
  · rw [if_pos c1]
    by_cases c2 : (h o1 5) = 0
    · rw [if_pos c2]
      exact znb1
    · rw [if_neg c2]
      exact znb0
  · rw [if_neg c1]
    exact znb0
def s_Gun_place (h : zH) (o1 : Nat) (x1 : Int32) (x2 : Int32) (x3 : Int32) : zH := (zup (zup (zup h o1 0 x1) o1 1 x2) o1 2 x3)
theorem b_Gun_place (S : zSR R) {o1 : Nat} {x1 : Int32} {x2 : Int32} {x3 : Int32} (k1 : (zK0 L ++ X)[o1]? = some (3, 7)) (hQ : Q (.inl none) (zN L X (s_Gun_place h o1 x1 x2 x3) R G nc ns)) : zW ro 85 0 (zfst [.ref o1, .int x1, .int x2, .int x3] 4) [] (zN L X h R G nc ns) Q := by
  show zW ro 85 0 [some (.ref o1), some (.int x1), some (.int x2), some (.int x3)] [] (zN L X h R G nc ns) Q
  refine zW.run 2 (pc' := 2) (ls' := [some (.ref o1), some (.int x1), some (.int x2), some (.int x3)]) (st' := [.int x1, .ref o1]) (σ' := (zN L X h R G nc ns)) (fun n => rfl) ?_
  refine zW.putf (σ1 := (zN L X (zup h o1 0 x1) R G nc ns)) rfl k1 rfl rfl rfl ?_
  refine zW.run 2 (pc' := 7) (ls' := [some (.ref o1), some (.int x1), some (.int x2), some (.int x3)]) (st' := [.int x2, .ref o1]) (σ' := (zN L X (zup h o1 0 x1) R G nc ns)) (fun n => rfl) ?_
  refine zW.putf (σ1 := (zN L X (zup (zup h o1 0 x1) o1 1 x2) R G nc ns)) rfl k1 rfl rfl rfl ?_
  refine zW.run 2 (pc' := 12) (ls' := [some (.ref o1), some (.int x1), some (.int x2), some (.int x3)]) (st' := [.int x3, .ref o1]) (σ' := (zN L X (zup (zup h o1 0 x1) o1 1 x2) R G nc ns)) (fun n => rfl) ?_
  refine zW.putf (σ1 := (zN L X (zup (zup (zup h o1 0 x1) o1 1 x2) o1 2 x3) R G nc ns)) rfl k1 rfl rfl rfl ?_
  exact zW.vret rfl hQ
def v_Mine_isBegun (h : zH) (o1 : Nat) (w1 : Nat) : Int32 := if (h o1 1) = (-1) then 0 else 1
theorem b_Mine_isBegun (S : zSR R) {o1 : Nat} {w1 : Nat} (k1 : (zK0 L ++ X)[o1]? = some (5, 7)) (r1 : va_rf (R o1 0) = .ref w1) (q1 : (zK0 L ++ X)[w1]? = some (100, 6)) (hQ : Q (.inl (some (.int (v_Mine_isBegun h o1 w1)))) (zN L X h R G nc ns)) : zW ro 104 0 (zfst [.ref o1] 1) [] (zN L X h R G nc ns) Q := by
  unfold v_Mine_isBegun at hQ
  show zW ro 104 0 [some (.ref o1)] [] (zN L X h R G nc ns) Q
  refine zW.run 1 (pc' := 1) (ls' := [some (.ref o1)]) (st' := [.ref o1]) (σ' := (zN L X h R G nc ns)) (fun n => rfl) ?_
  refine zW.getf (v := .int (h o1 1)) rfl k1 rfl ?_
  refine zW.run 1 (pc' := 5) (ls' := [some (.ref o1)]) (st' := [.int (-1), .int (h o1 1)]) (σ' := (zN L X h R G nc ns)) (fun n => rfl) ?_
  refine zW.icmp_eq rfl (fun c1 => ?_) (fun c1 => ?_)
  · skip
    refine zW.run 1 (pc' := 13) (ls' := [some (.ref o1)]) (st' := [.int 0]) (σ' := (zN L X h R G nc ns)) (fun n => rfl) ?_
    exact zW.iret rfl rfl (znb0) (by simp only [if_pos c1] at hQ; exact hQ)
  · skip
    refine zW.run 2 (pc' := 13) (ls' := [some (.ref o1)]) (st' := [.int 1]) (σ' := (zN L X h R G nc ns)) (fun n => rfl) ?_
    exact zW.iret rfl rfl (znb1) (by simp only [if_neg c1] at hQ; exact hQ)
theorem n_Mine_isBegun (h : zH) (o1 : Nat) (w1 : Nat) : narrow .boolean (.int (v_Mine_isBegun h o1 w1)) = .int (v_Mine_isBegun h o1 w1) := by
  unfold v_Mine_isBegun
  by_cases c1 : (h o1 1) = (-1)
  · rw [if_pos c1]
    exact znb0
  · rw [if_neg c1]
    exact znb1
def v_Mine_isWhole (h : zH) (o1 : Nat) (w1 : Nat) : Int32 := if (h o1 1) = (-1) then 0 else if (h o1 6) = 0 then 1 else if (h o1 6) = 1 then 1 else 0
theorem b_Mine_isWhole (S : zSR R) {o1 : Nat} {w1 : Nat} (k1 : (zK0 L ++ X)[o1]? = some (5, 7)) (r1 : va_rf (R o1 0) = .ref w1) (q1 : (zK0 L ++ X)[w1]? = some (100, 6)) (hQ : Q (.inl (some (.int (v_Mine_isWhole h o1 w1)))) (zN L X h R G nc ns)) : zW ro 105 0 (zfst [.ref o1] 1) [] (zN L X h R G nc ns) Q := by
  unfold v_Mine_isWhole at hQ
  show zW ro 105 0 [some (.ref o1)] [] (zN L X h R G nc ns) Q
  refine zW.run 1 (pc' := 1) (ls' := [some (.ref o1)]) (st' := [.ref o1]) (σ' := (zN L X h R G nc ns)) (fun n => rfl) ?_
  refine zW.getf (v := .int (h o1 1)) rfl k1 rfl ?_
  refine zW.run 1 (pc' := 5) (ls' := [some (.ref o1)]) (st' := [.int (-1), .int (h o1 1)]) (σ' := (zN L X h R G nc ns)) (fun n => rfl) ?_
  refine zW.icmp_eq rfl (fun c1 => ?_) (fun c1 => ?_)
  · skip
    refine zW.run 1 (pc' := 28) (ls' := [some (.ref o1)]) (st' := [.int 0]) (σ' := (zN L X h R G nc ns)) (fun n => rfl) ?_
    exact zW.iret rfl rfl (znb0) (by simp only [if_pos c1] at hQ; exact hQ)
  · skip
    refine zW.run 1 (pc' := 9) (ls' := [some (.ref o1)]) (st' := [.ref o1]) (σ' := (zN L X h R G nc ns)) (fun n => rfl) ?_
    refine zW.getf (v := .int (h o1 6)) rfl k1 rfl ?_
    refine zW.if_eq rfl (fun c2 => ?_) (fun c2 => ?_)
    · skip
      refine zW.run 2 (pc' := 28) (ls' := [some (.ref o1)]) (st' := [.int 1]) (σ' := (zN L X h R G nc ns)) (fun n => rfl) ?_
      exact zW.iret rfl rfl (znb1) (by simp only [if_neg c1, if_pos c2] at hQ; exact hQ)
    · skip
      refine zW.run 1 (pc' := 16) (ls' := [some (.ref o1)]) (st' := [.ref o1]) (σ' := (zN L X h R G nc ns)) (fun n => rfl) ?_
      refine zW.getf (v := .int (h o1 6)) rfl k1 rfl ?_
      refine zW.run 1 (pc' := 20) (ls' := [some (.ref o1)]) (st' := [.int 1, .int (h o1 6)]) (σ' := (zN L X h R G nc ns)) (fun n => rfl) ?_
      refine zW.icmp_ne rfl (fun c3 => ?_) (fun c3 => ?_)
      · skip
        refine zW.run 1 (pc' := 28) (ls' := [some (.ref o1)]) (st' := [.int 0]) (σ' := (zN L X h R G nc ns)) (fun n => rfl) ?_
        exact zW.iret rfl rfl (znb0) (by simp only [if_neg c1, if_neg c2, if_neg c3] at hQ; exact hQ)
      · skip
        refine zW.run 2 (pc' := 28) (ls' := [some (.ref o1)]) (st' := [.int 1]) (σ' := (zN L X h R G nc ns)) (fun n => rfl) ?_
        exact zW.iret rfl rfl (znb1) (by simp only [if_neg c1, if_neg c2, if_pos c3] at hQ; exact hQ)
theorem n_Mine_isWhole (h : zH) (o1 : Nat) (w1 : Nat) : narrow .boolean (.int (v_Mine_isWhole h o1 w1)) = .int (v_Mine_isWhole h o1 w1) := by
  unfold v_Mine_isWhole
  by_cases c1 : (h o1 1) = (-1)
  · rw [if_pos c1]
    exact znb0
  · rw [if_neg c1]
    by_cases c2 : (h o1 6) = 0
    · rw [if_pos c2]
      exact znb1
    · rw [if_neg c2]
      by_cases c3 : (h o1 6) = 1
      · rw [if_pos c3]
        exact znb1
      · rw [if_neg c3]
        exact znb0
def v_Mine_mouth (h : zH) (o1 : Nat) (w1 : Nat) : Int32 := if (h o1 2) ≤ 0 then (-1) else (h w1 (0 : Int32).toNatClampNeg)
theorem b_Mine_mouth (S : zSR R) {o1 : Nat} {w1 : Nat} (k1 : (zK0 L ++ X)[o1]? = some (5, 7)) (r1 : va_rf (R o1 0) = .ref w1) (q1 : (zK0 L ++ X)[w1]? = some (100, 6)) (hQ : Q (.inl (some (.int (v_Mine_mouth h o1 w1)))) (zN L X h R G nc ns)) : zW ro 106 0 (zfst [.ref o1] 1) [] (zN L X h R G nc ns) Q := by
  unfold v_Mine_mouth at hQ
  show zW ro 106 0 [some (.ref o1)] [] (zN L X h R G nc ns) Q
  refine zW.run 1 (pc' := 1) (ls' := [some (.ref o1)]) (st' := [.ref o1]) (σ' := (zN L X h R G nc ns)) (fun n => rfl) ?_
  refine zW.getf (v := .int (h o1 2)) rfl k1 rfl ?_
  refine zW.if_le rfl (fun c1 => ?_) (fun c1 => ?_)
  · skip
    refine zW.run 1 (pc' := 17) (ls' := [some (.ref o1)]) (st' := [.int (-1)]) (σ' := (zN L X h R G nc ns)) (fun n => rfl) ?_
    exact zW.iret rfl rfl (rfl) (by simp only [if_pos c1] at hQ; exact hQ)
  · skip
    refine zW.run 1 (pc' := 8) (ls' := [some (.ref o1)]) (st' := [.ref o1]) (σ' := (zN L X h R G nc ns)) (fun n => rfl) ?_
    refine zW.getf (v := .ref w1) rfl k1 (r1) ?_
    refine zW.run 1 (pc' := 12) (ls' := [some (.ref o1)]) (st' := [.int 0, .ref w1]) (σ' := (zN L X h R G nc ns)) (fun n => rfl) ?_
    refine zW.iald (v := h w1 (0 : Int32).toNatClampNeg) rfl q1 (Or.inl rfl) (by decide) rfl ?_
    refine zW.run 1 (pc' := 17) (ls' := [some (.ref o1)]) (st' := [.int (h w1 (0 : Int32).toNatClampNeg)]) (σ' := (zN L X h R G nc ns)) (fun n => rfl) ?_
    exact zW.iret rfl rfl (rfl) (by simp only [if_neg c1] at hQ; exact hQ)
def s_Mine_place (h : zH) (o1 : Nat) (w1 : Nat) (x1 : Int32) (x2 : Int32) (x3 : Int32) : zH := (zup (zup (zup (zup h o1 1 x1) w1 (0 : Int32).toNatClampNeg x2) o1 2 1) o1 3 x3)
theorem b_Mine_place (S : zSR R) {o1 : Nat} {w1 : Nat} {x1 : Int32} {x2 : Int32} {x3 : Int32} (k1 : (zK0 L ++ X)[o1]? = some (5, 7)) (r1 : va_rf (R o1 0) = .ref w1) (q1 : (zK0 L ++ X)[w1]? = some (100, 6)) (hQ : Q (.inl none) (zN L X (s_Mine_place h o1 w1 x1 x2 x3) R G nc ns)) : zW ro 107 0 (zfst [.ref o1, .int x1, .int x2, .int x3] 4) [] (zN L X h R G nc ns) Q := by
  show zW ro 107 0 [some (.ref o1), some (.int x1), some (.int x2), some (.int x3)] [] (zN L X h R G nc ns) Q
  refine zW.run 2 (pc' := 2) (ls' := [some (.ref o1), some (.int x1), some (.int x2), some (.int x3)]) (st' := [.int x1, .ref o1]) (σ' := (zN L X h R G nc ns)) (fun n => rfl) ?_
  refine zW.putf (σ1 := (zN L X (zup h o1 1 x1) R G nc ns)) rfl k1 rfl rfl rfl ?_
  refine zW.run 1 (pc' := 6) (ls' := [some (.ref o1), some (.int x1), some (.int x2), some (.int x3)]) (st' := [.ref o1]) (σ' := (zN L X (zup h o1 1 x1) R G nc ns)) (fun n => rfl) ?_
  refine zW.getf (v := .ref w1) rfl k1 (r1) ?_
  refine zW.run 2 (pc' := 11) (ls' := [some (.ref o1), some (.int x1), some (.int x2), some (.int x3)]) (st' := [.int x2, .int 0, .ref w1]) (σ' := (zN L X (zup h o1 1 x1) R G nc ns)) (fun n => rfl) ?_
  refine zW.iast rfl q1 (by decide) ?_
  refine zW.run 2 (pc' := 14) (ls' := [some (.ref o1), some (.int x1), some (.int x2), some (.int x3)]) (st' := [.int 1, .ref o1]) (σ' := (zN L X (zup (zup h o1 1 x1) w1 (0 : Int32).toNatClampNeg x2) R G nc ns)) (fun n => rfl) ?_
  refine zW.putf (σ1 := (zN L X (zup (zup (zup h o1 1 x1) w1 (0 : Int32).toNatClampNeg x2) o1 2 1) R G nc ns)) rfl k1 rfl rfl rfl ?_
  refine zW.run 2 (pc' := 19) (ls' := [some (.ref o1), some (.int x1), some (.int x2), some (.int x3)]) (st' := [.int x3, .ref o1]) (σ' := (zN L X (zup (zup (zup h o1 1 x1) w1 (0 : Int32).toNatClampNeg x2) o1 2 1) R G nc ns)) (fun n => rfl) ?_
  refine zW.putf (σ1 := (zN L X (zup (zup (zup (zup h o1 1 x1) w1 (0 : Int32).toNatClampNeg x2) o1 2 1) o1 3 x3) R G nc ns)) rfl k1 rfl rfl rfl ?_
  exact zW.vret rfl hQ
def s_Post_loseDay (h : zH)  : zH := if (h 23 4) ≤ 0 then h else (zup h 23 4 ((h 23 4) - 1))
theorem b_Post_loseDay (S : zSR R)   (hQ : Q (.inl none) (zN L X (s_Post_loseDay h) R G nc ns)) : zW ro 119 0 (zfst [.ref 23] 1) [] (zN L X h R G nc ns) Q := by
  unfold s_Post_loseDay at hQ
  show zW ro 119 0 [some (.ref 23)] [] (zN L X h R G nc ns) Q
  refine zW.run 2 (pc' := 4) (ls' := [some (.ref 23)]) (st' := [.int (h 23 4)]) (σ' := (zN L X h R G nc ns)) (fun n => rfl) ?_
  refine zW.if_le rfl (fun c1 => ?_) (fun c1 => ?_)
  · skip
    exact zW.vret rfl (by simp only [if_pos c1] at hQ; exact hQ)
  · skip
    refine zW.run 5 (pc' := 14) (ls' := [some (.ref 23)]) (st' := [.int ((h 23 4) - 1), .ref 23]) (σ' := (zN L X h R G nc ns)) (fun n => rfl) ?_
    refine zW.putf (σ1 := (zN L X (zup h 23 4 ((h 23 4) - 1)) R G nc ns)) rfl rfl rfl rfl rfl ?_
    exact zW.vret rfl (by simp only [if_neg c1] at hQ; exact hQ)
def s_Post_comeThrough (h : zH)  : zH := if (h 23 5) = 0 then (zup h 23 5 1) else (zup (s_Post_loseDay h) 23 5 1)
theorem b_Post_comeThrough (S : zSR R)   (hQ : Q (.inl none) (zN L X (s_Post_comeThrough h) R G nc ns)) : zW ro 118 0 (zfst [.ref 23] 1) [] (zN L X h R G nc ns) Q := by
  unfold s_Post_comeThrough at hQ
  show zW ro 118 0 [some (.ref 23)] [] (zN L X h R G nc ns) Q
  refine zW.run 2 (pc' := 4) (ls' := [some (.ref 23)]) (st' := [.int (h 23 5)]) (σ' := (zN L X h R G nc ns)) (fun n => rfl) ?_
  refine zW.if_eq rfl (fun c1 => ?_) (fun c1 => ?_)
  · skip
    refine zW.run 2 (pc' := 13) (ls' := [some (.ref 23)]) (st' := [.int 1, .ref 23]) (σ' := (zN L X h R G nc ns)) (fun n => rfl) ?_
    refine zW.putf (σ1 := (zN L X (zup h 23 5 1) R G nc ns)) rfl rfl (by decide) (by decide) rfl ?_
    exact zW.vret rfl (by simp only [if_pos c1] at hQ; exact hQ)
  · skip
    refine zW.run 1 (pc' := 8) (ls' := [some (.ref 23)]) (st' := [.ref 23]) (σ' := (zN L X h R G nc ns)) (fun n => rfl) ?_
    refine zW.callV rfl (by decide) rfl rfl rfl rfl rfl (Nat.le_of_ble_eq_true rfl) ?_
    refine b_Post_loseDay S  ?_
    show zW ro 118 11 [some (.ref 23)] [] (zN L X (s_Post_loseDay h) R G nc ns) Q
    refine zW.run 2 (pc' := 13) (ls' := [some (.ref 23)]) (st' := [.int 1, .ref 23]) (σ' := (zN L X (s_Post_loseDay h) R G nc ns)) (fun n => rfl) ?_
    refine zW.putf (σ1 := (zN L X (zup (s_Post_loseDay h) 23 5 1) R G nc ns)) rfl rfl (by decide) (by decide) rfl ?_
    exact zW.vret rfl (by simp only [if_neg c1] at hQ; exact hQ)
def s_Side_changeMorale (h : zH) (o1 : Nat) (x1 : Int32) : zH := if 0 ≤ ((h o1 3) + x1) then if ((h o1 3) + x1) ≤ 100 then (zup h o1 3 ((h o1 3) + x1)) else (zup h o1 3 100) else (zup h o1 3 0)
theorem b_Side_changeMorale (S : zSR R) {o1 : Nat} {x1 : Int32} (k1 : (zK0 L ++ X)[o1]? = some (6, 11)) (hQ : Q (.inl none) (zN L X (s_Side_changeMorale h o1 x1) R G nc ns)) : zW ro 122 0 (zfst [.ref o1, .int x1] 3) [] (zN L X h R G nc ns) Q := by
  unfold s_Side_changeMorale at hQ
  show zW ro 122 0 [some (.ref o1), some (.int x1), none] [] (zN L X h R G nc ns) Q
  refine zW.run 1 (pc' := 1) (ls' := [some (.ref o1), some (.int x1), none]) (st' := [.ref o1]) (σ' := (zN L X h R G nc ns)) (fun n => rfl) ?_
  refine zW.getf (v := .int (h o1 3)) rfl k1 rfl ?_
  refine zW.run 5 (pc' := 9) (ls' := [some (.ref o1), some (.int x1), some (.int ((h o1 3) + x1))]) (st' := [.int ((h o1 3) + x1), .ref o1]) (σ' := (zN L X h R G nc ns)) (fun n => rfl) ?_
  refine zW.if_ge rfl (fun c1 => ?_) (fun c1 => ?_)
  · skip
    refine zW.run 2 (pc' := 19) (ls' := [some (.ref o1), some (.int x1), some (.int ((h o1 3) + x1))]) (st' := [.int 100, .int ((h o1 3) + x1), .ref o1]) (σ' := (zN L X h R G nc ns)) (fun n => rfl) ?_
    refine zW.icmp_le rfl (fun c2 => ?_) (fun c2 => ?_)
    · skip
      refine zW.run 1 (pc' := 28) (ls' := [some (.ref o1), some (.int x1), some (.int ((h o1 3) + x1))]) (st' := [.int ((h o1 3) + x1), .ref o1]) (σ' := (zN L X h R G nc ns)) (fun n => rfl) ?_
      refine zW.putf (σ1 := (zN L X (zup h o1 3 ((h o1 3) + x1)) R G nc ns)) rfl k1 rfl rfl rfl ?_
      exact zW.vret rfl (by simp only [if_pos c1, if_pos c2] at hQ; exact hQ)
    · skip
      refine zW.run 2 (pc' := 28) (ls' := [some (.ref o1), some (.int x1), some (.int ((h o1 3) + x1))]) (st' := [.int 100, .ref o1]) (σ' := (zN L X h R G nc ns)) (fun n => rfl) ?_
      refine zW.putf (σ1 := (zN L X (zup h o1 3 100) R G nc ns)) rfl k1 rfl rfl rfl ?_
      exact zW.vret rfl (by simp only [if_pos c1, if_neg c2] at hQ; exact hQ)
  · skip
    refine zW.run 2 (pc' := 28) (ls' := [some (.ref o1), some (.int x1), some (.int ((h o1 3) + x1))]) (st' := [.int 0, .ref o1]) (σ' := (zN L X h R G nc ns)) (fun n => rfl) ?_
    refine zW.putf (σ1 := (zN L X (zup h o1 3 0) R G nc ns)) rfl k1 rfl rfl rfl ?_
    exact zW.vret rfl (by simp only [if_neg c1] at hQ; exact hQ)
def s_Side_spend (h : zH) (o1 : Nat) (x1 : Int32) : zH := (zup (zup h o1 0 ((h o1 0) - x1)) o1 6 (((zup h o1 0 ((h o1 0) - x1)) o1 6) + x1))
theorem b_Side_spend (S : zSR R) {o1 : Nat} {x1 : Int32} (k1 : (zK0 L ++ X)[o1]? = some (6, 11)) (hQ : Q (.inl none) (zN L X (s_Side_spend h o1 x1) R G nc ns)) : zW ro 123 0 (zfst [.ref o1, .int x1] 2) [] (zN L X h R G nc ns) Q := by
  show zW ro 123 0 [some (.ref o1), some (.int x1)] [] (zN L X h R G nc ns) Q
  refine zW.run 2 (pc' := 2) (ls' := [some (.ref o1), some (.int x1)]) (st' := [.ref o1, .ref o1]) (σ' := (zN L X h R G nc ns)) (fun n => rfl) ?_
  refine zW.getf (v := .int (h o1 0)) rfl k1 rfl ?_
  refine zW.run 2 (pc' := 7) (ls' := [some (.ref o1), some (.int x1)]) (st' := [.int ((h o1 0) - x1), .ref o1]) (σ' := (zN L X h R G nc ns)) (fun n => rfl) ?_
  refine zW.putf (σ1 := (zN L X (zup h o1 0 ((h o1 0) - x1)) R G nc ns)) rfl k1 rfl rfl rfl ?_
  refine zW.run 2 (pc' := 12) (ls' := [some (.ref o1), some (.int x1)]) (st' := [.ref o1, .ref o1]) (σ' := (zN L X (zup h o1 0 ((h o1 0) - x1)) R G nc ns)) (fun n => rfl) ?_
  refine zW.getf (v := .int ((zup h o1 0 ((h o1 0) - x1)) o1 6)) rfl k1 rfl ?_
  refine zW.run 2 (pc' := 17) (ls' := [some (.ref o1), some (.int x1)]) (st' := [.int (((zup h o1 0 ((h o1 0) - x1)) o1 6) + x1), .ref o1]) (σ' := (zN L X (zup h o1 0 ((h o1 0) - x1)) R G nc ns)) (fun n => rfl) ?_
  refine zW.putf (σ1 := (zN L X (zup (zup h o1 0 ((h o1 0) - x1)) o1 6 (((zup h o1 0 ((h o1 0) - x1)) o1 6) + x1)) R G nc ns)) rfl k1 rfl rfl rfl ?_
  exact zW.vret rfl hQ
def s_Side_tell (h : zH) (o1 : Nat) (x1 : Int32) (x2 : Int32) (x3 : Int32) (x4 : Int32) : zH := (zup (zup (zup (zup h o1 0 x1) o1 1 x2) o1 2 x3) o1 3 x4)
theorem b_Side_tell (S : zSR R) {o1 : Nat} {x1 : Int32} {x2 : Int32} {x3 : Int32} {x4 : Int32} (k1 : (zK0 L ++ X)[o1]? = some (6, 11)) (hQ : Q (.inl none) (zN L X (s_Side_tell h o1 x1 x2 x3 x4) R G nc ns)) : zW ro 124 0 (zfst [.ref o1, .int x1, .int x2, .int x3, .int x4] 5) [] (zN L X h R G nc ns) Q := by
  show zW ro 124 0 [some (.ref o1), some (.int x1), some (.int x2), some (.int x3), some (.int x4)] [] (zN L X h R G nc ns) Q
  refine zW.run 2 (pc' := 2) (ls' := [some (.ref o1), some (.int x1), some (.int x2), some (.int x3), some (.int x4)]) (st' := [.int x1, .ref o1]) (σ' := (zN L X h R G nc ns)) (fun n => rfl) ?_
  refine zW.putf (σ1 := (zN L X (zup h o1 0 x1) R G nc ns)) rfl k1 rfl rfl rfl ?_
  refine zW.run 2 (pc' := 7) (ls' := [some (.ref o1), some (.int x1), some (.int x2), some (.int x3), some (.int x4)]) (st' := [.int x2, .ref o1]) (σ' := (zN L X (zup h o1 0 x1) R G nc ns)) (fun n => rfl) ?_
  refine zW.putf (σ1 := (zN L X (zup (zup h o1 0 x1) o1 1 x2) R G nc ns)) rfl k1 rfl rfl rfl ?_
  refine zW.run 2 (pc' := 12) (ls' := [some (.ref o1), some (.int x1), some (.int x2), some (.int x3), some (.int x4)]) (st' := [.int x3, .ref o1]) (σ' := (zN L X (zup (zup h o1 0 x1) o1 1 x2) R G nc ns)) (fun n => rfl) ?_
  refine zW.putf (σ1 := (zN L X (zup (zup (zup h o1 0 x1) o1 1 x2) o1 2 x3) R G nc ns)) rfl k1 rfl rfl rfl ?_
  refine zW.run 2 (pc' := 18) (ls' := [some (.ref o1), some (.int x1), some (.int x2), some (.int x3), some (.int x4)]) (st' := [.int x4, .ref o1]) (σ' := (zN L X (zup (zup (zup h o1 0 x1) o1 1 x2) o1 2 x3) R G nc ns)) (fun n => rfl) ?_
  refine zW.putf (σ1 := (zN L X (zup (zup (zup (zup h o1 0 x1) o1 1 x2) o1 2 x3) o1 3 x4) R G nc ns)) rfl k1 rfl rfl rfl ?_
  exact zW.vret rfl hQ
def v_S_isNoGunWork (h : zH) (x1 : Int32) : Int32 := if x1 = 2 then 1 else if x1 = 6 then 1 else if x1 = 7 then 1 else 0
theorem b_S_isNoGunWork (S : zSR R) {x1 : Int32}  (hQ : Q (.inl (some (.int (v_S_isNoGunWork h x1)))) (zN L X h R G nc ns)) : zW ro 9 0 (zfst [.int x1] 1) [] (zN L X h R G nc ns) Q := by
  unfold v_S_isNoGunWork at hQ
  show zW ro 9 0 [some (.int x1)] [] (zN L X h R G nc ns) Q
  refine zW.run 2 (pc' := 2) (ls' := [some (.int x1)]) (st' := [.int 2, .int x1]) (σ' := (zN L X h R G nc ns)) (fun n => rfl) ?_
  refine zW.icmp_eq rfl (fun c1 => ?_) (fun c1 => ?_)
  · skip
    refine zW.run 2 (pc' := 22) (ls' := [some (.int x1)]) (st' := [.int 1]) (σ' := (zN L X h R G nc ns)) (fun n => rfl) ?_
    exact zW.iret rfl rfl (znb1) (by simp only [if_pos c1] at hQ; exact hQ)
  · skip
    refine zW.run 2 (pc' := 8) (ls' := [some (.int x1)]) (st' := [.int 6, .int x1]) (σ' := (zN L X h R G nc ns)) (fun n => rfl) ?_
    refine zW.icmp_eq rfl (fun c2 => ?_) (fun c2 => ?_)
    · skip
      refine zW.run 2 (pc' := 22) (ls' := [some (.int x1)]) (st' := [.int 1]) (σ' := (zN L X h R G nc ns)) (fun n => rfl) ?_
      exact zW.iret rfl rfl (znb1) (by simp only [if_neg c1, if_pos c2] at hQ; exact hQ)
    · skip
      refine zW.run 2 (pc' := 14) (ls' := [some (.int x1)]) (st' := [.int 7, .int x1]) (σ' := (zN L X h R G nc ns)) (fun n => rfl) ?_
      refine zW.icmp_ne rfl (fun c3 => ?_) (fun c3 => ?_)
      · skip
        refine zW.run 1 (pc' := 22) (ls' := [some (.int x1)]) (st' := [.int 0]) (σ' := (zN L X h R G nc ns)) (fun n => rfl) ?_
        exact zW.iret rfl rfl (znb0) (by simp only [if_neg c1, if_neg c2, if_neg c3] at hQ; exact hQ)
      · skip
        refine zW.run 2 (pc' := 22) (ls' := [some (.int x1)]) (st' := [.int 1]) (σ' := (zN L X h R G nc ns)) (fun n => rfl) ?_
        exact zW.iret rfl rfl (znb1) (by simp only [if_neg c1, if_neg c2, if_pos c3] at hQ; exact hQ)
theorem n_S_isNoGunWork (h : zH) (x1 : Int32) : narrow .boolean (.int (v_S_isNoGunWork h x1)) = .int (v_S_isNoGunWork h x1) := by
  unfold v_S_isNoGunWork
  by_cases c1 : x1 = 2
  · rw [if_pos c1]
    exact znb1
  · rw [if_neg c1]
    by_cases c2 : x1 = 6
    · rw [if_pos c2]
      exact znb1
    · rw [if_neg c2]
      by_cases c3 : x1 = 7
      · rw [if_pos c3]
        exact znb1
      · rw [if_neg c3]
        exact znb0
def v_S_isSide (h : zH) (x1 : Int32) : Int32 := if x1 = 0 then 1 else if x1 = 1 then 1 else 0
theorem b_S_isSide (S : zSR R) {x1 : Int32}  (hQ : Q (.inl (some (.int (v_S_isSide h x1)))) (zN L X h R G nc ns)) : zW ro 10 0 (zfst [.int x1] 1) [] (zN L X h R G nc ns) Q := by
  unfold v_S_isSide at hQ
  show zW ro 10 0 [some (.int x1)] [] (zN L X h R G nc ns) Q
  refine zW.run 1 (pc' := 1) (ls' := [some (.int x1)]) (st' := [.int x1]) (σ' := (zN L X h R G nc ns)) (fun n => rfl) ?_
  refine zW.if_eq rfl (fun c1 => ?_) (fun c1 => ?_)
  · skip
    refine zW.run 2 (pc' := 14) (ls' := [some (.int x1)]) (st' := [.int 1]) (σ' := (zN L X h R G nc ns)) (fun n => rfl) ?_
    exact zW.iret rfl rfl (znb1) (by simp only [if_pos c1] at hQ; exact hQ)
  · skip
    refine zW.run 2 (pc' := 6) (ls' := [some (.int x1)]) (st' := [.int 1, .int x1]) (σ' := (zN L X h R G nc ns)) (fun n => rfl) ?_
    refine zW.icmp_ne rfl (fun c2 => ?_) (fun c2 => ?_)
    · skip
      refine zW.run 1 (pc' := 14) (ls' := [some (.int x1)]) (st' := [.int 0]) (σ' := (zN L X h R G nc ns)) (fun n => rfl) ?_
      exact zW.iret rfl rfl (znb0) (by simp only [if_neg c1, if_neg c2] at hQ; exact hQ)
    · skip
      refine zW.run 2 (pc' := 14) (ls' := [some (.int x1)]) (st' := [.int 1]) (σ' := (zN L X h R G nc ns)) (fun n => rfl) ?_
      exact zW.iret rfl rfl (znb1) (by simp only [if_neg c1, if_pos c2] at hQ; exact hQ)
theorem n_S_isSide (h : zH) (x1 : Int32) : narrow .boolean (.int (v_S_isSide h x1)) = .int (v_S_isSide h x1) := by
  unfold v_S_isSide
  by_cases c1 : x1 = 0
  · rw [if_pos c1]
    exact znb1
  · rw [if_neg c1]
    by_cases c2 : x1 = 1
    · rw [if_pos c2]
      exact znb1
    · rw [if_neg c2]
      exact znb0
def v_S_nextDrawn (h : zH) (x1 : Int32) : Int32 := (((31 * x1) + 17) - ((31 * x1) + 17) / 97 * 97)
theorem b_S_nextDrawn (S : zSR R) {x1 : Int32}  (hQ : Q (.inl (some (.int (v_S_nextDrawn h x1)))) (zN L X h R G nc ns)) : zW ro 17 0 (zfst [.int x1] 1) [] (zN L X h R G nc ns) Q := by
  show zW ro 17 0 [some (.int x1)] [] (zN L X h R G nc ns) Q
  refine zW.run 6 (pc' := 9) (ls' := [some (.int x1)]) (st' := [.int 97, .int ((31 * x1) + 17)]) (σ' := (zN L X h R G nc ns)) (fun n => rfl) ?_
  refine zW.irem rfl (by decide) ?_
  exact zW.iret rfl rfl (rfl) hQ
def v_Ground_isOn (h : zH) (x1 : Int32) : Int32 := if x1 < 0 then 0 else if (h 8 11) ≤ x1 then 0 else if 144 ≤ x1 then 0 else 1
theorem b_Ground_isOn (S : zSR R) {x1 : Int32}  (hQ : Q (.inl (some (.int (v_Ground_isOn h x1)))) (zN L X h R G nc ns)) : zW ro 67 0 (zfst [.ref 8, .int x1] 2) [] (zN L X h R G nc ns) Q := by
  unfold v_Ground_isOn at hQ
  show zW ro 67 0 [some (.ref 8), some (.int x1)] [] (zN L X h R G nc ns) Q
  refine zW.run 1 (pc' := 1) (ls' := [some (.ref 8), some (.int x1)]) (st' := [.int x1]) (σ' := (zN L X h R G nc ns)) (fun n => rfl) ?_
  refine zW.if_lt rfl (fun c1 => ?_) (fun c1 => ?_)
  · skip
    refine zW.run 1 (pc' := 24) (ls' := [some (.ref 8), some (.int x1)]) (st' := [.int 0]) (σ' := (zN L X h R G nc ns)) (fun n => rfl) ?_
    exact zW.iret rfl rfl (znb0) (by simp only [if_pos c1] at hQ; exact hQ)
  · skip
    refine zW.run 3 (pc' := 9) (ls' := [some (.ref 8), some (.int x1)]) (st' := [.int (h 8 11), .int x1]) (σ' := (zN L X h R G nc ns)) (fun n => rfl) ?_
    refine zW.icmp_ge rfl (fun c2 => ?_) (fun c2 => ?_)
    · skip
      refine zW.run 1 (pc' := 24) (ls' := [some (.ref 8), some (.int x1)]) (st' := [.int 0]) (σ' := (zN L X h R G nc ns)) (fun n => rfl) ?_
      exact zW.iret rfl rfl (znb0) (by simp only [if_neg c1, if_pos c2] at hQ; exact hQ)
    · skip
      refine zW.run 2 (pc' := 16) (ls' := [some (.ref 8), some (.int x1)]) (st' := [.int 144, .int x1]) (σ' := (zN L X h R G nc ns)) (fun n => rfl) ?_
      refine zW.icmp_ge rfl (fun c3 => ?_) (fun c3 => ?_)
      · skip
        refine zW.run 1 (pc' := 24) (ls' := [some (.ref 8), some (.int x1)]) (st' := [.int 0]) (σ' := (zN L X h R G nc ns)) (fun n => rfl) ?_
        exact zW.iret rfl rfl (znb0) (by simp only [if_neg c1, if_neg c2, if_pos c3] at hQ; exact hQ)
      · skip
        refine zW.run 2 (pc' := 24) (ls' := [some (.ref 8), some (.int x1)]) (st' := [.int 1]) (σ' := (zN L X h R G nc ns)) (fun n => rfl) ?_
        exact zW.iret rfl rfl (znb1) (by simp only [if_neg c1, if_neg c2, if_neg c3] at hQ; exact hQ)
theorem n_Ground_isOn (h : zH) (x1 : Int32) : narrow .boolean (.int (v_Ground_isOn h x1)) = .int (v_Ground_isOn h x1) := by
  unfold v_Ground_isOn
  by_cases c1 : x1 < 0
  · rw [if_pos c1]
    exact znb0
  · rw [if_neg c1]
    by_cases c2 : (h 8 11) ≤ x1
    · rw [if_pos c2]
      exact znb0
    · rw [if_neg c2]
      by_cases c3 : 144 ≤ x1
      · rw [if_pos c3]
        exact znb0
      · rw [if_neg c3]
        exact znb1
theorem zin_on {h : zH} {x : Int32} (c : ¬ v_Ground_isOn h x = 0) : zin x 144 = true := by
  unfold v_Ground_isOn at c
  by_cases c1 : x < 0
  · rw [if_pos c1] at c
    exact absurd rfl c
  · rw [if_neg c1] at c
    by_cases c2 : h 8 11 ≤ x
    · rw [if_pos c2] at c
      exact absurd rfl c
    · rw [if_neg c2] at c
      by_cases c3 : 144 ≤ x
      · rw [if_pos c3] at c
        exact absurd rfl c
      · exact zin_lt c1 c3 (by decide)
def v_Ground_heightOf (h : zH) (x1 : Int32) : Int32 := if (v_Ground_isOn h x1) = 0 then 0 else (h 9 (x1).toNatClampNeg)
theorem b_Ground_heightOf (S : zSR R) {x1 : Int32}  (hQ : Q (.inl (some (.int (v_Ground_heightOf h x1)))) (zN L X h R G nc ns)) : zW ro 65 0 (zfst [.ref 8, .int x1] 2) [] (zN L X h R G nc ns) Q := by
  unfold v_Ground_heightOf at hQ
  show zW ro 65 0 [some (.ref 8), some (.int x1)] [] (zN L X h R G nc ns) Q
  refine zW.run 2 (pc' := 2) (ls' := [some (.ref 8), some (.int x1)]) (st' := [.int x1, .ref 8]) (σ' := (zN L X h R G nc ns)) (fun n => rfl) ?_
  refine zW.callV rfl (by decide) rfl rfl rfl rfl rfl (Nat.le_of_ble_eq_true rfl) ?_
  refine b_Ground_isOn S  ?_
  show zW ro 65 5 [some (.ref 8), some (.int x1)] [.int (v_Ground_isOn h x1)] (zN L X h R G nc ns) Q
  refine zW.if_eq rfl (fun c1 => ?_) (fun c1 => ?_)
  · skip
    refine zW.run 1 (pc' := 18) (ls' := [some (.ref 8), some (.int x1)]) (st' := [.int 0]) (σ' := (zN L X h R G nc ns)) (fun n => rfl) ?_
    exact zW.iret rfl rfl (rfl) (by simp only [if_pos c1] at hQ; exact hQ)
  · skip
    refine zW.run 1 (pc' := 9) (ls' := [some (.ref 8), some (.int x1)]) (st' := [.ref 8]) (σ' := (zN L X h R G nc ns)) (fun n => rfl) ?_
    refine zW.getf (v := .ref 9) rfl rfl (zr_8 S (f := 0) (by decide)) ?_
    refine zW.run 1 (pc' := 13) (ls' := [some (.ref 8), some (.int x1)]) (st' := [.int x1, .ref 9]) (σ' := (zN L X h R G nc ns)) (fun n => rfl) ?_
    refine zW.iald (v := h 9 (x1).toNatClampNeg) rfl rfl (Or.inl rfl) (zin_on c1) rfl ?_
    refine zW.run 1 (pc' := 18) (ls' := [some (.ref 8), some (.int x1)]) (st' := [.int (h 9 (x1).toNatClampNeg)]) (σ' := (zN L X h R G nc ns)) (fun n => rfl) ?_
    exact zW.iret rfl rfl (rfl) (by simp only [if_neg c1] at hQ; exact hQ)
def v_Ground_soilOf (h : zH) (x1 : Int32) : Int32 := if (v_Ground_isOn h x1) = 0 then (-1) else (h 10 (x1).toNatClampNeg)
theorem b_Ground_soilOf (S : zSR R) {x1 : Int32}  (hQ : Q (.inl (some (.int (v_Ground_soilOf h x1)))) (zN L X h R G nc ns)) : zW ro 76 0 (zfst [.ref 8, .int x1] 2) [] (zN L X h R G nc ns) Q := by
  unfold v_Ground_soilOf at hQ
  show zW ro 76 0 [some (.ref 8), some (.int x1)] [] (zN L X h R G nc ns) Q
  refine zW.run 2 (pc' := 2) (ls' := [some (.ref 8), some (.int x1)]) (st' := [.int x1, .ref 8]) (σ' := (zN L X h R G nc ns)) (fun n => rfl) ?_
  refine zW.callV rfl (by decide) rfl rfl rfl rfl rfl (Nat.le_of_ble_eq_true rfl) ?_
  refine b_Ground_isOn S  ?_
  show zW ro 76 5 [some (.ref 8), some (.int x1)] [.int (v_Ground_isOn h x1)] (zN L X h R G nc ns) Q
  refine zW.if_eq rfl (fun c1 => ?_) (fun c1 => ?_)
  · skip
    refine zW.run 1 (pc' := 18) (ls' := [some (.ref 8), some (.int x1)]) (st' := [.int (-1)]) (σ' := (zN L X h R G nc ns)) (fun n => rfl) ?_
    exact zW.iret rfl rfl (rfl) (by simp only [if_pos c1] at hQ; exact hQ)
  · skip
    refine zW.run 1 (pc' := 9) (ls' := [some (.ref 8), some (.int x1)]) (st' := [.ref 8]) (σ' := (zN L X h R G nc ns)) (fun n => rfl) ?_
    refine zW.getf (v := .ref 10) rfl rfl (zr_8 S (f := 1) (by decide)) ?_
    refine zW.run 1 (pc' := 13) (ls' := [some (.ref 8), some (.int x1)]) (st' := [.int x1, .ref 10]) (σ' := (zN L X h R G nc ns)) (fun n => rfl) ?_
    refine zW.iald (v := h 10 (x1).toNatClampNeg) rfl rfl (Or.inl rfl) (zin_on c1) rfl ?_
    refine zW.run 1 (pc' := 18) (ls' := [some (.ref 8), some (.int x1)]) (st' := [.int (h 10 (x1).toNatClampNeg)]) (σ' := (zN L X h R G nc ns)) (fun n => rfl) ?_
    exact zW.iret rfl rfl (rfl) (by simp only [if_neg c1] at hQ; exact hQ)
def v_Ground_workOf (h : zH) (x1 : Int32) : Int32 := if (v_Ground_isOn h x1) = 0 then (-1) else (h 11 (x1).toNatClampNeg)
theorem b_Ground_workOf (S : zSR R) {x1 : Int32}  (hQ : Q (.inl (some (.int (v_Ground_workOf h x1)))) (zN L X h R G nc ns)) : zW ro 81 0 (zfst [.ref 8, .int x1] 2) [] (zN L X h R G nc ns) Q := by
  unfold v_Ground_workOf at hQ
  show zW ro 81 0 [some (.ref 8), some (.int x1)] [] (zN L X h R G nc ns) Q
  refine zW.run 2 (pc' := 2) (ls' := [some (.ref 8), some (.int x1)]) (st' := [.int x1, .ref 8]) (σ' := (zN L X h R G nc ns)) (fun n => rfl) ?_
  refine zW.callV rfl (by decide) rfl rfl rfl rfl rfl (Nat.le_of_ble_eq_true rfl) ?_
  refine b_Ground_isOn S  ?_
  show zW ro 81 5 [some (.ref 8), some (.int x1)] [.int (v_Ground_isOn h x1)] (zN L X h R G nc ns) Q
  refine zW.if_eq rfl (fun c1 => ?_) (fun c1 => ?_)
  · skip
    refine zW.run 1 (pc' := 18) (ls' := [some (.ref 8), some (.int x1)]) (st' := [.int (-1)]) (σ' := (zN L X h R G nc ns)) (fun n => rfl) ?_
    exact zW.iret rfl rfl (rfl) (by simp only [if_pos c1] at hQ; exact hQ)
  · skip
    refine zW.run 1 (pc' := 9) (ls' := [some (.ref 8), some (.int x1)]) (st' := [.ref 8]) (σ' := (zN L X h R G nc ns)) (fun n => rfl) ?_
    refine zW.getf (v := .ref 11) rfl rfl (zr_8 S (f := 2) (by decide)) ?_
    refine zW.run 1 (pc' := 13) (ls' := [some (.ref 8), some (.int x1)]) (st' := [.int x1, .ref 11]) (σ' := (zN L X h R G nc ns)) (fun n => rfl) ?_
    refine zW.iald (v := h 11 (x1).toNatClampNeg) rfl rfl (Or.inl rfl) (zin_on c1) rfl ?_
    refine zW.run 1 (pc' := 18) (ls' := [some (.ref 8), some (.int x1)]) (st' := [.int (h 11 (x1).toNatClampNeg)]) (σ' := (zN L X h R G nc ns)) (fun n => rfl) ?_
    exact zW.iret rfl rfl (rfl) (by simp only [if_neg c1] at hQ; exact hQ)
def v_Ground_firmOf (h : zH) (x1 : Int32) : Int32 := if (v_Ground_isOn h x1) = 0 then 0 else if (h 11 (x1).toNatClampNeg) = 1 then (h 12 (x1).toNatClampNeg) else 0
theorem b_Ground_firmOf (S : zSR R) {x1 : Int32}  (hQ : Q (.inl (some (.int (v_Ground_firmOf h x1)))) (zN L X h R G nc ns)) : zW ro 64 0 (zfst [.ref 8, .int x1] 2) [] (zN L X h R G nc ns) Q := by
  unfold v_Ground_firmOf at hQ
  show zW ro 64 0 [some (.ref 8), some (.int x1)] [] (zN L X h R G nc ns) Q
  refine zW.run 2 (pc' := 2) (ls' := [some (.ref 8), some (.int x1)]) (st' := [.int x1, .ref 8]) (σ' := (zN L X h R G nc ns)) (fun n => rfl) ?_
  refine zW.callV rfl (by decide) rfl rfl rfl rfl rfl (Nat.le_of_ble_eq_true rfl) ?_
  refine b_Ground_isOn S  ?_
  show zW ro 64 5 [some (.ref 8), some (.int x1)] [.int (v_Ground_isOn h x1)] (zN L X h R G nc ns) Q
  refine zW.if_eq rfl (fun c1 => ?_) (fun c1 => ?_)
  · skip
    refine zW.run 1 (pc' := 28) (ls' := [some (.ref 8), some (.int x1)]) (st' := [.int 0]) (σ' := (zN L X h R G nc ns)) (fun n => rfl) ?_
    exact zW.iret rfl rfl (rfl) (by simp only [if_pos c1] at hQ; exact hQ)
  · skip
    refine zW.run 1 (pc' := 9) (ls' := [some (.ref 8), some (.int x1)]) (st' := [.ref 8]) (σ' := (zN L X h R G nc ns)) (fun n => rfl) ?_
    refine zW.getf (v := .ref 11) rfl rfl (zr_8 S (f := 2) (by decide)) ?_
    refine zW.run 1 (pc' := 13) (ls' := [some (.ref 8), some (.int x1)]) (st' := [.int x1, .ref 11]) (σ' := (zN L X h R G nc ns)) (fun n => rfl) ?_
    refine zW.iald (v := h 11 (x1).toNatClampNeg) rfl rfl (Or.inl rfl) (zin_on c1) rfl ?_
    refine zW.run 1 (pc' := 15) (ls' := [some (.ref 8), some (.int x1)]) (st' := [.int 1, .int (h 11 (x1).toNatClampNeg)]) (σ' := (zN L X h R G nc ns)) (fun n => rfl) ?_
    refine zW.icmp_ne rfl (fun c2 => ?_) (fun c2 => ?_)
    · skip
      refine zW.run 1 (pc' := 28) (ls' := [some (.ref 8), some (.int x1)]) (st' := [.int 0]) (σ' := (zN L X h R G nc ns)) (fun n => rfl) ?_
      exact zW.iret rfl rfl (rfl) (by simp only [if_neg c1, if_neg c2] at hQ; exact hQ)
    · skip
      refine zW.run 1 (pc' := 19) (ls' := [some (.ref 8), some (.int x1)]) (st' := [.ref 8]) (σ' := (zN L X h R G nc ns)) (fun n => rfl) ?_
      refine zW.getf (v := .ref 12) rfl rfl (zr_8 S (f := 3) (by decide)) ?_
      refine zW.run 1 (pc' := 23) (ls' := [some (.ref 8), some (.int x1)]) (st' := [.int x1, .ref 12]) (σ' := (zN L X h R G nc ns)) (fun n => rfl) ?_
      refine zW.iald (v := h 12 (x1).toNatClampNeg) rfl rfl (Or.inl rfl) (zin_on c1) rfl ?_
      refine zW.run 1 (pc' := 28) (ls' := [some (.ref 8), some (.int x1)]) (st' := [.int (h 12 (x1).toNatClampNeg)]) (σ' := (zN L X h R G nc ns)) (fun n => rfl) ?_
      exact zW.iret rfl rfl (rfl) (by simp only [if_neg c1, if_pos c2] at hQ; exact hQ)
def v_Ground_toilOf (h : zH) (x1 : Int32) : Int32 := if (v_Ground_isOn h x1) = 0 then 0 else (h 13 (x1).toNatClampNeg)
theorem b_Ground_toilOf (S : zSR R) {x1 : Int32}  (hQ : Q (.inl (some (.int (v_Ground_toilOf h x1)))) (zN L X h R G nc ns)) : zW ro 77 0 (zfst [.ref 8, .int x1] 2) [] (zN L X h R G nc ns) Q := by
  unfold v_Ground_toilOf at hQ
  show zW ro 77 0 [some (.ref 8), some (.int x1)] [] (zN L X h R G nc ns) Q
  refine zW.run 2 (pc' := 2) (ls' := [some (.ref 8), some (.int x1)]) (st' := [.int x1, .ref 8]) (σ' := (zN L X h R G nc ns)) (fun n => rfl) ?_
  refine zW.callV rfl (by decide) rfl rfl rfl rfl rfl (Nat.le_of_ble_eq_true rfl) ?_
  refine b_Ground_isOn S  ?_
  show zW ro 77 5 [some (.ref 8), some (.int x1)] [.int (v_Ground_isOn h x1)] (zN L X h R G nc ns) Q
  refine zW.if_eq rfl (fun c1 => ?_) (fun c1 => ?_)
  · skip
    refine zW.run 1 (pc' := 18) (ls' := [some (.ref 8), some (.int x1)]) (st' := [.int 0]) (σ' := (zN L X h R G nc ns)) (fun n => rfl) ?_
    exact zW.iret rfl rfl (rfl) (by simp only [if_pos c1] at hQ; exact hQ)
  · skip
    refine zW.run 1 (pc' := 9) (ls' := [some (.ref 8), some (.int x1)]) (st' := [.ref 8]) (σ' := (zN L X h R G nc ns)) (fun n => rfl) ?_
    refine zW.getf (v := .ref 13) rfl rfl (zr_8 S (f := 4) (by decide)) ?_
    refine zW.run 1 (pc' := 13) (ls' := [some (.ref 8), some (.int x1)]) (st' := [.int x1, .ref 13]) (σ' := (zN L X h R G nc ns)) (fun n => rfl) ?_
    refine zW.iald (v := h 13 (x1).toNatClampNeg) rfl rfl (Or.inl rfl) (zin_on c1) rfl ?_
    refine zW.run 1 (pc' := 18) (ls' := [some (.ref 8), some (.int x1)]) (st' := [.int (h 13 (x1).toNatClampNeg)]) (σ' := (zN L X h R G nc ns)) (fun n => rfl) ?_
    exact zW.iret rfl rfl (rfl) (by simp only [if_neg c1] at hQ; exact hQ)
def v_Ground_belongsTo (h : zH) (x1 : Int32) : Int32 := if x1 < 0 then (-1) else if (h 8 11) ≤ x1 then (-1) else if x1 < 144 then if (h 11 (x1).toNatClampNeg) = 1 then 1 else if (h 11 (x1).toNatClampNeg) = 3 then 1 else if (h 11 (x1).toNatClampNeg) = 4 then 1 else if x1 = (h 8 13) then 1 else if (h 11 (x1).toNatClampNeg) = 5 then 0 else if x1 = (h 8 12) then 0 else (-1) else (-1)
theorem b_Ground_belongsTo (S : zSR R) {x1 : Int32}  (hQ : Q (.inl (some (.int (v_Ground_belongsTo h x1)))) (zN L X h R G nc ns)) : zW ro 58 0 (zfst [.ref 8, .int x1] 3) [] (zN L X h R G nc ns) Q := by
  unfold v_Ground_belongsTo at hQ
  show zW ro 58 0 [some (.ref 8), some (.int x1), none] [] (zN L X h R G nc ns) Q
  refine zW.run 1 (pc' := 1) (ls' := [some (.ref 8), some (.int x1), none]) (st' := [.int x1]) (σ' := (zN L X h R G nc ns)) (fun n => rfl) ?_
  refine zW.if_lt rfl (fun c1 => ?_) (fun c1 => ?_)
  · skip
    refine zW.run 1 (pc' := 20) (ls' := [some (.ref 8), some (.int x1), none]) (st' := [.int (-1)]) (σ' := (zN L X h R G nc ns)) (fun n => rfl) ?_
    exact zW.iret rfl rfl (rfl) (by simp only [if_pos c1] at hQ; exact hQ)
  · skip
    refine zW.run 3 (pc' := 9) (ls' := [some (.ref 8), some (.int x1), none]) (st' := [.int (h 8 11), .int x1]) (σ' := (zN L X h R G nc ns)) (fun n => rfl) ?_
    refine zW.icmp_ge rfl (fun c2 => ?_) (fun c2 => ?_)
    · skip
      refine zW.run 1 (pc' := 20) (ls' := [some (.ref 8), some (.int x1), none]) (st' := [.int (-1)]) (σ' := (zN L X h R G nc ns)) (fun n => rfl) ?_
      exact zW.iret rfl rfl (rfl) (by simp only [if_neg c1, if_pos c2] at hQ; exact hQ)
    · skip
      refine zW.run 2 (pc' := 16) (ls' := [some (.ref 8), some (.int x1), none]) (st' := [.int 144, .int x1]) (σ' := (zN L X h R G nc ns)) (fun n => rfl) ?_
      refine zW.icmp_lt rfl (fun c3 => ?_) (fun c3 => ?_)
      · skip
        refine zW.run 1 (pc' := 22) (ls' := [some (.ref 8), some (.int x1), none]) (st' := [.ref 8]) (σ' := (zN L X h R G nc ns)) (fun n => rfl) ?_
        refine zW.getf (v := .ref 11) rfl rfl (zr_8 S (f := 2) (by decide)) ?_
        refine zW.run 1 (pc' := 26) (ls' := [some (.ref 8), some (.int x1), none]) (st' := [.int x1, .ref 11]) (σ' := (zN L X h R G nc ns)) (fun n => rfl) ?_
        refine zW.iald (v := h 11 (x1).toNatClampNeg) rfl rfl (Or.inl rfl) (zin_lt c1 (znu c3) (by decide)) rfl ?_
        refine zW.run 3 (pc' := 30) (ls' := [some (.ref 8), some (.int x1), some (.int (h 11 (x1).toNatClampNeg))]) (st' := [.int 1, .int (h 11 (x1).toNatClampNeg)]) (σ' := (zN L X h R G nc ns)) (fun n => rfl) ?_
        refine zW.icmp_eq rfl (fun c4 => ?_) (fun c4 => ?_)
        · skip
          refine zW.run 1 (pc' := 52) (ls' := [some (.ref 8), some (.int x1), some (.int (h 11 (x1).toNatClampNeg))]) (st' := [.int 1]) (σ' := (zN L X h R G nc ns)) (fun n => rfl) ?_
          exact zW.iret rfl rfl (rfl) (by simp only [if_neg c1, if_neg c2, if_pos c3, if_pos c4] at hQ; exact hQ)
        · skip
          refine zW.run 2 (pc' := 35) (ls' := [some (.ref 8), some (.int x1), some (.int (h 11 (x1).toNatClampNeg))]) (st' := [.int 3, .int (h 11 (x1).toNatClampNeg)]) (σ' := (zN L X h R G nc ns)) (fun n => rfl) ?_
          refine zW.icmp_eq rfl (fun c5 => ?_) (fun c5 => ?_)
          · skip
            refine zW.run 1 (pc' := 52) (ls' := [some (.ref 8), some (.int x1), some (.int (h 11 (x1).toNatClampNeg))]) (st' := [.int 1]) (σ' := (zN L X h R G nc ns)) (fun n => rfl) ?_
            exact zW.iret rfl rfl (rfl) (by simp only [if_neg c1, if_neg c2, if_pos c3, if_neg c4, if_pos c5] at hQ; exact hQ)
          · skip
            refine zW.run 2 (pc' := 40) (ls' := [some (.ref 8), some (.int x1), some (.int (h 11 (x1).toNatClampNeg))]) (st' := [.int 4, .int (h 11 (x1).toNatClampNeg)]) (σ' := (zN L X h R G nc ns)) (fun n => rfl) ?_
            refine zW.icmp_eq rfl (fun c6 => ?_) (fun c6 => ?_)
            · skip
              refine zW.run 1 (pc' := 52) (ls' := [some (.ref 8), some (.int x1), some (.int (h 11 (x1).toNatClampNeg))]) (st' := [.int 1]) (σ' := (zN L X h R G nc ns)) (fun n => rfl) ?_
              exact zW.iret rfl rfl (rfl) (by simp only [if_neg c1, if_neg c2, if_pos c3, if_neg c4, if_neg c5, if_pos c6] at hQ; exact hQ)
            · skip
              refine zW.run 3 (pc' := 48) (ls' := [some (.ref 8), some (.int x1), some (.int (h 11 (x1).toNatClampNeg))]) (st' := [.int (h 8 13), .int x1]) (σ' := (zN L X h R G nc ns)) (fun n => rfl) ?_
              refine zW.icmp_ne rfl (fun c7 => ?_) (fun c7 => ?_)
              · skip
                refine zW.run 2 (pc' := 55) (ls' := [some (.ref 8), some (.int x1), some (.int (h 11 (x1).toNatClampNeg))]) (st' := [.int 5, .int (h 11 (x1).toNatClampNeg)]) (σ' := (zN L X h R G nc ns)) (fun n => rfl) ?_
                refine zW.icmp_eq rfl (fun c8 => ?_) (fun c8 => ?_)
                · skip
                  refine zW.run 2 (pc' := 71) (ls' := [some (.ref 8), some (.int x1), some (.int (h 11 (x1).toNatClampNeg))]) (st' := [.int 0]) (σ' := (zN L X h R G nc ns)) (fun n => rfl) ?_
                  exact zW.iret rfl rfl (rfl) (by simp only [if_neg c1, if_neg c2, if_pos c3, if_neg c4, if_neg c5, if_neg c6, if_neg c7, if_pos c8] at hQ; exact hQ)
                · skip
                  refine zW.run 3 (pc' := 63) (ls' := [some (.ref 8), some (.int x1), some (.int (h 11 (x1).toNatClampNeg))]) (st' := [.int (h 8 12), .int x1]) (σ' := (zN L X h R G nc ns)) (fun n => rfl) ?_
                  refine zW.icmp_ne rfl (fun c9 => ?_) (fun c9 => ?_)
                  · skip
                    refine zW.run 1 (pc' := 71) (ls' := [some (.ref 8), some (.int x1), some (.int (h 11 (x1).toNatClampNeg))]) (st' := [.int (-1)]) (σ' := (zN L X h R G nc ns)) (fun n => rfl) ?_
                    exact zW.iret rfl rfl (rfl) (by simp only [if_neg c1, if_neg c2, if_pos c3, if_neg c4, if_neg c5, if_neg c6, if_neg c7, if_neg c8, if_neg c9] at hQ; exact hQ)
                  · skip
                    refine zW.run 2 (pc' := 71) (ls' := [some (.ref 8), some (.int x1), some (.int (h 11 (x1).toNatClampNeg))]) (st' := [.int 0]) (σ' := (zN L X h R G nc ns)) (fun n => rfl) ?_
                    exact zW.iret rfl rfl (rfl) (by simp only [if_neg c1, if_neg c2, if_pos c3, if_neg c4, if_neg c5, if_neg c6, if_neg c7, if_neg c8, if_pos c9] at hQ; exact hQ)
              · skip
                refine zW.run 1 (pc' := 52) (ls' := [some (.ref 8), some (.int x1), some (.int (h 11 (x1).toNatClampNeg))]) (st' := [.int 1]) (σ' := (zN L X h R G nc ns)) (fun n => rfl) ?_
                exact zW.iret rfl rfl (rfl) (by simp only [if_neg c1, if_neg c2, if_pos c3, if_neg c4, if_neg c5, if_neg c6, if_pos c7] at hQ; exact hQ)
      · skip
        refine zW.run 1 (pc' := 20) (ls' := [some (.ref 8), some (.int x1), none]) (st' := [.int (-1)]) (σ' := (zN L X h R G nc ns)) (fun n => rfl) ?_
        exact zW.iret rfl rfl (rfl) (by simp only [if_neg c1, if_neg c2, if_neg c3] at hQ; exact hQ)
def v_Ground_bodyOverTop (h : zH) (x1 : Int32) : Int32 := if x1 < 0 then 1 else if (h 8 11) ≤ x1 then 1 else if 144 ≤ x1 then 1 else if (h 11 (x1).toNatClampNeg) = 5 then (-2) else 1
theorem b_Ground_bodyOverTop (S : zSR R) {x1 : Int32}  (hQ : Q (.inl (some (.int (v_Ground_bodyOverTop h x1)))) (zN L X h R G nc ns)) : zW ro 60 0 (zfst [.ref 8, .int x1] 2) [] (zN L X h R G nc ns) Q := by
  unfold v_Ground_bodyOverTop at hQ
  show zW ro 60 0 [some (.ref 8), some (.int x1)] [] (zN L X h R G nc ns) Q
  refine zW.run 1 (pc' := 1) (ls' := [some (.ref 8), some (.int x1)]) (st' := [.int x1]) (σ' := (zN L X h R G nc ns)) (fun n => rfl) ?_
  refine zW.if_lt rfl (fun c1 => ?_) (fun c1 => ?_)
  · skip
    refine zW.run 1 (pc' := 35) (ls' := [some (.ref 8), some (.int x1)]) (st' := [.int 1]) (σ' := (zN L X h R G nc ns)) (fun n => rfl) ?_
    exact zW.iret rfl rfl (rfl) (by simp only [if_pos c1] at hQ; exact hQ)
  · skip
    refine zW.run 3 (pc' := 9) (ls' := [some (.ref 8), some (.int x1)]) (st' := [.int (h 8 11), .int x1]) (σ' := (zN L X h R G nc ns)) (fun n => rfl) ?_
    refine zW.icmp_ge rfl (fun c2 => ?_) (fun c2 => ?_)
    · skip
      refine zW.run 1 (pc' := 35) (ls' := [some (.ref 8), some (.int x1)]) (st' := [.int 1]) (σ' := (zN L X h R G nc ns)) (fun n => rfl) ?_
      exact zW.iret rfl rfl (rfl) (by simp only [if_neg c1, if_pos c2] at hQ; exact hQ)
    · skip
      refine zW.run 2 (pc' := 16) (ls' := [some (.ref 8), some (.int x1)]) (st' := [.int 144, .int x1]) (σ' := (zN L X h R G nc ns)) (fun n => rfl) ?_
      refine zW.icmp_ge rfl (fun c3 => ?_) (fun c3 => ?_)
      · skip
        refine zW.run 1 (pc' := 35) (ls' := [some (.ref 8), some (.int x1)]) (st' := [.int 1]) (σ' := (zN L X h R G nc ns)) (fun n => rfl) ?_
        exact zW.iret rfl rfl (rfl) (by simp only [if_neg c1, if_neg c2, if_pos c3] at hQ; exact hQ)
      · skip
        refine zW.run 1 (pc' := 20) (ls' := [some (.ref 8), some (.int x1)]) (st' := [.ref 8]) (σ' := (zN L X h R G nc ns)) (fun n => rfl) ?_
        refine zW.getf (v := .ref 11) rfl rfl (zr_8 S (f := 2) (by decide)) ?_
        refine zW.run 1 (pc' := 24) (ls' := [some (.ref 8), some (.int x1)]) (st' := [.int x1, .ref 11]) (σ' := (zN L X h R G nc ns)) (fun n => rfl) ?_
        refine zW.iald (v := h 11 (x1).toNatClampNeg) rfl rfl (Or.inl rfl) (zin_lt c1 c3 (by decide)) rfl ?_
        refine zW.run 1 (pc' := 26) (ls' := [some (.ref 8), some (.int x1)]) (st' := [.int 5, .int (h 11 (x1).toNatClampNeg)]) (σ' := (zN L X h R G nc ns)) (fun n => rfl) ?_
        refine zW.icmp_ne rfl (fun c4 => ?_) (fun c4 => ?_)
        · skip
          refine zW.run 1 (pc' := 35) (ls' := [some (.ref 8), some (.int x1)]) (st' := [.int 1]) (σ' := (zN L X h R G nc ns)) (fun n => rfl) ?_
          exact zW.iret rfl rfl (rfl) (by simp only [if_neg c1, if_neg c2, if_neg c3, if_neg c4] at hQ; exact hQ)
        · skip
          refine zW.run 2 (pc' := 35) (ls' := [some (.ref 8), some (.int x1)]) (st' := [.int (-2)]) (σ' := (zN L X h R G nc ns)) (fun n => rfl) ?_
          exact zW.iret rfl rfl (rfl) (by simp only [if_neg c1, if_neg c2, if_neg c3, if_pos c4] at hQ; exact hQ)
def v_Ground_topOf (h : zH) (x1 : Int32) : Int32 := if x1 < 0 then 0 else if (h 8 11) ≤ x1 then 0 else if x1 < 144 then if (h 11 (x1).toNatClampNeg) = 1 then ((2 * (h 9 (x1).toNatClampNeg)) + 6) else if (h 11 (x1).toNatClampNeg) = 2 then ((2 * (h 9 (x1).toNatClampNeg)) - 4) else if (h 11 (x1).toNatClampNeg) = 3 then ((2 * (h 9 (x1).toNatClampNeg)) + 4) else if (h 11 (x1).toNatClampNeg) = 4 then ((2 * (h 9 (x1).toNatClampNeg)) + 2) else if (h 11 (x1).toNatClampNeg) = 5 then (2 * (h 9 (x1).toNatClampNeg)) else if (h 11 (x1).toNatClampNeg) = 6 then ((2 * (h 9 (x1).toNatClampNeg)) + 2) else if (h 11 (x1).toNatClampNeg) = 7 then ((2 * (h 9 (x1).toNatClampNeg)) - 2) else (2 * (h 9 (x1).toNatClampNeg)) else 0
theorem b_Ground_topOf (S : zSR R) {x1 : Int32}  (hQ : Q (.inl (some (.int (v_Ground_topOf h x1)))) (zN L X h R G nc ns)) : zW ro 78 0 (zfst [.ref 8, .int x1] 3) [] (zN L X h R G nc ns) Q := by
  unfold v_Ground_topOf at hQ
  show zW ro 78 0 [some (.ref 8), some (.int x1), none] [] (zN L X h R G nc ns) Q
  refine zW.run 1 (pc' := 1) (ls' := [some (.ref 8), some (.int x1), none]) (st' := [.int x1]) (σ' := (zN L X h R G nc ns)) (fun n => rfl) ?_
  refine zW.if_lt rfl (fun c1 => ?_) (fun c1 => ?_)
  · skip
    refine zW.run 1 (pc' := 20) (ls' := [some (.ref 8), some (.int x1), none]) (st' := [.int 0]) (σ' := (zN L X h R G nc ns)) (fun n => rfl) ?_
    exact zW.iret rfl rfl (rfl) (by simp only [if_pos c1] at hQ; exact hQ)
  · skip
    refine zW.run 3 (pc' := 9) (ls' := [some (.ref 8), some (.int x1), none]) (st' := [.int (h 8 11), .int x1]) (σ' := (zN L X h R G nc ns)) (fun n => rfl) ?_
    refine zW.icmp_ge rfl (fun c2 => ?_) (fun c2 => ?_)
    · skip
      refine zW.run 1 (pc' := 20) (ls' := [some (.ref 8), some (.int x1), none]) (st' := [.int 0]) (σ' := (zN L X h R G nc ns)) (fun n => rfl) ?_
      exact zW.iret rfl rfl (rfl) (by simp only [if_neg c1, if_pos c2] at hQ; exact hQ)
    · skip
      refine zW.run 2 (pc' := 16) (ls' := [some (.ref 8), some (.int x1), none]) (st' := [.int 144, .int x1]) (σ' := (zN L X h R G nc ns)) (fun n => rfl) ?_
      refine zW.icmp_lt rfl (fun c3 => ?_) (fun c3 => ?_)
      · skip
        refine zW.run 2 (pc' := 23) (ls' := [some (.ref 8), some (.int x1), none]) (st' := [.ref 8, .int 2]) (σ' := (zN L X h R G nc ns)) (fun n => rfl) ?_
        refine zW.getf (v := .ref 9) rfl rfl (zr_8 S (f := 0) (by decide)) ?_
        refine zW.run 1 (pc' := 27) (ls' := [some (.ref 8), some (.int x1), none]) (st' := [.int x1, .ref 9, .int 2]) (σ' := (zN L X h R G nc ns)) (fun n => rfl) ?_
        refine zW.iald (v := h 9 (x1).toNatClampNeg) rfl rfl (Or.inl rfl) (zin_lt c1 (znu c3) (by decide)) rfl ?_
        refine zW.run 3 (pc' := 31) (ls' := [some (.ref 8), some (.int x1), some (.int (2 * (h 9 (x1).toNatClampNeg)))]) (st' := [.ref 8]) (σ' := (zN L X h R G nc ns)) (fun n => rfl) ?_
        refine zW.getf (v := .ref 11) rfl rfl (zr_8 S (f := 2) (by decide)) ?_
        refine zW.run 1 (pc' := 35) (ls' := [some (.ref 8), some (.int x1), some (.int (2 * (h 9 (x1).toNatClampNeg)))]) (st' := [.int x1, .ref 11]) (σ' := (zN L X h R G nc ns)) (fun n => rfl) ?_
        refine zW.iald (v := h 11 (x1).toNatClampNeg) rfl rfl (Or.inl rfl) (zin_lt c1 (znu c3) (by decide)) rfl ?_
        refine zW.tab rfl (fun d9 => ?_) (fun j9 t9 e9 f9 => ?_) (by decide)
        · skip
          have c4 : ¬ (h 11 (x1).toNatClampNeg) = 1 := ztab_out d9 (by decide)
          have c5 : ¬ (h 11 (x1).toNatClampNeg) = 2 := ztab_out d9 (by decide)
          have c6 : ¬ (h 11 (x1).toNatClampNeg) = 3 := ztab_out d9 (by decide)
          have c7 : ¬ (h 11 (x1).toNatClampNeg) = 4 := ztab_out d9 (by decide)
          have c8 : ¬ (h 11 (x1).toNatClampNeg) = 5 := ztab_out d9 (by decide)
          have c9 : ¬ (h 11 (x1).toNatClampNeg) = 6 := ztab_out d9 (by decide)
          have c10 : ¬ (h 11 (x1).toNatClampNeg) = 7 := ztab_out d9 (by decide)
          refine zW.run 1 (pc' := 106) (ls' := [some (.ref 8), some (.int x1), some (.int (2 * (h 9 (x1).toNatClampNeg)))]) (st' := [.int (2 * (h 9 (x1).toNatClampNeg))]) (σ' := (zN L X h R G nc ns)) (fun n => rfl) ?_
          exact zW.iret rfl rfl (rfl) (by simp only [if_neg c1, if_neg c2, if_pos c3, if_neg c4, if_neg c5, if_neg c6, if_neg c7, if_neg c8, if_neg c9, if_neg c10] at hQ; exact hQ)
        · skip
          match j9, e9, f9 with
          | 0, e9, f9 =>
            cases f9
            have c4 : (h 11 (x1).toNatClampNeg) = 1 := ztab_in e9 (by decide)
            refine zW.run 3 (pc' := 84) (ls' := [some (.ref 8), some (.int x1), some (.int (2 * (h 9 (x1).toNatClampNeg)))]) (st' := [.int ((2 * (h 9 (x1).toNatClampNeg)) + 6)]) (σ' := (zN L X h R G nc ns)) (fun n => rfl) ?_
            exact zW.iret rfl rfl (rfl) (by simp only [if_neg c1, if_neg c2, if_pos c3, if_pos c4] at hQ; exact hQ)
          | 1, e9, f9 =>
            cases f9
            have c5 : (h 11 (x1).toNatClampNeg) = 2 := ztab_in e9 (by decide)
            have c4 : ¬ (h 11 (x1).toNatClampNeg) = 1 := by rw [c5]; decide
            refine zW.run 3 (pc' := 100) (ls' := [some (.ref 8), some (.int x1), some (.int (2 * (h 9 (x1).toNatClampNeg)))]) (st' := [.int ((2 * (h 9 (x1).toNatClampNeg)) - 4)]) (σ' := (zN L X h R G nc ns)) (fun n => rfl) ?_
            exact zW.iret rfl rfl (rfl) (by simp only [if_neg c1, if_neg c2, if_pos c3, if_neg c4, if_pos c5] at hQ; exact hQ)
          | 2, e9, f9 =>
            cases f9
            have c6 : (h 11 (x1).toNatClampNeg) = 3 := ztab_in e9 (by decide)
            have c4 : ¬ (h 11 (x1).toNatClampNeg) = 1 := by rw [c6]; decide
            have c5 : ¬ (h 11 (x1).toNatClampNeg) = 2 := by rw [c6]; decide
            refine zW.run 3 (pc' := 88) (ls' := [some (.ref 8), some (.int x1), some (.int (2 * (h 9 (x1).toNatClampNeg)))]) (st' := [.int ((2 * (h 9 (x1).toNatClampNeg)) + 4)]) (σ' := (zN L X h R G nc ns)) (fun n => rfl) ?_
            exact zW.iret rfl rfl (rfl) (by simp only [if_neg c1, if_neg c2, if_pos c3, if_neg c4, if_neg c5, if_pos c6] at hQ; exact hQ)
          | 3, e9, f9 =>
            cases f9
            have c7 : (h 11 (x1).toNatClampNeg) = 4 := ztab_in e9 (by decide)
            have c4 : ¬ (h 11 (x1).toNatClampNeg) = 1 := by rw [c7]; decide
            have c5 : ¬ (h 11 (x1).toNatClampNeg) = 2 := by rw [c7]; decide
            have c6 : ¬ (h 11 (x1).toNatClampNeg) = 3 := by rw [c7]; decide
            refine zW.run 3 (pc' := 96) (ls' := [some (.ref 8), some (.int x1), some (.int (2 * (h 9 (x1).toNatClampNeg)))]) (st' := [.int ((2 * (h 9 (x1).toNatClampNeg)) + 2)]) (σ' := (zN L X h R G nc ns)) (fun n => rfl) ?_
            exact zW.iret rfl rfl (rfl) (by simp only [if_neg c1, if_neg c2, if_pos c3, if_neg c4, if_neg c5, if_neg c6, if_pos c7] at hQ; exact hQ)
          | 4, e9, f9 =>
            cases f9
            have c8 : (h 11 (x1).toNatClampNeg) = 5 := ztab_in e9 (by decide)
            have c4 : ¬ (h 11 (x1).toNatClampNeg) = 1 := by rw [c8]; decide
            have c5 : ¬ (h 11 (x1).toNatClampNeg) = 2 := by rw [c8]; decide
            have c6 : ¬ (h 11 (x1).toNatClampNeg) = 3 := by rw [c8]; decide
            have c7 : ¬ (h 11 (x1).toNatClampNeg) = 4 := by rw [c8]; decide
            refine zW.run 1 (pc' := 106) (ls' := [some (.ref 8), some (.int x1), some (.int (2 * (h 9 (x1).toNatClampNeg)))]) (st' := [.int (2 * (h 9 (x1).toNatClampNeg))]) (σ' := (zN L X h R G nc ns)) (fun n => rfl) ?_
            exact zW.iret rfl rfl (rfl) (by simp only [if_neg c1, if_neg c2, if_pos c3, if_neg c4, if_neg c5, if_neg c6, if_neg c7, if_pos c8] at hQ; exact hQ)
          | 5, e9, f9 =>
            cases f9
            have c9 : (h 11 (x1).toNatClampNeg) = 6 := ztab_in e9 (by decide)
            have c4 : ¬ (h 11 (x1).toNatClampNeg) = 1 := by rw [c9]; decide
            have c5 : ¬ (h 11 (x1).toNatClampNeg) = 2 := by rw [c9]; decide
            have c6 : ¬ (h 11 (x1).toNatClampNeg) = 3 := by rw [c9]; decide
            have c7 : ¬ (h 11 (x1).toNatClampNeg) = 4 := by rw [c9]; decide
            have c8 : ¬ (h 11 (x1).toNatClampNeg) = 5 := by rw [c9]; decide
            refine zW.run 3 (pc' := 92) (ls' := [some (.ref 8), some (.int x1), some (.int (2 * (h 9 (x1).toNatClampNeg)))]) (st' := [.int ((2 * (h 9 (x1).toNatClampNeg)) + 2)]) (σ' := (zN L X h R G nc ns)) (fun n => rfl) ?_
            exact zW.iret rfl rfl (rfl) (by simp only [if_neg c1, if_neg c2, if_pos c3, if_neg c4, if_neg c5, if_neg c6, if_neg c7, if_neg c8, if_pos c9] at hQ; exact hQ)
          | 6, e9, f9 =>
            cases f9
            have c10 : (h 11 (x1).toNatClampNeg) = 7 := ztab_in e9 (by decide)
            have c4 : ¬ (h 11 (x1).toNatClampNeg) = 1 := by rw [c10]; decide
            have c5 : ¬ (h 11 (x1).toNatClampNeg) = 2 := by rw [c10]; decide
            have c6 : ¬ (h 11 (x1).toNatClampNeg) = 3 := by rw [c10]; decide
            have c7 : ¬ (h 11 (x1).toNatClampNeg) = 4 := by rw [c10]; decide
            have c8 : ¬ (h 11 (x1).toNatClampNeg) = 5 := by rw [c10]; decide
            have c9 : ¬ (h 11 (x1).toNatClampNeg) = 6 := by rw [c10]; decide
            refine zW.run 3 (pc' := 104) (ls' := [some (.ref 8), some (.int x1), some (.int (2 * (h 9 (x1).toNatClampNeg)))]) (st' := [.int ((2 * (h 9 (x1).toNatClampNeg)) - 2)]) (σ' := (zN L X h R G nc ns)) (fun n => rfl) ?_
            exact zW.iret rfl rfl (rfl) (by simp only [if_neg c1, if_neg c2, if_pos c3, if_neg c4, if_neg c5, if_neg c6, if_neg c7, if_neg c8, if_neg c9, if_pos c10] at hQ; exact hQ)
          | n9 + 7, e9, f9 => cases f9
      · skip
        refine zW.run 1 (pc' := 20) (ls' := [some (.ref 8), some (.int x1), none]) (st' := [.int 0]) (σ' := (zN L X h R G nc ns)) (fun n => rfl) ?_
        exact zW.iret rfl rfl (rfl) (by simp only [if_neg c1, if_neg c2, if_neg c3] at hQ; exact hQ)
def v_Ground_bodyOf (h : zH) (x1 : Int32) : Int32 := ((v_Ground_topOf h x1) + (v_Ground_bodyOverTop h x1))
theorem b_Ground_bodyOf (S : zSR R) {x1 : Int32}  (hQ : Q (.inl (some (.int (v_Ground_bodyOf h x1)))) (zN L X h R G nc ns)) : zW ro 59 0 (zfst [.ref 8, .int x1] 2) [] (zN L X h R G nc ns) Q := by
  show zW ro 59 0 [some (.ref 8), some (.int x1)] [] (zN L X h R G nc ns) Q
  refine zW.run 2 (pc' := 2) (ls' := [some (.ref 8), some (.int x1)]) (st' := [.int x1, .ref 8]) (σ' := (zN L X h R G nc ns)) (fun n => rfl) ?_
  refine zW.callV rfl (by decide) rfl rfl rfl rfl rfl (Nat.le_of_ble_eq_true rfl) ?_
  refine b_Ground_topOf S  ?_
  show zW ro 59 5 [some (.ref 8), some (.int x1)] [.int (v_Ground_topOf h x1)] (zN L X h R G nc ns) Q
  refine zW.run 2 (pc' := 7) (ls' := [some (.ref 8), some (.int x1)]) (st' := [.int x1, .ref 8, .int (v_Ground_topOf h x1)]) (σ' := (zN L X h R G nc ns)) (fun n => rfl) ?_
  refine zW.callV rfl (by decide) rfl rfl rfl rfl rfl (Nat.le_of_ble_eq_true rfl) ?_
  refine b_Ground_bodyOverTop S  ?_
  show zW ro 59 10 [some (.ref 8), some (.int x1)] [.int (v_Ground_bodyOverTop h x1), .int (v_Ground_topOf h x1)] (zN L X h R G nc ns) Q
  refine zW.run 1 (pc' := 11) (ls' := [some (.ref 8), some (.int x1)]) (st' := [.int ((v_Ground_topOf h x1) + (v_Ground_bodyOverTop h x1))]) (σ' := (zN L X h R G nc ns)) (fun n => rfl) ?_
  exact zW.iret rfl rfl (rfl) hQ
def v_Ground_next (h : zH) (x1 : Int32) (x2 : Int32) : Int32 := if x1 < 0 then (-1) else if (h 8 11) ≤ x1 then (-1) else if x1 < 144 then if x2 = 0 then if (h 15 (x1).toNatClampNeg) ≤ 0 then (-1) else (x1 - (h 8 9)) else if x2 = 1 then if ((h 8 9) - 1) ≤ (h 14 (x1).toNatClampNeg) then (-1) else (x1 + 1) else if x2 = 2 then if ((h 8 10) - 1) ≤ (h 15 (x1).toNatClampNeg) then (-1) else (x1 + (h 8 9)) else if (h 14 (x1).toNatClampNeg) ≤ 0 then (-1) else (x1 - 1) else (-1)
theorem b_Ground_next (S : zSR R) {x1 : Int32} {x2 : Int32}  (hQ : Q (.inl (some (.int (v_Ground_next h x1 x2)))) (zN L X h R G nc ns)) : zW ro 71 0 (zfst [.ref 8, .int x1, .int x2] 3) [] (zN L X h R G nc ns) Q := by
  unfold v_Ground_next at hQ
  show zW ro 71 0 [some (.ref 8), some (.int x1), some (.int x2)] [] (zN L X h R G nc ns) Q
  refine zW.run 1 (pc' := 1) (ls' := [some (.ref 8), some (.int x1), some (.int x2)]) (st' := [.int x1]) (σ' := (zN L X h R G nc ns)) (fun n => rfl) ?_
  refine zW.if_lt rfl (fun c1 => ?_) (fun c1 => ?_)
  · skip
    refine zW.run 1 (pc' := 20) (ls' := [some (.ref 8), some (.int x1), some (.int x2)]) (st' := [.int (-1)]) (σ' := (zN L X h R G nc ns)) (fun n => rfl) ?_
    exact zW.iret rfl rfl (rfl) (by simp only [if_pos c1] at hQ; exact hQ)
  · skip
    refine zW.run 3 (pc' := 9) (ls' := [some (.ref 8), some (.int x1), some (.int x2)]) (st' := [.int (h 8 11), .int x1]) (σ' := (zN L X h R G nc ns)) (fun n => rfl) ?_
    refine zW.icmp_ge rfl (fun c2 => ?_) (fun c2 => ?_)
    · skip
      refine zW.run 1 (pc' := 20) (ls' := [some (.ref 8), some (.int x1), some (.int x2)]) (st' := [.int (-1)]) (σ' := (zN L X h R G nc ns)) (fun n => rfl) ?_
      exact zW.iret rfl rfl (rfl) (by simp only [if_neg c1, if_pos c2] at hQ; exact hQ)
    · skip
      refine zW.run 2 (pc' := 16) (ls' := [some (.ref 8), some (.int x1), some (.int x2)]) (st' := [.int 144, .int x1]) (σ' := (zN L X h R G nc ns)) (fun n => rfl) ?_
      refine zW.icmp_lt rfl (fun c3 => ?_) (fun c3 => ?_)
      · skip
        refine zW.run 1 (pc' := 22) (ls' := [some (.ref 8), some (.int x1), some (.int x2)]) (st' := [.int x2]) (σ' := (zN L X h R G nc ns)) (fun n => rfl) ?_
        refine zW.tab rfl (fun d9 => ?_) (fun j9 t9 e9 f9 => ?_) (by decide)
        · skip
          have c4 : ¬ x2 = 0 := ztab_out d9 (by decide)
          have c5 : ¬ x2 = 1 := ztab_out d9 (by decide)
          have c6 : ¬ x2 = 2 := ztab_out d9 (by decide)
          refine zW.run 1 (pc' := 118) (ls' := [some (.ref 8), some (.int x1), some (.int x2)]) (st' := [.ref 8]) (σ' := (zN L X h R G nc ns)) (fun n => rfl) ?_
          refine zW.getf (v := .ref 14) rfl rfl (zr_8 S (f := 5) (by decide)) ?_
          refine zW.run 1 (pc' := 122) (ls' := [some (.ref 8), some (.int x1), some (.int x2)]) (st' := [.int x1, .ref 14]) (σ' := (zN L X h R G nc ns)) (fun n => rfl) ?_
          refine zW.iald (v := h 14 (x1).toNatClampNeg) rfl rfl (Or.inl rfl) (zin_lt c1 (znu c3) (by decide)) rfl ?_
          refine zW.if_le rfl (fun c7 => ?_) (fun c7 => ?_)
          · skip
            refine zW.run 1 (pc' := 133) (ls' := [some (.ref 8), some (.int x1), some (.int x2)]) (st' := [.int (-1)]) (σ' := (zN L X h R G nc ns)) (fun n => rfl) ?_
            exact zW.iret rfl rfl (rfl) (by simp only [if_neg c1, if_neg c2, if_pos c3, if_neg c4, if_neg c5, if_neg c6, if_pos c7] at hQ; exact hQ)
          · skip
            refine zW.run 4 (pc' := 133) (ls' := [some (.ref 8), some (.int x1), some (.int x2)]) (st' := [.int (x1 - 1)]) (σ' := (zN L X h R G nc ns)) (fun n => rfl) ?_
            exact zW.iret rfl rfl (rfl) (by simp only [if_neg c1, if_neg c2, if_pos c3, if_neg c4, if_neg c5, if_neg c6, if_neg c7] at hQ; exact hQ)
        · skip
          match j9, e9, f9 with
          | 0, e9, f9 =>
            cases f9
            have c4 : x2 = 0 := ztab_in e9 (by decide)
            refine zW.run 1 (pc' := 49) (ls' := [some (.ref 8), some (.int x1), some (.int x2)]) (st' := [.ref 8]) (σ' := (zN L X h R G nc ns)) (fun n => rfl) ?_
            refine zW.getf (v := .ref 15) rfl rfl (zr_8 S (f := 6) (by decide)) ?_
            refine zW.run 1 (pc' := 53) (ls' := [some (.ref 8), some (.int x1), some (.int x2)]) (st' := [.int x1, .ref 15]) (σ' := (zN L X h R G nc ns)) (fun n => rfl) ?_
            refine zW.iald (v := h 15 (x1).toNatClampNeg) rfl rfl (Or.inl rfl) (zin_lt c1 (znu c3) (by decide)) rfl ?_
            refine zW.if_le rfl (fun c5 => ?_) (fun c5 => ?_)
            · skip
              refine zW.run 1 (pc' := 67) (ls' := [some (.ref 8), some (.int x1), some (.int x2)]) (st' := [.int (-1)]) (σ' := (zN L X h R G nc ns)) (fun n => rfl) ?_
              exact zW.iret rfl rfl (rfl) (by simp only [if_neg c1, if_neg c2, if_pos c3, if_pos c4, if_pos c5] at hQ; exact hQ)
            · skip
              refine zW.run 5 (pc' := 67) (ls' := [some (.ref 8), some (.int x1), some (.int x2)]) (st' := [.int (x1 - (h 8 9))]) (σ' := (zN L X h R G nc ns)) (fun n => rfl) ?_
              exact zW.iret rfl rfl (rfl) (by simp only [if_neg c1, if_neg c2, if_pos c3, if_pos c4, if_neg c5] at hQ; exact hQ)
          | 1, e9, f9 =>
            cases f9
            have c5 : x2 = 1 := ztab_in e9 (by decide)
            have c4 : ¬ x2 = 0 := by rw [c5]; decide
            refine zW.run 1 (pc' := 69) (ls' := [some (.ref 8), some (.int x1), some (.int x2)]) (st' := [.ref 8]) (σ' := (zN L X h R G nc ns)) (fun n => rfl) ?_
            refine zW.getf (v := .ref 14) rfl rfl (zr_8 S (f := 5) (by decide)) ?_
            refine zW.run 1 (pc' := 73) (ls' := [some (.ref 8), some (.int x1), some (.int x2)]) (st' := [.int x1, .ref 14]) (σ' := (zN L X h R G nc ns)) (fun n => rfl) ?_
            refine zW.iald (v := h 14 (x1).toNatClampNeg) rfl rfl (Or.inl rfl) (zin_lt c1 (znu c3) (by decide)) rfl ?_
            refine zW.run 4 (pc' := 80) (ls' := [some (.ref 8), some (.int x1), some (.int x2)]) (st' := [.int ((h 8 9) - 1), .int (h 14 (x1).toNatClampNeg)]) (σ' := (zN L X h R G nc ns)) (fun n => rfl) ?_
            refine zW.icmp_ge rfl (fun c6 => ?_) (fun c6 => ?_)
            · skip
              refine zW.run 1 (pc' := 90) (ls' := [some (.ref 8), some (.int x1), some (.int x2)]) (st' := [.int (-1)]) (σ' := (zN L X h R G nc ns)) (fun n => rfl) ?_
              exact zW.iret rfl rfl (rfl) (by simp only [if_neg c1, if_neg c2, if_pos c3, if_neg c4, if_pos c5, if_pos c6] at hQ; exact hQ)
            · skip
              refine zW.run 4 (pc' := 90) (ls' := [some (.ref 8), some (.int x1), some (.int x2)]) (st' := [.int (x1 + 1)]) (σ' := (zN L X h R G nc ns)) (fun n => rfl) ?_
              exact zW.iret rfl rfl (rfl) (by simp only [if_neg c1, if_neg c2, if_pos c3, if_neg c4, if_pos c5, if_neg c6] at hQ; exact hQ)
          | 2, e9, f9 =>
            cases f9
            have c6 : x2 = 2 := ztab_in e9 (by decide)
            have c4 : ¬ x2 = 0 := by rw [c6]; decide
            have c5 : ¬ x2 = 1 := by rw [c6]; decide
            refine zW.run 1 (pc' := 92) (ls' := [some (.ref 8), some (.int x1), some (.int x2)]) (st' := [.ref 8]) (σ' := (zN L X h R G nc ns)) (fun n => rfl) ?_
            refine zW.getf (v := .ref 15) rfl rfl (zr_8 S (f := 6) (by decide)) ?_
            refine zW.run 1 (pc' := 96) (ls' := [some (.ref 8), some (.int x1), some (.int x2)]) (st' := [.int x1, .ref 15]) (σ' := (zN L X h R G nc ns)) (fun n => rfl) ?_
            refine zW.iald (v := h 15 (x1).toNatClampNeg) rfl rfl (Or.inl rfl) (zin_lt c1 (znu c3) (by decide)) rfl ?_
            refine zW.run 4 (pc' := 103) (ls' := [some (.ref 8), some (.int x1), some (.int x2)]) (st' := [.int ((h 8 10) - 1), .int (h 15 (x1).toNatClampNeg)]) (σ' := (zN L X h R G nc ns)) (fun n => rfl) ?_
            refine zW.icmp_ge rfl (fun c7 => ?_) (fun c7 => ?_)
            · skip
              refine zW.run 1 (pc' := 116) (ls' := [some (.ref 8), some (.int x1), some (.int x2)]) (st' := [.int (-1)]) (σ' := (zN L X h R G nc ns)) (fun n => rfl) ?_
              exact zW.iret rfl rfl (rfl) (by simp only [if_neg c1, if_neg c2, if_pos c3, if_neg c4, if_neg c5, if_pos c6, if_pos c7] at hQ; exact hQ)
            · skip
              refine zW.run 5 (pc' := 116) (ls' := [some (.ref 8), some (.int x1), some (.int x2)]) (st' := [.int (x1 + (h 8 9))]) (σ' := (zN L X h R G nc ns)) (fun n => rfl) ?_
              exact zW.iret rfl rfl (rfl) (by simp only [if_neg c1, if_neg c2, if_pos c3, if_neg c4, if_neg c5, if_pos c6, if_neg c7] at hQ; exact hQ)
          | n9 + 3, e9, f9 => cases f9
      · skip
        refine zW.run 1 (pc' := 20) (ls' := [some (.ref 8), some (.int x1), some (.int x2)]) (st' := [.int (-1)]) (σ' := (zN L X h R G nc ns)) (fun n => rfl) ?_
        exact zW.iret rfl rfl (rfl) (by simp only [if_neg c1, if_neg c2, if_neg c3] at hQ; exact hQ)
def v_Ground_soilBy (h : zH) (x1 : Int32) : Int32 := if 6 ≤ x1 then if 8 ≤ x1 then if x1 = 8 then 2 else 3 else 1 else 0
theorem b_Ground_soilBy (S : zSR R) {x1 : Int32}  (hQ : Q (.inl (some (.int (v_Ground_soilBy h x1)))) (zN L X h R G nc ns)) : zW ro 75 0 (zfst [.int x1] 1) [] (zN L X h R G nc ns) Q := by
  unfold v_Ground_soilBy at hQ
  show zW ro 75 0 [some (.int x1)] [] (zN L X h R G nc ns) Q
  refine zW.run 2 (pc' := 3) (ls' := [some (.int x1)]) (st' := [.int 6, .int x1]) (σ' := (zN L X h R G nc ns)) (fun n => rfl) ?_
  refine zW.icmp_ge rfl (fun c1 => ?_) (fun c1 => ?_)
  · skip
    refine zW.run 2 (pc' := 11) (ls' := [some (.int x1)]) (st' := [.int 8, .int x1]) (σ' := (zN L X h R G nc ns)) (fun n => rfl) ?_
    refine zW.icmp_ge rfl (fun c2 => ?_) (fun c2 => ?_)
    · skip
      refine zW.run 2 (pc' := 21) (ls' := [some (.int x1)]) (st' := [.int 8, .int x1]) (σ' := (zN L X h R G nc ns)) (fun n => rfl) ?_
      refine zW.icmp_ne rfl (fun c3 => ?_) (fun c3 => ?_)
      · skip
        refine zW.run 1 (pc' := 29) (ls' := [some (.int x1)]) (st' := [.int 3]) (σ' := (zN L X h R G nc ns)) (fun n => rfl) ?_
        exact zW.iret rfl rfl (rfl) (by simp only [if_pos c1, if_pos c2, if_neg c3] at hQ; exact hQ)
      · skip
        refine zW.run 2 (pc' := 29) (ls' := [some (.int x1)]) (st' := [.int 2]) (σ' := (zN L X h R G nc ns)) (fun n => rfl) ?_
        exact zW.iret rfl rfl (rfl) (by simp only [if_pos c1, if_pos c2, if_pos c3] at hQ; exact hQ)
    · skip
      refine zW.run 2 (pc' := 29) (ls' := [some (.int x1)]) (st' := [.int 1]) (σ' := (zN L X h R G nc ns)) (fun n => rfl) ?_
      exact zW.iret rfl rfl (rfl) (by simp only [if_pos c1, if_neg c2] at hQ; exact hQ)
  · skip
    refine zW.run 1 (pc' := 7) (ls' := [some (.int x1)]) (st' := [.int 0]) (σ' := (zN L X h R G nc ns)) (fun n => rfl) ?_
    exact zW.iret rfl rfl (rfl) (by simp only [if_neg c1] at hQ; exact hQ)
def v_Ground_far (h : zH) (x1 : Int32) (x2 : Int32) : Int32 := if (v_Ground_isOn h x1) = 0 then 144 else if (v_Ground_isOn h x2) = 0 then 144 else if (v_Math_abs h ((h 14 (x1).toNatClampNeg) - (h 14 (x2).toNatClampNeg))) ≤ (v_Math_abs h ((h 15 (x1).toNatClampNeg) - (h 15 (x2).toNatClampNeg))) then (v_Math_abs h ((h 15 (x1).toNatClampNeg) - (h 15 (x2).toNatClampNeg))) else (v_Math_abs h ((h 14 (x1).toNatClampNeg) - (h 14 (x2).toNatClampNeg)))
theorem b_Ground_far (S : zSR R) {x1 : Int32} {x2 : Int32}  (hQ : Q (.inl (some (.int (v_Ground_far h x1 x2)))) (zN L X h R G nc ns)) : zW ro 63 0 (zfst [.ref 8, .int x1, .int x2] 5) [] (zN L X h R G nc ns) Q := by
  unfold v_Ground_far at hQ
  show zW ro 63 0 [some (.ref 8), some (.int x1), some (.int x2), none, none] [] (zN L X h R G nc ns) Q
  refine zW.run 2 (pc' := 2) (ls' := [some (.ref 8), some (.int x1), some (.int x2), none, none]) (st' := [.int x1, .ref 8]) (σ' := (zN L X h R G nc ns)) (fun n => rfl) ?_
  refine zW.callV rfl (by decide) rfl rfl rfl rfl rfl (Nat.le_of_ble_eq_true rfl) ?_
  refine b_Ground_isOn S  ?_
  show zW ro 63 5 [some (.ref 8), some (.int x1), some (.int x2), none, none] [.int (v_Ground_isOn h x1)] (zN L X h R G nc ns) Q
  refine zW.if_eq rfl (fun c1 => ?_) (fun c1 => ?_)
  · skip
    refine zW.run 1 (pc' := 19) (ls' := [some (.ref 8), some (.int x1), some (.int x2), none, none]) (st' := [.int 144]) (σ' := (zN L X h R G nc ns)) (fun n => rfl) ?_
    exact zW.iret rfl rfl (rfl) (by simp only [if_pos c1] at hQ; exact hQ)
  · skip
    refine zW.run 2 (pc' := 10) (ls' := [some (.ref 8), some (.int x1), some (.int x2), none, none]) (st' := [.int x2, .ref 8]) (σ' := (zN L X h R G nc ns)) (fun n => rfl) ?_
    refine zW.callV rfl (by decide) rfl rfl rfl rfl rfl (Nat.le_of_ble_eq_true rfl) ?_
    refine b_Ground_isOn S  ?_
    show zW ro 63 13 [some (.ref 8), some (.int x1), some (.int x2), none, none] [.int (v_Ground_isOn h x2)] (zN L X h R G nc ns) Q
    refine zW.if_ne rfl (fun c2 => ?_) (fun c2 => ?_)
    · skip
      refine zW.run 1 (pc' := 21) (ls' := [some (.ref 8), some (.int x1), some (.int x2), none, none]) (st' := [.ref 8]) (σ' := (zN L X h R G nc ns)) (fun n => rfl) ?_
      refine zW.getf (v := .ref 14) rfl rfl (zr_8 S (f := 5) (by decide)) ?_
      refine zW.run 1 (pc' := 25) (ls' := [some (.ref 8), some (.int x1), some (.int x2), none, none]) (st' := [.int x1, .ref 14]) (σ' := (zN L X h R G nc ns)) (fun n => rfl) ?_
      refine zW.iald (v := h 14 (x1).toNatClampNeg) rfl rfl (Or.inl rfl) (zin_on c1) rfl ?_
      refine zW.run 1 (pc' := 27) (ls' := [some (.ref 8), some (.int x1), some (.int x2), none, none]) (st' := [.ref 8, .int (h 14 (x1).toNatClampNeg)]) (σ' := (zN L X h R G nc ns)) (fun n => rfl) ?_
      refine zW.getf (v := .ref 14) rfl rfl (zr_8 S (f := 5) (by decide)) ?_
      refine zW.run 1 (pc' := 31) (ls' := [some (.ref 8), some (.int x1), some (.int x2), none, none]) (st' := [.int x2, .ref 14, .int (h 14 (x1).toNatClampNeg)]) (σ' := (zN L X h R G nc ns)) (fun n => rfl) ?_
      refine zW.iald (v := h 14 (x2).toNatClampNeg) rfl rfl (Or.inl rfl) (zin_on c2) rfl ?_
      refine zW.run 1 (pc' := 33) (ls' := [some (.ref 8), some (.int x1), some (.int x2), none, none]) (st' := [.int ((h 14 (x1).toNatClampNeg) - (h 14 (x2).toNatClampNeg))]) (σ' := (zN L X h R G nc ns)) (fun n => rfl) ?_
      refine zW.callS rfl rfl rfl rfl rfl (Nat.le_of_ble_eq_true rfl) ?_
      refine b_Math_abs S  ?_
      show zW ro 63 36 [some (.ref 8), some (.int x1), some (.int x2), none, none] [.int (v_Math_abs h ((h 14 (x1).toNatClampNeg) - (h 14 (x2).toNatClampNeg)))] (zN L X h R G nc ns) Q
      refine zW.run 2 (pc' := 38) (ls' := [some (.ref 8), some (.int x1), some (.int x2), some (.int (v_Math_abs h ((h 14 (x1).toNatClampNeg) - (h 14 (x2).toNatClampNeg)))), none]) (st' := [.ref 8]) (σ' := (zN L X h R G nc ns)) (fun n => rfl) ?_
      refine zW.getf (v := .ref 15) rfl rfl (zr_8 S (f := 6) (by decide)) ?_
      refine zW.run 1 (pc' := 42) (ls' := [some (.ref 8), some (.int x1), some (.int x2), some (.int (v_Math_abs h ((h 14 (x1).toNatClampNeg) - (h 14 (x2).toNatClampNeg)))), none]) (st' := [.int x1, .ref 15]) (σ' := (zN L X h R G nc ns)) (fun n => rfl) ?_
      refine zW.iald (v := h 15 (x1).toNatClampNeg) rfl rfl (Or.inl rfl) (zin_on c1) rfl ?_
      refine zW.run 1 (pc' := 44) (ls' := [some (.ref 8), some (.int x1), some (.int x2), some (.int (v_Math_abs h ((h 14 (x1).toNatClampNeg) - (h 14 (x2).toNatClampNeg)))), none]) (st' := [.ref 8, .int (h 15 (x1).toNatClampNeg)]) (σ' := (zN L X h R G nc ns)) (fun n => rfl) ?_
      refine zW.getf (v := .ref 15) rfl rfl (zr_8 S (f := 6) (by decide)) ?_
      refine zW.run 1 (pc' := 48) (ls' := [some (.ref 8), some (.int x1), some (.int x2), some (.int (v_Math_abs h ((h 14 (x1).toNatClampNeg) - (h 14 (x2).toNatClampNeg)))), none]) (st' := [.int x2, .ref 15, .int (h 15 (x1).toNatClampNeg)]) (σ' := (zN L X h R G nc ns)) (fun n => rfl) ?_
      refine zW.iald (v := h 15 (x2).toNatClampNeg) rfl rfl (Or.inl rfl) (zin_on c2) rfl ?_
      refine zW.run 1 (pc' := 50) (ls' := [some (.ref 8), some (.int x1), some (.int x2), some (.int (v_Math_abs h ((h 14 (x1).toNatClampNeg) - (h 14 (x2).toNatClampNeg)))), none]) (st' := [.int ((h 15 (x1).toNatClampNeg) - (h 15 (x2).toNatClampNeg))]) (σ' := (zN L X h R G nc ns)) (fun n => rfl) ?_
      refine zW.callS rfl rfl rfl rfl rfl (Nat.le_of_ble_eq_true rfl) ?_
      refine b_Math_abs S  ?_
      show zW ro 63 53 [some (.ref 8), some (.int x1), some (.int x2), some (.int (v_Math_abs h ((h 14 (x1).toNatClampNeg) - (h 14 (x2).toNatClampNeg)))), none] [.int (v_Math_abs h ((h 15 (x1).toNatClampNeg) - (h 15 (x2).toNatClampNeg)))] (zN L X h R G nc ns) Q
      refine zW.run 3 (pc' := 58) (ls' := [some (.ref 8), some (.int x1), some (.int x2), some (.int (v_Math_abs h ((h 14 (x1).toNatClampNeg) - (h 14 (x2).toNatClampNeg)))), some (.int (v_Math_abs h ((h 15 (x1).toNatClampNeg) - (h 15 (x2).toNatClampNeg))))]) (st' := [.int (v_Math_abs h ((h 15 (x1).toNatClampNeg) - (h 15 (x2).toNatClampNeg))), .int (v_Math_abs h ((h 14 (x1).toNatClampNeg) - (h 14 (x2).toNatClampNeg)))]) (σ' := (zN L X h R G nc ns)) (fun n => rfl) ?_
      refine zW.icmp_le rfl (fun c3 => ?_) (fun c3 => ?_)
      · skip
        refine zW.run 1 (pc' := 67) (ls' := [some (.ref 8), some (.int x1), some (.int x2), some (.int (v_Math_abs h ((h 14 (x1).toNatClampNeg) - (h 14 (x2).toNatClampNeg)))), some (.int (v_Math_abs h ((h 15 (x1).toNatClampNeg) - (h 15 (x2).toNatClampNeg))))]) (st' := [.int (v_Math_abs h ((h 15 (x1).toNatClampNeg) - (h 15 (x2).toNatClampNeg)))]) (σ' := (zN L X h R G nc ns)) (fun n => rfl) ?_
        exact zW.iret rfl rfl (rfl) (by simp only [if_neg c1, if_neg c2, if_pos c3] at hQ; exact hQ)
      · skip
        refine zW.run 2 (pc' := 67) (ls' := [some (.ref 8), some (.int x1), some (.int x2), some (.int (v_Math_abs h ((h 14 (x1).toNatClampNeg) - (h 14 (x2).toNatClampNeg)))), some (.int (v_Math_abs h ((h 15 (x1).toNatClampNeg) - (h 15 (x2).toNatClampNeg))))]) (st' := [.int (v_Math_abs h ((h 14 (x1).toNatClampNeg) - (h 14 (x2).toNatClampNeg)))]) (σ' := (zN L X h R G nc ns)) (fun n => rfl) ?_
        exact zW.iret rfl rfl (rfl) (by simp only [if_neg c1, if_neg c2, if_neg c3] at hQ; exact hQ)
    · skip
      refine zW.run 1 (pc' := 19) (ls' := [some (.ref 8), some (.int x1), some (.int x2), none, none]) (st' := [.int 144]) (σ' := (zN L X h R G nc ns)) (fun n => rfl) ?_
      exact zW.iret rfl rfl (rfl) (by simp only [if_neg c1, if_pos c2] at hQ; exact hQ)
def v_Ground_touches (h : zH) (x1 : Int32) (x2 : Int32) : Int32 := if (v_Ground_isOn h x1) = 0 then 0 else if (v_Ground_isOn h x2) = 0 then 0 else if ((v_Math_abs h ((h 14 (x1).toNatClampNeg) - (h 14 (x2).toNatClampNeg))) + (v_Math_abs h ((h 15 (x1).toNatClampNeg) - (h 15 (x2).toNatClampNeg)))) = 1 then 1 else 0
theorem b_Ground_touches (S : zSR R) {x1 : Int32} {x2 : Int32}  (hQ : Q (.inl (some (.int (v_Ground_touches h x1 x2)))) (zN L X h R G nc ns)) : zW ro 79 0 (zfst [.ref 8, .int x1, .int x2] 3) [] (zN L X h R G nc ns) Q := by
  unfold v_Ground_touches at hQ
  show zW ro 79 0 [some (.ref 8), some (.int x1), some (.int x2)] [] (zN L X h R G nc ns) Q
  refine zW.run 2 (pc' := 2) (ls' := [some (.ref 8), some (.int x1), some (.int x2)]) (st' := [.int x1, .ref 8]) (σ' := (zN L X h R G nc ns)) (fun n => rfl) ?_
  refine zW.callV rfl (by decide) rfl rfl rfl rfl rfl (Nat.le_of_ble_eq_true rfl) ?_
  refine b_Ground_isOn S  ?_
  show zW ro 79 5 [some (.ref 8), some (.int x1), some (.int x2)] [.int (v_Ground_isOn h x1)] (zN L X h R G nc ns) Q
  refine zW.if_eq rfl (fun c1 => ?_) (fun c1 => ?_)
  · skip
    refine zW.run 1 (pc' := 58) (ls' := [some (.ref 8), some (.int x1), some (.int x2)]) (st' := [.int 0]) (σ' := (zN L X h R G nc ns)) (fun n => rfl) ?_
    exact zW.iret rfl rfl (znb0) (by simp only [if_pos c1] at hQ; exact hQ)
  · skip
    refine zW.run 2 (pc' := 10) (ls' := [some (.ref 8), some (.int x1), some (.int x2)]) (st' := [.int x2, .ref 8]) (σ' := (zN L X h R G nc ns)) (fun n => rfl) ?_
    refine zW.callV rfl (by decide) rfl rfl rfl rfl rfl (Nat.le_of_ble_eq_true rfl) ?_
    refine b_Ground_isOn S  ?_
    show zW ro 79 13 [some (.ref 8), some (.int x1), some (.int x2)] [.int (v_Ground_isOn h x2)] (zN L X h R G nc ns) Q
    refine zW.if_eq rfl (fun c2 => ?_) (fun c2 => ?_)
    · skip
      refine zW.run 1 (pc' := 58) (ls' := [some (.ref 8), some (.int x1), some (.int x2)]) (st' := [.int 0]) (σ' := (zN L X h R G nc ns)) (fun n => rfl) ?_
      exact zW.iret rfl rfl (znb0) (by simp only [if_neg c1, if_pos c2] at hQ; exact hQ)
    · skip
      refine zW.run 1 (pc' := 17) (ls' := [some (.ref 8), some (.int x1), some (.int x2)]) (st' := [.ref 8]) (σ' := (zN L X h R G nc ns)) (fun n => rfl) ?_
      refine zW.getf (v := .ref 14) rfl rfl (zr_8 S (f := 5) (by decide)) ?_
      refine zW.run 1 (pc' := 21) (ls' := [some (.ref 8), some (.int x1), some (.int x2)]) (st' := [.int x1, .ref 14]) (σ' := (zN L X h R G nc ns)) (fun n => rfl) ?_
      refine zW.iald (v := h 14 (x1).toNatClampNeg) rfl rfl (Or.inl rfl) (zin_on c1) rfl ?_
      refine zW.run 1 (pc' := 23) (ls' := [some (.ref 8), some (.int x1), some (.int x2)]) (st' := [.ref 8, .int (h 14 (x1).toNatClampNeg)]) (σ' := (zN L X h R G nc ns)) (fun n => rfl) ?_
      refine zW.getf (v := .ref 14) rfl rfl (zr_8 S (f := 5) (by decide)) ?_
      refine zW.run 1 (pc' := 27) (ls' := [some (.ref 8), some (.int x1), some (.int x2)]) (st' := [.int x2, .ref 14, .int (h 14 (x1).toNatClampNeg)]) (σ' := (zN L X h R G nc ns)) (fun n => rfl) ?_
      refine zW.iald (v := h 14 (x2).toNatClampNeg) rfl rfl (Or.inl rfl) (zin_on c2) rfl ?_
      refine zW.run 1 (pc' := 29) (ls' := [some (.ref 8), some (.int x1), some (.int x2)]) (st' := [.int ((h 14 (x1).toNatClampNeg) - (h 14 (x2).toNatClampNeg))]) (σ' := (zN L X h R G nc ns)) (fun n => rfl) ?_
      refine zW.callS rfl rfl rfl rfl rfl (Nat.le_of_ble_eq_true rfl) ?_
      refine b_Math_abs S  ?_
      show zW ro 79 32 [some (.ref 8), some (.int x1), some (.int x2)] [.int (v_Math_abs h ((h 14 (x1).toNatClampNeg) - (h 14 (x2).toNatClampNeg)))] (zN L X h R G nc ns) Q
      refine zW.run 1 (pc' := 33) (ls' := [some (.ref 8), some (.int x1), some (.int x2)]) (st' := [.ref 8, .int (v_Math_abs h ((h 14 (x1).toNatClampNeg) - (h 14 (x2).toNatClampNeg)))]) (σ' := (zN L X h R G nc ns)) (fun n => rfl) ?_
      refine zW.getf (v := .ref 15) rfl rfl (zr_8 S (f := 6) (by decide)) ?_
      refine zW.run 1 (pc' := 37) (ls' := [some (.ref 8), some (.int x1), some (.int x2)]) (st' := [.int x1, .ref 15, .int (v_Math_abs h ((h 14 (x1).toNatClampNeg) - (h 14 (x2).toNatClampNeg)))]) (σ' := (zN L X h R G nc ns)) (fun n => rfl) ?_
      refine zW.iald (v := h 15 (x1).toNatClampNeg) rfl rfl (Or.inl rfl) (zin_on c1) rfl ?_
      refine zW.run 1 (pc' := 39) (ls' := [some (.ref 8), some (.int x1), some (.int x2)]) (st' := [.ref 8, .int (h 15 (x1).toNatClampNeg), .int (v_Math_abs h ((h 14 (x1).toNatClampNeg) - (h 14 (x2).toNatClampNeg)))]) (σ' := (zN L X h R G nc ns)) (fun n => rfl) ?_
      refine zW.getf (v := .ref 15) rfl rfl (zr_8 S (f := 6) (by decide)) ?_
      refine zW.run 1 (pc' := 43) (ls' := [some (.ref 8), some (.int x1), some (.int x2)]) (st' := [.int x2, .ref 15, .int (h 15 (x1).toNatClampNeg), .int (v_Math_abs h ((h 14 (x1).toNatClampNeg) - (h 14 (x2).toNatClampNeg)))]) (σ' := (zN L X h R G nc ns)) (fun n => rfl) ?_
      refine zW.iald (v := h 15 (x2).toNatClampNeg) rfl rfl (Or.inl rfl) (zin_on c2) rfl ?_
      refine zW.run 1 (pc' := 45) (ls' := [some (.ref 8), some (.int x1), some (.int x2)]) (st' := [.int ((h 15 (x1).toNatClampNeg) - (h 15 (x2).toNatClampNeg)), .int (v_Math_abs h ((h 14 (x1).toNatClampNeg) - (h 14 (x2).toNatClampNeg)))]) (σ' := (zN L X h R G nc ns)) (fun n => rfl) ?_
      refine zW.callS rfl rfl rfl rfl rfl (Nat.le_of_ble_eq_true rfl) ?_
      refine b_Math_abs S  ?_
      show zW ro 79 48 [some (.ref 8), some (.int x1), some (.int x2)] [.int (v_Math_abs h ((h 15 (x1).toNatClampNeg) - (h 15 (x2).toNatClampNeg))), .int (v_Math_abs h ((h 14 (x1).toNatClampNeg) - (h 14 (x2).toNatClampNeg)))] (zN L X h R G nc ns) Q
      refine zW.run 2 (pc' := 50) (ls' := [some (.ref 8), some (.int x1), some (.int x2)]) (st' := [.int 1, .int ((v_Math_abs h ((h 14 (x1).toNatClampNeg) - (h 14 (x2).toNatClampNeg))) + (v_Math_abs h ((h 15 (x1).toNatClampNeg) - (h 15 (x2).toNatClampNeg))))]) (σ' := (zN L X h R G nc ns)) (fun n => rfl) ?_
      refine zW.icmp_ne rfl (fun c3 => ?_) (fun c3 => ?_)
      · skip
        refine zW.run 1 (pc' := 58) (ls' := [some (.ref 8), some (.int x1), some (.int x2)]) (st' := [.int 0]) (σ' := (zN L X h R G nc ns)) (fun n => rfl) ?_
        exact zW.iret rfl rfl (znb0) (by simp only [if_neg c1, if_neg c2, if_neg c3] at hQ; exact hQ)
      · skip
        refine zW.run 2 (pc' := 58) (ls' := [some (.ref 8), some (.int x1), some (.int x2)]) (st' := [.int 1]) (σ' := (zN L X h R G nc ns)) (fun n => rfl) ?_
        exact zW.iret rfl rfl (znb1) (by simp only [if_neg c1, if_neg c2, if_pos c3] at hQ; exact hQ)
theorem n_Ground_touches (h : zH) (x1 : Int32) (x2 : Int32) : narrow .boolean (.int (v_Ground_touches h x1 x2)) = .int (v_Ground_touches h x1 x2) := by
  unfold v_Ground_touches
  by_cases c1 : (v_Ground_isOn h x1) = 0
  · rw [if_pos c1]
    exact znb0
  · rw [if_neg c1]
    by_cases c2 : (v_Ground_isOn h x2) = 0
    · rw [if_pos c2]
      exact znb0
    · rw [if_neg c2]
      by_cases c3 : ((v_Math_abs h ((h 14 (x1).toNatClampNeg) - (h 14 (x2).toNatClampNeg))) + (v_Math_abs h ((h 15 (x1).toNatClampNeg) - (h 15 (x2).toNatClampNeg)))) = 1
      · rw [if_pos c3]
        exact znb1
      · rw [if_neg c3]
        exact znb0
def s_Ground_shape (h : zH) (x1 : Int32) (x2 : Int32) (x3 : Int32) (x4 : Int32) (x5 : Int32) : zH := if (v_Ground_isOn h x1) = 0 then h else if x4 = 1 then (zup (zup (zup (zup (zup h 9 (x1).toNatClampNeg x2) 10 (x1).toNatClampNeg x3) 11 (x1).toNatClampNeg x4) 12 (x1).toNatClampNeg x5) 13 (x1).toNatClampNeg 0) else (zup (zup (zup (zup (zup h 9 (x1).toNatClampNeg x2) 10 (x1).toNatClampNeg x3) 11 (x1).toNatClampNeg x4) 12 (x1).toNatClampNeg 0) 13 (x1).toNatClampNeg 0)
theorem b_Ground_shape (S : zSR R) {x1 : Int32} {x2 : Int32} {x3 : Int32} {x4 : Int32} {x5 : Int32}  (hQ : Q (.inl none) (zN L X (s_Ground_shape h x1 x2 x3 x4 x5) R G nc ns)) : zW ro 74 0 (zfst [.ref 8, .int x1, .int x2, .int x3, .int x4, .int x5] 6) [] (zN L X h R G nc ns) Q := by
  unfold s_Ground_shape at hQ
  show zW ro 74 0 [some (.ref 8), some (.int x1), some (.int x2), some (.int x3), some (.int x4), some (.int x5)] [] (zN L X h R G nc ns) Q
  refine zW.run 2 (pc' := 2) (ls' := [some (.ref 8), some (.int x1), some (.int x2), some (.int x3), some (.int x4), some (.int x5)]) (st' := [.int x1, .ref 8]) (σ' := (zN L X h R G nc ns)) (fun n => rfl) ?_
  refine zW.callV rfl (by decide) rfl rfl rfl rfl rfl (Nat.le_of_ble_eq_true rfl) ?_
  refine b_Ground_isOn S  ?_
  show zW ro 74 5 [some (.ref 8), some (.int x1), some (.int x2), some (.int x3), some (.int x4), some (.int x5)] [.int (v_Ground_isOn h x1)] (zN L X h R G nc ns) Q
  refine zW.if_eq rfl (fun c1 => ?_) (fun c1 => ?_)
  · skip
    exact zW.vret rfl (by simp only [if_pos c1] at hQ; exact hQ)
  · skip
    refine zW.run 1 (pc' := 9) (ls' := [some (.ref 8), some (.int x1), some (.int x2), some (.int x3), some (.int x4), some (.int x5)]) (st' := [.ref 8]) (σ' := (zN L X h R G nc ns)) (fun n => rfl) ?_
    refine zW.getf (v := .ref 9) rfl rfl (zr_8 S (f := 0) (by decide)) ?_
    refine zW.run 2 (pc' := 14) (ls' := [some (.ref 8), some (.int x1), some (.int x2), some (.int x3), some (.int x4), some (.int x5)]) (st' := [.int x2, .int x1, .ref 9]) (σ' := (zN L X h R G nc ns)) (fun n => rfl) ?_
    refine zW.iast rfl rfl (zin_on c1) ?_
    refine zW.run 1 (pc' := 16) (ls' := [some (.ref 8), some (.int x1), some (.int x2), some (.int x3), some (.int x4), some (.int x5)]) (st' := [.ref 8]) (σ' := (zN L X (zup h 9 (x1).toNatClampNeg x2) R G nc ns)) (fun n => rfl) ?_
    refine zW.getf (v := .ref 10) rfl rfl (zr_8 S (f := 1) (by decide)) ?_
    refine zW.run 2 (pc' := 21) (ls' := [some (.ref 8), some (.int x1), some (.int x2), some (.int x3), some (.int x4), some (.int x5)]) (st' := [.int x3, .int x1, .ref 10]) (σ' := (zN L X (zup h 9 (x1).toNatClampNeg x2) R G nc ns)) (fun n => rfl) ?_
    refine zW.iast rfl rfl (zin_on c1) ?_
    refine zW.run 1 (pc' := 23) (ls' := [some (.ref 8), some (.int x1), some (.int x2), some (.int x3), some (.int x4), some (.int x5)]) (st' := [.ref 8]) (σ' := (zN L X (zup (zup h 9 (x1).toNatClampNeg x2) 10 (x1).toNatClampNeg x3) R G nc ns)) (fun n => rfl) ?_
    refine zW.getf (v := .ref 11) rfl rfl (zr_8 S (f := 2) (by decide)) ?_
    refine zW.run 2 (pc' := 29) (ls' := [some (.ref 8), some (.int x1), some (.int x2), some (.int x3), some (.int x4), some (.int x5)]) (st' := [.int x4, .int x1, .ref 11]) (σ' := (zN L X (zup (zup h 9 (x1).toNatClampNeg x2) 10 (x1).toNatClampNeg x3) R G nc ns)) (fun n => rfl) ?_
    refine zW.iast rfl rfl (zin_on c1) ?_
    refine zW.run 1 (pc' := 31) (ls' := [some (.ref 8), some (.int x1), some (.int x2), some (.int x3), some (.int x4), some (.int x5)]) (st' := [.ref 8]) (σ' := (zN L X (zup (zup (zup h 9 (x1).toNatClampNeg x2) 10 (x1).toNatClampNeg x3) 11 (x1).toNatClampNeg x4) R G nc ns)) (fun n => rfl) ?_
    refine zW.getf (v := .ref 12) rfl rfl (zr_8 S (f := 3) (by decide)) ?_
    refine zW.run 3 (pc' := 38) (ls' := [some (.ref 8), some (.int x1), some (.int x2), some (.int x3), some (.int x4), some (.int x5)]) (st' := [.int 1, .int x4, .int x1, .ref 12]) (σ' := (zN L X (zup (zup (zup h 9 (x1).toNatClampNeg x2) 10 (x1).toNatClampNeg x3) 11 (x1).toNatClampNeg x4) R G nc ns)) (fun n => rfl) ?_
    refine zW.icmp_ne rfl (fun c2 => ?_) (fun c2 => ?_)
    · skip
      refine zW.run 1 (pc' := 47) (ls' := [some (.ref 8), some (.int x1), some (.int x2), some (.int x3), some (.int x4), some (.int x5)]) (st' := [.int 0, .int x1, .ref 12]) (σ' := (zN L X (zup (zup (zup h 9 (x1).toNatClampNeg x2) 10 (x1).toNatClampNeg x3) 11 (x1).toNatClampNeg x4) R G nc ns)) (fun n => rfl) ?_
      refine zW.iast rfl rfl (zin_on c1) ?_
      refine zW.run 1 (pc' := 49) (ls' := [some (.ref 8), some (.int x1), some (.int x2), some (.int x3), some (.int x4), some (.int x5)]) (st' := [.ref 8]) (σ' := (zN L X (zup (zup (zup (zup h 9 (x1).toNatClampNeg x2) 10 (x1).toNatClampNeg x3) 11 (x1).toNatClampNeg x4) 12 (x1).toNatClampNeg 0) R G nc ns)) (fun n => rfl) ?_
      refine zW.getf (v := .ref 13) rfl rfl (zr_8 S (f := 4) (by decide)) ?_
      refine zW.run 2 (pc' := 54) (ls' := [some (.ref 8), some (.int x1), some (.int x2), some (.int x3), some (.int x4), some (.int x5)]) (st' := [.int 0, .int x1, .ref 13]) (σ' := (zN L X (zup (zup (zup (zup h 9 (x1).toNatClampNeg x2) 10 (x1).toNatClampNeg x3) 11 (x1).toNatClampNeg x4) 12 (x1).toNatClampNeg 0) R G nc ns)) (fun n => rfl) ?_
      refine zW.iast rfl rfl (zin_on c1) ?_
      exact zW.vret rfl (by simp only [if_neg c1, if_neg c2] at hQ; exact hQ)
    · skip
      refine zW.run 2 (pc' := 47) (ls' := [some (.ref 8), some (.int x1), some (.int x2), some (.int x3), some (.int x4), some (.int x5)]) (st' := [.int x5, .int x1, .ref 12]) (σ' := (zN L X (zup (zup (zup h 9 (x1).toNatClampNeg x2) 10 (x1).toNatClampNeg x3) 11 (x1).toNatClampNeg x4) R G nc ns)) (fun n => rfl) ?_
      refine zW.iast rfl rfl (zin_on c1) ?_
      refine zW.run 1 (pc' := 49) (ls' := [some (.ref 8), some (.int x1), some (.int x2), some (.int x3), some (.int x4), some (.int x5)]) (st' := [.ref 8]) (σ' := (zN L X (zup (zup (zup (zup h 9 (x1).toNatClampNeg x2) 10 (x1).toNatClampNeg x3) 11 (x1).toNatClampNeg x4) 12 (x1).toNatClampNeg x5) R G nc ns)) (fun n => rfl) ?_
      refine zW.getf (v := .ref 13) rfl rfl (zr_8 S (f := 4) (by decide)) ?_
      refine zW.run 2 (pc' := 54) (ls' := [some (.ref 8), some (.int x1), some (.int x2), some (.int x3), some (.int x4), some (.int x5)]) (st' := [.int 0, .int x1, .ref 13]) (σ' := (zN L X (zup (zup (zup (zup h 9 (x1).toNatClampNeg x2) 10 (x1).toNatClampNeg x3) 11 (x1).toNatClampNeg x4) 12 (x1).toNatClampNeg x5) R G nc ns)) (fun n => rfl) ?_
      refine zW.iast rfl rfl (zin_on c1) ?_
      exact zW.vret rfl (by simp only [if_neg c1, if_pos c2] at hQ; exact hQ)
def v_Siege_of (h : zH) (x1 : Int32) : Nat := if x1 = 1 then 22 else 21
theorem b_Siege_of (S : zSR R) {x1 : Int32}  (hQ : Q (.inl (some (.ref (v_Siege_of h x1)))) (zN L X h R G nc ns)) : zW ro 150 0 (zfst [.ref 7, .int x1] 2) [] (zN L X h R G nc ns) Q := by
  unfold v_Siege_of at hQ
  show zW ro 150 0 [some (.ref 7), some (.int x1)] [] (zN L X h R G nc ns) Q
  refine zW.run 2 (pc' := 2) (ls' := [some (.ref 7), some (.int x1)]) (st' := [.int 1, .int x1]) (σ' := (zN L X h R G nc ns)) (fun n => rfl) ?_
  refine zW.icmp_ne rfl (fun c1 => ?_) (fun c1 => ?_)
  · skip
    refine zW.run 1 (pc' := 13) (ls' := [some (.ref 7), some (.int x1)]) (st' := [.ref 7]) (σ' := (zN L X h R G nc ns)) (fun n => rfl) ?_
    refine zW.getf (v := .ref 21) rfl rfl (zr_7_4 S) ?_
    exact zW.aret rfl (by simp only [if_neg c1] at hQ; exact hQ)
  · skip
    refine zW.run 1 (pc' := 6) (ls' := [some (.ref 7), some (.int x1)]) (st' := [.ref 7]) (σ' := (zN L X h R G nc ns)) (fun n => rfl) ?_
    refine zW.getf (v := .ref 22) rfl rfl (zr_7_5 S) ?_
    refine zW.run 1 (pc' := 16) (ls' := [some (.ref 7), some (.int x1)]) (st' := [.ref 22]) (σ' := (zN L X h R G nc ns)) (fun n => rfl) ?_
    exact zW.aret rfl (by simp only [if_pos c1] at hQ; exact hQ)
theorem k_Siege_of (h : zH) (x1 : Int32) : (zK0 L ++ X)[(v_Siege_of h x1)]? = some (6, 11) := by
  unfold v_Siege_of
  by_cases c1 : x1 = 1
  · rw [if_pos c1]
    exact rfl
  · rw [if_neg c1]
    exact rfl
def v_Siege_hourOfDay (h : zH)  : Int32 := ((h 7 10) - (h 7 10) / 24 * 24)
theorem b_Siege_hourOfDay (S : zSR R)   (hQ : Q (.inl (some (.int (v_Siege_hourOfDay h)))) (zN L X h R G nc ns)) : zW ro 139 0 (zfst [.ref 7] 1) [] (zN L X h R G nc ns) Q := by
  show zW ro 139 0 [some (.ref 7)] [] (zN L X h R G nc ns) Q
  refine zW.run 3 (pc' := 6) (ls' := [some (.ref 7)]) (st' := [.int 24, .int (h 7 10)]) (σ' := (zN L X h R G nc ns)) (fun n => rfl) ?_
  refine zW.irem rfl (by decide) ?_
  exact zW.iret rfl rfl (rfl) hQ
def v_Siege_isNight (h : zH)  : Int32 := if 20 ≤ ((h 7 10) - (h 7 10) / 24 * 24) then 1 else if 4 < ((h 7 10) - (h 7 10) / 24 * 24) then 0 else 1
theorem b_Siege_isNight (S : zSR R)   (hQ : Q (.inl (some (.int (v_Siege_isNight h)))) (zN L X h R G nc ns)) : zW ro 143 0 (zfst [.ref 7] 2) [] (zN L X h R G nc ns) Q := by
  unfold v_Siege_isNight at hQ
  show zW ro 143 0 [some (.ref 7), none] [] (zN L X h R G nc ns) Q
  refine zW.run 3 (pc' := 6) (ls' := [some (.ref 7), none]) (st' := [.int 24, .int (h 7 10)]) (σ' := (zN L X h R G nc ns)) (fun n => rfl) ?_
  refine zW.irem rfl (by decide) ?_
  refine zW.run 3 (pc' := 11) (ls' := [some (.ref 7), some (.int ((h 7 10) - (h 7 10) / 24 * 24))]) (st' := [.int 20, .int ((h 7 10) - (h 7 10) / 24 * 24)]) (σ' := (zN L X h R G nc ns)) (fun n => rfl) ?_
  refine zW.icmp_ge rfl (fun c1 => ?_) (fun c1 => ?_)
  · skip
    refine zW.run 2 (pc' := 24) (ls' := [some (.ref 7), some (.int ((h 7 10) - (h 7 10) / 24 * 24))]) (st' := [.int 1]) (σ' := (zN L X h R G nc ns)) (fun n => rfl) ?_
    exact zW.iret rfl rfl (znb1) (by simp only [if_pos c1] at hQ; exact hQ)
  · skip
    refine zW.run 2 (pc' := 16) (ls' := [some (.ref 7), some (.int ((h 7 10) - (h 7 10) / 24 * 24))]) (st' := [.int 4, .int ((h 7 10) - (h 7 10) / 24 * 24)]) (σ' := (zN L X h R G nc ns)) (fun n => rfl) ?_
    refine zW.icmp_gt rfl (fun c2 => ?_) (fun c2 => ?_)
    · skip
      refine zW.run 1 (pc' := 24) (ls' := [some (.ref 7), some (.int ((h 7 10) - (h 7 10) / 24 * 24))]) (st' := [.int 0]) (σ' := (zN L X h R G nc ns)) (fun n => rfl) ?_
      exact zW.iret rfl rfl (znb0) (by simp only [if_neg c1, if_pos c2] at hQ; exact hQ)
    · skip
      refine zW.run 2 (pc' := 24) (ls' := [some (.ref 7), some (.int ((h 7 10) - (h 7 10) / 24 * 24))]) (st' := [.int 1]) (σ' := (zN L X h R G nc ns)) (fun n => rfl) ?_
      exact zW.iret rfl rfl (znb1) (by simp only [if_neg c1, if_neg c2] at hQ; exact hQ)
theorem n_Siege_isNight (h : zH)  : narrow .boolean (.int (v_Siege_isNight h)) = .int (v_Siege_isNight h) := by
  unfold v_Siege_isNight
  by_cases c1 : 20 ≤ ((h 7 10) - (h 7 10) / 24 * 24)
  · rw [if_pos c1]
    exact znb1
  · rw [if_neg c1]
    by_cases c2 : 4 < ((h 7 10) - (h 7 10) / 24 * 24)
    · rw [if_pos c2]
      exact znb0
    · rw [if_neg c2]
      exact znb1
def v_Siege_sightFar (h : zH)  : Int32 := if (v_Siege_isNight h) = 0 then 9 else 4
theorem b_Siege_sightFar (S : zSR R)   (hQ : Q (.inl (some (.int (v_Siege_sightFar h)))) (zN L X h R G nc ns)) : zW ro 154 0 (zfst [.ref 7] 1) [] (zN L X h R G nc ns) Q := by
  unfold v_Siege_sightFar at hQ
  show zW ro 154 0 [some (.ref 7)] [] (zN L X h R G nc ns) Q
  refine zW.run 1 (pc' := 1) (ls' := [some (.ref 7)]) (st' := [.ref 7]) (σ' := (zN L X h R G nc ns)) (fun n => rfl) ?_
  refine zW.callV rfl (by decide) rfl rfl rfl rfl rfl (Nat.le_of_ble_eq_true rfl) ?_
  refine b_Siege_isNight S  ?_
  show zW ro 154 4 [some (.ref 7)] [.int (v_Siege_isNight h)] (zN L X h R G nc ns) Q
  refine zW.if_eq rfl (fun c1 => ?_) (fun c1 => ?_)
  · skip
    refine zW.run 1 (pc' := 13) (ls' := [some (.ref 7)]) (st' := [.int 9]) (σ' := (zN L X h R G nc ns)) (fun n => rfl) ?_
    exact zW.iret rfl rfl (rfl) (by simp only [if_pos c1] at hQ; exact hQ)
  · skip
    refine zW.run 2 (pc' := 13) (ls' := [some (.ref 7)]) (st' := [.int 4]) (σ' := (zN L X h R G nc ns)) (fun n => rfl) ?_
    exact zW.iret rfl rfl (rfl) (by simp only [if_neg c1] at hQ; exact hQ)
def v_Siege_homeOf (h : zH) (x1 : Int32) : Int32 := if x1 = 1 then (h 8 13) else (h 8 12)
theorem b_Siege_homeOf (S : zSR R) {x1 : Int32}  (hQ : Q (.inl (some (.int (v_Siege_homeOf h x1)))) (zN L X h R G nc ns)) : zW ro 138 0 (zfst [.ref 7, .int x1] 2) [] (zN L X h R G nc ns) Q := by
  unfold v_Siege_homeOf at hQ
  show zW ro 138 0 [some (.ref 7), some (.int x1)] [] (zN L X h R G nc ns) Q
  refine zW.run 2 (pc' := 2) (ls' := [some (.ref 7), some (.int x1)]) (st' := [.int 1, .int x1]) (σ' := (zN L X h R G nc ns)) (fun n => rfl) ?_
  refine zW.icmp_ne rfl (fun c1 => ?_) (fun c1 => ?_)
  · skip
    refine zW.run 1 (pc' := 16) (ls' := [some (.ref 7), some (.int x1)]) (st' := [.ref 7]) (σ' := (zN L X h R G nc ns)) (fun n => rfl) ?_
    refine zW.getf (v := .ref 8) rfl rfl (zr_7_0 S) ?_
    refine zW.run 1 (pc' := 22) (ls' := [some (.ref 7), some (.int x1)]) (st' := [.int (h 8 12)]) (σ' := (zN L X h R G nc ns)) (fun n => rfl) ?_
    exact zW.iret rfl rfl (rfl) (by simp only [if_neg c1] at hQ; exact hQ)
  · skip
    refine zW.run 1 (pc' := 6) (ls' := [some (.ref 7), some (.int x1)]) (st' := [.ref 7]) (σ' := (zN L X h R G nc ns)) (fun n => rfl) ?_
    refine zW.getf (v := .ref 8) rfl rfl (zr_7_0 S) ?_
    refine zW.run 2 (pc' := 22) (ls' := [some (.ref 7), some (.int x1)]) (st' := [.int (h 8 13)]) (σ' := (zN L X h R G nc ns)) (fun n => rfl) ?_
    exact zW.iret rfl rfl (rfl) (by simp only [if_pos c1] at hQ; exact hQ)
def s_Siege_end (h : zH) (x1 : Int32) : zH := (zup (zup h 7 11 2) 7 12 x1)
theorem b_Siege_end (S : zSR R) {x1 : Int32}  (hQ : Q (.inl none) (zN L X (s_Siege_end h x1) R G nc ns)) : zW ro 134 0 (zfst [.ref 7, .int x1] 2) [] (zN L X h R G nc ns) Q := by
  show zW ro 134 0 [some (.ref 7), some (.int x1)] [] (zN L X h R G nc ns) Q
  refine zW.run 2 (pc' := 2) (ls' := [some (.ref 7), some (.int x1)]) (st' := [.int 2, .ref 7]) (σ' := (zN L X h R G nc ns)) (fun n => rfl) ?_
  refine zW.putf (σ1 := (zN L X (zup h 7 11 2) R G nc ns)) rfl rfl rfl rfl rfl ?_
  refine zW.run 2 (pc' := 7) (ls' := [some (.ref 7), some (.int x1)]) (st' := [.int x1, .ref 7]) (σ' := (zN L X (zup h 7 11 2) R G nc ns)) (fun n => rfl) ?_
  refine zW.putf (σ1 := (zN L X (zup (zup h 7 11 2) 7 12 x1) R G nc ns)) rfl rfl rfl rfl rfl ?_
  exact zW.vret rfl hQ
def s_Siege_tellTown (h : zH) (x1 : Int32) (x2 : Int32) (x3 : Int32) : zH := (zup (zup (zup h 7 14 x1) 7 15 x2) 23 4 x3)
theorem b_Siege_tellTown (S : zSR R) {x1 : Int32} {x2 : Int32} {x3 : Int32}  (hQ : Q (.inl none) (zN L X (s_Siege_tellTown h x1 x2 x3) R G nc ns)) : zW ro 159 0 (zfst [.ref 7, .int x1, .int x2, .int x3] 4) [] (zN L X h R G nc ns) Q := by
  show zW ro 159 0 [some (.ref 7), some (.int x1), some (.int x2), some (.int x3)] [] (zN L X h R G nc ns) Q
  refine zW.run 2 (pc' := 2) (ls' := [some (.ref 7), some (.int x1), some (.int x2), some (.int x3)]) (st' := [.int x1, .ref 7]) (σ' := (zN L X h R G nc ns)) (fun n => rfl) ?_
  refine zW.putf (σ1 := (zN L X (zup h 7 14 x1) R G nc ns)) rfl rfl rfl rfl rfl ?_
  refine zW.run 2 (pc' := 7) (ls' := [some (.ref 7), some (.int x1), some (.int x2), some (.int x3)]) (st' := [.int x2, .ref 7]) (σ' := (zN L X (zup h 7 14 x1) R G nc ns)) (fun n => rfl) ?_
  refine zW.putf (σ1 := (zN L X (zup (zup h 7 14 x1) 7 15 x2) R G nc ns)) rfl rfl rfl rfl rfl ?_
  refine zW.run 1 (pc' := 11) (ls' := [some (.ref 7), some (.int x1), some (.int x2), some (.int x3)]) (st' := [.ref 7]) (σ' := (zN L X (zup (zup h 7 14 x1) 7 15 x2) R G nc ns)) (fun n => rfl) ?_
  refine zW.getf (v := .ref 23) rfl rfl (zr_7_6 S) ?_
  refine zW.run 1 (pc' := 15) (ls' := [some (.ref 7), some (.int x1), some (.int x2), some (.int x3)]) (st' := [.int x3, .ref 23]) (σ' := (zN L X (zup (zup h 7 14 x1) 7 15 x2) R G nc ns)) (fun n => rfl) ?_
  refine zW.putf (σ1 := (zN L X (zup (zup (zup h 7 14 x1) 7 15 x2) 23 4 x3) R G nc ns)) rfl rfl rfl rfl rfl ?_
  exact zW.vret rfl hQ
def v_Siege_forceOf (h : zH) (o1 : Nat) : Int32 := (((h o1 2) * (14 - (h o1 3))) * ((h (v_Siege_of h (h o1 0)) 3) + 50))
theorem b_Siege_forceOf (S : zSR R) {o1 : Nat} (k1 : (zK0 L ++ X)[o1]? = some (4, 6)) (hQ : Q (.inl (some (.int (v_Siege_forceOf h o1)))) (zN L X h R G nc ns)) : zW ro 135 0 (zfst [.ref 7, .ref o1] 2) [] (zN L X h R G nc ns) Q := by
  show zW ro 135 0 [some (.ref 7), some (.ref o1)] [] (zN L X h R G nc ns) Q
  refine zW.run 1 (pc' := 1) (ls' := [some (.ref 7), some (.ref o1)]) (st' := [.ref o1]) (σ' := (zN L X h R G nc ns)) (fun n => rfl) ?_
  refine zW.getf (v := .int (h o1 2)) rfl k1 rfl ?_
  refine zW.run 2 (pc' := 7) (ls' := [some (.ref 7), some (.ref o1)]) (st' := [.ref o1, .int 14, .int (h o1 2)]) (σ' := (zN L X h R G nc ns)) (fun n => rfl) ?_
  refine zW.getf (v := .int (h o1 3)) rfl k1 rfl ?_
  refine zW.run 4 (pc' := 14) (ls' := [some (.ref 7), some (.ref o1)]) (st' := [.ref o1, .ref 7, .int ((h o1 2) * (14 - (h o1 3)))]) (σ' := (zN L X h R G nc ns)) (fun n => rfl) ?_
  refine zW.getf (v := .int (h o1 0)) rfl k1 rfl ?_
  refine zW.callV rfl (by decide) rfl rfl rfl rfl rfl (Nat.le_of_ble_eq_true rfl) ?_
  refine b_Siege_of S  ?_
  show zW ro 135 20 [some (.ref 7), some (.ref o1)] [.ref (v_Siege_of h (h o1 0)), .int ((h o1 2) * (14 - (h o1 3)))] (zN L X h R G nc ns) Q
  refine zW.getf (v := .int (h (v_Siege_of h (h o1 0)) 3)) rfl (k_Siege_of h (h o1 0)) rfl ?_
  refine zW.run 3 (pc' := 27) (ls' := [some (.ref 7), some (.ref o1)]) (st' := [.int (((h o1 2) * (14 - (h o1 3))) * ((h (v_Siege_of h (h o1 0)) 3) + 50))]) (σ' := (zN L X h R G nc ns)) (fun n => rfl) ?_
  exact zW.iret rfl rfl (rfl) hQ
def v_Siege_takeMen (h : zH) (o1 : Nat) (x1 : Int32) : Int32 := if (h o1 2) ≤ x1 then (h o1 2) else x1
def s_Siege_takeMen (h : zH) (o1 : Nat) (x1 : Int32) : zH := if (h o1 2) ≤ x1 then (zup (zup h o1 2 ((h o1 2) - (h o1 2))) (v_Siege_of (zup h o1 2 ((h o1 2) - (h o1 2))) ((zup h o1 2 ((h o1 2) - (h o1 2))) o1 0)) 7 (((zup h o1 2 ((h o1 2) - (h o1 2))) (v_Siege_of (zup h o1 2 ((h o1 2) - (h o1 2))) ((zup h o1 2 ((h o1 2) - (h o1 2))) o1 0)) 7) + (h o1 2))) else (zup (zup h o1 2 ((h o1 2) - x1)) (v_Siege_of (zup h o1 2 ((h o1 2) - x1)) ((zup h o1 2 ((h o1 2) - x1)) o1 0)) 7 (((zup h o1 2 ((h o1 2) - x1)) (v_Siege_of (zup h o1 2 ((h o1 2) - x1)) ((zup h o1 2 ((h o1 2) - x1)) o1 0)) 7) + x1))
theorem b_Siege_takeMen (S : zSR R) {o1 : Nat} {x1 : Int32} (k1 : (zK0 L ++ X)[o1]? = some (4, 6)) (hQ : Q (.inl (some (.int (v_Siege_takeMen h o1 x1)))) (zN L X (s_Siege_takeMen h o1 x1) R G nc ns)) : zW ro 158 0 (zfst [.ref 7, .ref o1, .int x1] 4) [] (zN L X h R G nc ns) Q := by
  unfold v_Siege_takeMen s_Siege_takeMen at hQ
  show zW ro 158 0 [some (.ref 7), some (.ref o1), some (.int x1), none] [] (zN L X h R G nc ns) Q
  refine zW.run 2 (pc' := 2) (ls' := [some (.ref 7), some (.ref o1), some (.int x1), none]) (st' := [.ref o1, .int x1]) (σ' := (zN L X h R G nc ns)) (fun n => rfl) ?_
  refine zW.getf (v := .int (h o1 2)) rfl k1 rfl ?_
  refine zW.icmp_ge rfl (fun c1 => ?_) (fun c1 => ?_)
  · skip
    refine zW.run 1 (pc' := 13) (ls' := [some (.ref 7), some (.ref o1), some (.int x1), none]) (st' := [.ref o1]) (σ' := (zN L X h R G nc ns)) (fun n => rfl) ?_
    refine zW.getf (v := .int (h o1 2)) rfl k1 rfl ?_
    refine zW.run 3 (pc' := 19) (ls' := [some (.ref 7), some (.ref o1), some (.int x1), some (.int (h o1 2))]) (st' := [.ref o1, .ref o1]) (σ' := (zN L X h R G nc ns)) (fun n => rfl) ?_
    refine zW.getf (v := .int (h o1 2)) rfl k1 rfl ?_
    refine zW.run 2 (pc' := 24) (ls' := [some (.ref 7), some (.ref o1), some (.int x1), some (.int (h o1 2))]) (st' := [.int ((h o1 2) - (h o1 2)), .ref o1]) (σ' := (zN L X h R G nc ns)) (fun n => rfl) ?_
    refine zW.putf (σ1 := (zN L X (zup h o1 2 ((h o1 2) - (h o1 2))) R G nc ns)) rfl k1 rfl rfl rfl ?_
    refine zW.run 2 (pc' := 29) (ls' := [some (.ref 7), some (.ref o1), some (.int x1), some (.int (h o1 2))]) (st' := [.ref o1, .ref 7]) (σ' := (zN L X (zup h o1 2 ((h o1 2) - (h o1 2))) R G nc ns)) (fun n => rfl) ?_
    refine zW.getf (v := .int ((zup h o1 2 ((h o1 2) - (h o1 2))) o1 0)) rfl k1 rfl ?_
    refine zW.callV rfl (by decide) rfl rfl rfl rfl rfl (Nat.le_of_ble_eq_true rfl) ?_
    refine b_Siege_of S  ?_
    show zW ro 158 35 [some (.ref 7), some (.ref o1), some (.int x1), some (.int (h o1 2))] [.ref (v_Siege_of (zup h o1 2 ((h o1 2) - (h o1 2))) ((zup h o1 2 ((h o1 2) - (h o1 2))) o1 0))] (zN L X (zup h o1 2 ((h o1 2) - (h o1 2))) R G nc ns) Q
    refine zW.run 1 (pc' := 36) (ls' := [some (.ref 7), some (.ref o1), some (.int x1), some (.int (h o1 2))]) (st' := [.ref (v_Siege_of (zup h o1 2 ((h o1 2) - (h o1 2))) ((zup h o1 2 ((h o1 2) - (h o1 2))) o1 0)), .ref (v_Siege_of (zup h o1 2 ((h o1 2) - (h o1 2))) ((zup h o1 2 ((h o1 2) - (h o1 2))) o1 0))]) (σ' := (zN L X (zup h o1 2 ((h o1 2) - (h o1 2))) R G nc ns)) (fun n => rfl) ?_
    refine zW.getf (v := .int ((zup h o1 2 ((h o1 2) - (h o1 2))) (v_Siege_of (zup h o1 2 ((h o1 2) - (h o1 2))) ((zup h o1 2 ((h o1 2) - (h o1 2))) o1 0)) 7)) rfl (k_Siege_of (zup h o1 2 ((h o1 2) - (h o1 2))) ((zup h o1 2 ((h o1 2) - (h o1 2))) o1 0)) rfl ?_
    refine zW.run 2 (pc' := 41) (ls' := [some (.ref 7), some (.ref o1), some (.int x1), some (.int (h o1 2))]) (st' := [.int (((zup h o1 2 ((h o1 2) - (h o1 2))) (v_Siege_of (zup h o1 2 ((h o1 2) - (h o1 2))) ((zup h o1 2 ((h o1 2) - (h o1 2))) o1 0)) 7) + (h o1 2)), .ref (v_Siege_of (zup h o1 2 ((h o1 2) - (h o1 2))) ((zup h o1 2 ((h o1 2) - (h o1 2))) o1 0))]) (σ' := (zN L X (zup h o1 2 ((h o1 2) - (h o1 2))) R G nc ns)) (fun n => rfl) ?_
    refine zW.putf (σ1 := (zN L X (zup (zup h o1 2 ((h o1 2) - (h o1 2))) (v_Siege_of (zup h o1 2 ((h o1 2) - (h o1 2))) ((zup h o1 2 ((h o1 2) - (h o1 2))) o1 0)) 7 (((zup h o1 2 ((h o1 2) - (h o1 2))) (v_Siege_of (zup h o1 2 ((h o1 2) - (h o1 2))) ((zup h o1 2 ((h o1 2) - (h o1 2))) o1 0)) 7) + (h o1 2))) R G nc ns)) rfl (k_Siege_of (zup h o1 2 ((h o1 2) - (h o1 2))) ((zup h o1 2 ((h o1 2) - (h o1 2))) o1 0)) rfl rfl rfl ?_
    refine zW.run 1 (pc' := 45) (ls' := [some (.ref 7), some (.ref o1), some (.int x1), some (.int (h o1 2))]) (st' := [.int (h o1 2)]) (σ' := (zN L X (zup (zup h o1 2 ((h o1 2) - (h o1 2))) (v_Siege_of (zup h o1 2 ((h o1 2) - (h o1 2))) ((zup h o1 2 ((h o1 2) - (h o1 2))) o1 0)) 7 (((zup h o1 2 ((h o1 2) - (h o1 2))) (v_Siege_of (zup h o1 2 ((h o1 2) - (h o1 2))) ((zup h o1 2 ((h o1 2) - (h o1 2))) o1 0)) 7) + (h o1 2))) R G nc ns)) (fun n => rfl) ?_
    exact zW.iret rfl rfl (rfl) (by simp only [if_pos c1] at hQ; exact hQ)
  · skip
    refine zW.run 5 (pc' := 19) (ls' := [some (.ref 7), some (.ref o1), some (.int x1), some (.int x1)]) (st' := [.ref o1, .ref o1]) (σ' := (zN L X h R G nc ns)) (fun n => rfl) ?_
    refine zW.getf (v := .int (h o1 2)) rfl k1 rfl ?_
    refine zW.run 2 (pc' := 24) (ls' := [some (.ref 7), some (.ref o1), some (.int x1), some (.int x1)]) (st' := [.int ((h o1 2) - x1), .ref o1]) (σ' := (zN L X h R G nc ns)) (fun n => rfl) ?_
    refine zW.putf (σ1 := (zN L X (zup h o1 2 ((h o1 2) - x1)) R G nc ns)) rfl k1 rfl rfl rfl ?_
    refine zW.run 2 (pc' := 29) (ls' := [some (.ref 7), some (.ref o1), some (.int x1), some (.int x1)]) (st' := [.ref o1, .ref 7]) (σ' := (zN L X (zup h o1 2 ((h o1 2) - x1)) R G nc ns)) (fun n => rfl) ?_
    refine zW.getf (v := .int ((zup h o1 2 ((h o1 2) - x1)) o1 0)) rfl k1 rfl ?_
    refine zW.callV rfl (by decide) rfl rfl rfl rfl rfl (Nat.le_of_ble_eq_true rfl) ?_
    refine b_Siege_of S  ?_
    show zW ro 158 35 [some (.ref 7), some (.ref o1), some (.int x1), some (.int x1)] [.ref (v_Siege_of (zup h o1 2 ((h o1 2) - x1)) ((zup h o1 2 ((h o1 2) - x1)) o1 0))] (zN L X (zup h o1 2 ((h o1 2) - x1)) R G nc ns) Q
    refine zW.run 1 (pc' := 36) (ls' := [some (.ref 7), some (.ref o1), some (.int x1), some (.int x1)]) (st' := [.ref (v_Siege_of (zup h o1 2 ((h o1 2) - x1)) ((zup h o1 2 ((h o1 2) - x1)) o1 0)), .ref (v_Siege_of (zup h o1 2 ((h o1 2) - x1)) ((zup h o1 2 ((h o1 2) - x1)) o1 0))]) (σ' := (zN L X (zup h o1 2 ((h o1 2) - x1)) R G nc ns)) (fun n => rfl) ?_
    refine zW.getf (v := .int ((zup h o1 2 ((h o1 2) - x1)) (v_Siege_of (zup h o1 2 ((h o1 2) - x1)) ((zup h o1 2 ((h o1 2) - x1)) o1 0)) 7)) rfl (k_Siege_of (zup h o1 2 ((h o1 2) - x1)) ((zup h o1 2 ((h o1 2) - x1)) o1 0)) rfl ?_
    refine zW.run 2 (pc' := 41) (ls' := [some (.ref 7), some (.ref o1), some (.int x1), some (.int x1)]) (st' := [.int (((zup h o1 2 ((h o1 2) - x1)) (v_Siege_of (zup h o1 2 ((h o1 2) - x1)) ((zup h o1 2 ((h o1 2) - x1)) o1 0)) 7) + x1), .ref (v_Siege_of (zup h o1 2 ((h o1 2) - x1)) ((zup h o1 2 ((h o1 2) - x1)) o1 0))]) (σ' := (zN L X (zup h o1 2 ((h o1 2) - x1)) R G nc ns)) (fun n => rfl) ?_
    refine zW.putf (σ1 := (zN L X (zup (zup h o1 2 ((h o1 2) - x1)) (v_Siege_of (zup h o1 2 ((h o1 2) - x1)) ((zup h o1 2 ((h o1 2) - x1)) o1 0)) 7 (((zup h o1 2 ((h o1 2) - x1)) (v_Siege_of (zup h o1 2 ((h o1 2) - x1)) ((zup h o1 2 ((h o1 2) - x1)) o1 0)) 7) + x1)) R G nc ns)) rfl (k_Siege_of (zup h o1 2 ((h o1 2) - x1)) ((zup h o1 2 ((h o1 2) - x1)) o1 0)) rfl rfl rfl ?_
    refine zW.run 1 (pc' := 45) (ls' := [some (.ref 7), some (.ref o1), some (.int x1), some (.int x1)]) (st' := [.int x1]) (σ' := (zN L X (zup (zup h o1 2 ((h o1 2) - x1)) (v_Siege_of (zup h o1 2 ((h o1 2) - x1)) ((zup h o1 2 ((h o1 2) - x1)) o1 0)) 7 (((zup h o1 2 ((h o1 2) - x1)) (v_Siege_of (zup h o1 2 ((h o1 2) - x1)) ((zup h o1 2 ((h o1 2) - x1)) o1 0)) 7) + x1)) R G nc ns)) (fun n => rfl) ?_
    exact zW.iret rfl rfl (rfl) (by simp only [if_neg c1] at hQ; exact hQ)
def s_Siege_countFight (h : zH) (x1 : Int32) : zH := (s_Side_changeMorale (s_Side_changeMorale (zup h (v_Siege_of h x1) 8 ((h (v_Siege_of h x1) 8) + 1)) (v_Siege_of (zup h (v_Siege_of h x1) 8 ((h (v_Siege_of h x1) 8) + 1)) x1) 4) (v_Siege_of (s_Side_changeMorale (zup h (v_Siege_of h x1) 8 ((h (v_Siege_of h x1) 8) + 1)) (v_Siege_of (zup h (v_Siege_of h x1) 8 ((h (v_Siege_of h x1) 8) + 1)) x1) 4) (1 - x1)) (-4))
theorem b_Siege_countFight (S : zSR R) {x1 : Int32}  (hQ : Q (.inl none) (zN L X (s_Siege_countFight h x1) R G nc ns)) : zW ro 132 0 (zfst [.ref 7, .int x1] 2) [] (zN L X h R G nc ns) Q := by
  show zW ro 132 0 [some (.ref 7), some (.int x1)] [] (zN L X h R G nc ns) Q
  refine zW.run 2 (pc' := 2) (ls' := [some (.ref 7), some (.int x1)]) (st' := [.int x1, .ref 7]) (σ' := (zN L X h R G nc ns)) (fun n => rfl) ?_
  refine zW.callV rfl (by decide) rfl rfl rfl rfl rfl (Nat.le_of_ble_eq_true rfl) ?_
  refine b_Siege_of S  ?_
  show zW ro 132 5 [some (.ref 7), some (.int x1)] [.ref (v_Siege_of h x1)] (zN L X h R G nc ns) Q
  refine zW.run 1 (pc' := 6) (ls' := [some (.ref 7), some (.int x1)]) (st' := [.ref (v_Siege_of h x1), .ref (v_Siege_of h x1)]) (σ' := (zN L X h R G nc ns)) (fun n => rfl) ?_
  refine zW.getf (v := .int (h (v_Siege_of h x1) 8)) rfl (k_Siege_of h x1) rfl ?_
  refine zW.run 2 (pc' := 11) (ls' := [some (.ref 7), some (.int x1)]) (st' := [.int ((h (v_Siege_of h x1) 8) + 1), .ref (v_Siege_of h x1)]) (σ' := (zN L X h R G nc ns)) (fun n => rfl) ?_
  refine zW.putf (σ1 := (zN L X (zup h (v_Siege_of h x1) 8 ((h (v_Siege_of h x1) 8) + 1)) R G nc ns)) rfl (k_Siege_of h x1) rfl rfl rfl ?_
  refine zW.run 2 (pc' := 16) (ls' := [some (.ref 7), some (.int x1)]) (st' := [.int x1, .ref 7]) (σ' := (zN L X (zup h (v_Siege_of h x1) 8 ((h (v_Siege_of h x1) 8) + 1)) R G nc ns)) (fun n => rfl) ?_
  refine zW.callV rfl (by decide) rfl rfl rfl rfl rfl (Nat.le_of_ble_eq_true rfl) ?_
  refine b_Siege_of S  ?_
  show zW ro 132 19 [some (.ref 7), some (.int x1)] [.ref (v_Siege_of (zup h (v_Siege_of h x1) 8 ((h (v_Siege_of h x1) 8) + 1)) x1)] (zN L X (zup h (v_Siege_of h x1) 8 ((h (v_Siege_of h x1) 8) + 1)) R G nc ns) Q
  refine zW.run 1 (pc' := 20) (ls' := [some (.ref 7), some (.int x1)]) (st' := [.int 4, .ref (v_Siege_of (zup h (v_Siege_of h x1) 8 ((h (v_Siege_of h x1) 8) + 1)) x1)]) (σ' := (zN L X (zup h (v_Siege_of h x1) 8 ((h (v_Siege_of h x1) 8) + 1)) R G nc ns)) (fun n => rfl) ?_
  refine zW.callV rfl (by decide) rfl rfl rfl rfl (k_Siege_of (zup h (v_Siege_of h x1) 8 ((h (v_Siege_of h x1) 8) + 1)) x1) (Nat.le_of_ble_eq_true rfl) ?_
  refine b_Side_changeMorale S (k_Siege_of (zup h (v_Siege_of h x1) 8 ((h (v_Siege_of h x1) 8) + 1)) x1) ?_
  show zW ro 132 23 [some (.ref 7), some (.int x1)] [] (zN L X (s_Side_changeMorale (zup h (v_Siege_of h x1) 8 ((h (v_Siege_of h x1) 8) + 1)) (v_Siege_of (zup h (v_Siege_of h x1) 8 ((h (v_Siege_of h x1) 8) + 1)) x1) 4) R G nc ns) Q
  refine zW.run 4 (pc' := 27) (ls' := [some (.ref 7), some (.int x1)]) (st' := [.int (1 - x1), .ref 7]) (σ' := (zN L X (s_Side_changeMorale (zup h (v_Siege_of h x1) 8 ((h (v_Siege_of h x1) 8) + 1)) (v_Siege_of (zup h (v_Siege_of h x1) 8 ((h (v_Siege_of h x1) 8) + 1)) x1) 4) R G nc ns)) (fun n => rfl) ?_
  refine zW.callV rfl (by decide) rfl rfl rfl rfl rfl (Nat.le_of_ble_eq_true rfl) ?_
  refine b_Siege_of S  ?_
  show zW ro 132 30 [some (.ref 7), some (.int x1)] [.ref (v_Siege_of (s_Side_changeMorale (zup h (v_Siege_of h x1) 8 ((h (v_Siege_of h x1) 8) + 1)) (v_Siege_of (zup h (v_Siege_of h x1) 8 ((h (v_Siege_of h x1) 8) + 1)) x1) 4) (1 - x1))] (zN L X (s_Side_changeMorale (zup h (v_Siege_of h x1) 8 ((h (v_Siege_of h x1) 8) + 1)) (v_Siege_of (zup h (v_Siege_of h x1) 8 ((h (v_Siege_of h x1) 8) + 1)) x1) 4) R G nc ns) Q
  refine zW.run 1 (pc' := 32) (ls' := [some (.ref 7), some (.int x1)]) (st' := [.int (-4), .ref (v_Siege_of (s_Side_changeMorale (zup h (v_Siege_of h x1) 8 ((h (v_Siege_of h x1) 8) + 1)) (v_Siege_of (zup h (v_Siege_of h x1) 8 ((h (v_Siege_of h x1) 8) + 1)) x1) 4) (1 - x1))]) (σ' := (zN L X (s_Side_changeMorale (zup h (v_Siege_of h x1) 8 ((h (v_Siege_of h x1) 8) + 1)) (v_Siege_of (zup h (v_Siege_of h x1) 8 ((h (v_Siege_of h x1) 8) + 1)) x1) 4) R G nc ns)) (fun n => rfl) ?_
  refine zW.callV rfl (by decide) rfl rfl rfl rfl (k_Siege_of (s_Side_changeMorale (zup h (v_Siege_of h x1) 8 ((h (v_Siege_of h x1) 8) + 1)) (v_Siege_of (zup h (v_Siege_of h x1) 8 ((h (v_Siege_of h x1) 8) + 1)) x1) 4) (1 - x1)) (Nat.le_of_ble_eq_true rfl) ?_
  refine b_Side_changeMorale S (k_Siege_of (s_Side_changeMorale (zup h (v_Siege_of h x1) 8 ((h (v_Siege_of h x1) 8) + 1)) (v_Siege_of (zup h (v_Siege_of h x1) 8 ((h (v_Siege_of h x1) 8) + 1)) x1) 4) (1 - x1)) ?_
  show zW ro 132 35 [some (.ref 7), some (.int x1)] [] (zN L X (s_Side_changeMorale (s_Side_changeMorale (zup h (v_Siege_of h x1) 8 ((h (v_Siege_of h x1) 8) + 1)) (v_Siege_of (zup h (v_Siege_of h x1) 8 ((h (v_Siege_of h x1) 8) + 1)) x1) 4) (v_Siege_of (s_Side_changeMorale (zup h (v_Siege_of h x1) 8 ((h (v_Siege_of h x1) 8) + 1)) (v_Siege_of (zup h (v_Siege_of h x1) 8 ((h (v_Siege_of h x1) 8) + 1)) x1) 4) (1 - x1)) (-4)) R G nc ns) Q
  exact zW.vret rfl hQ
def s_Siege_batter (h : zH) (x1 : Int32) (x2 : Int32) : zH := if (v_Ground_isOn h x1) = 0 then h else if (h 11 (x1).toNatClampNeg) = 1 then if ((zup h 12 (x1).toNatClampNeg ((h 12 (x1).toNatClampNeg) - x2)) 12 (x1).toNatClampNeg) ≤ 0 then if ((zup (zup (zup h 12 (x1).toNatClampNeg ((h 12 (x1).toNatClampNeg) - x2)) 11 (x1).toNatClampNeg 6) 12 (x1).toNatClampNeg 0) 9 (x1).toNatClampNeg) ≤ 0 then (s_Side_changeMorale (zup (zup (zup (zup h 12 (x1).toNatClampNeg ((h 12 (x1).toNatClampNeg) - x2)) 11 (x1).toNatClampNeg 6) 12 (x1).toNatClampNeg 0) 7 13 (((zup (zup (zup h 12 (x1).toNatClampNeg ((h 12 (x1).toNatClampNeg) - x2)) 11 (x1).toNatClampNeg 6) 12 (x1).toNatClampNeg 0) 7 13) + 1)) 22 (-8)) else (s_Side_changeMorale (zup (zup (zup (zup (zup h 12 (x1).toNatClampNeg ((h 12 (x1).toNatClampNeg) - x2)) 11 (x1).toNatClampNeg 6) 12 (x1).toNatClampNeg 0) 9 (x1).toNatClampNeg (((zup (zup (zup h 12 (x1).toNatClampNeg ((h 12 (x1).toNatClampNeg) - x2)) 11 (x1).toNatClampNeg 6) 12 (x1).toNatClampNeg 0) 9 (x1).toNatClampNeg) - 1)) 7 13 (((zup (zup (zup (zup h 12 (x1).toNatClampNeg ((h 12 (x1).toNatClampNeg) - x2)) 11 (x1).toNatClampNeg 6) 12 (x1).toNatClampNeg 0) 9 (x1).toNatClampNeg (((zup (zup (zup h 12 (x1).toNatClampNeg ((h 12 (x1).toNatClampNeg) - x2)) 11 (x1).toNatClampNeg 6) 12 (x1).toNatClampNeg 0) 9 (x1).toNatClampNeg) - 1)) 7 13) + 1)) 22 (-8)) else (zup h 12 (x1).toNatClampNeg ((h 12 (x1).toNatClampNeg) - x2)) else h
theorem b_Siege_batter (S : zSR R) {x1 : Int32} {x2 : Int32}  (hQ : Q (.inl none) (zN L X (s_Siege_batter h x1 x2) R G nc ns)) : zW ro 128 0 (zfst [.ref 7, .int x1, .int x2] 3) [] (zN L X h R G nc ns) Q := by
  unfold s_Siege_batter at hQ
  show zW ro 128 0 [some (.ref 7), some (.int x1), some (.int x2)] [] (zN L X h R G nc ns) Q
  refine zW.run 1 (pc' := 1) (ls' := [some (.ref 7), some (.int x1), some (.int x2)]) (st' := [.ref 7]) (σ' := (zN L X h R G nc ns)) (fun n => rfl) ?_
  refine zW.getf (v := .ref 8) rfl rfl (zr_7_0 S) ?_
  refine zW.run 1 (pc' := 5) (ls' := [some (.ref 7), some (.int x1), some (.int x2)]) (st' := [.int x1, .ref 8]) (σ' := (zN L X h R G nc ns)) (fun n => rfl) ?_
  refine zW.callV rfl (by decide) rfl rfl rfl rfl rfl (Nat.le_of_ble_eq_true rfl) ?_
  refine b_Ground_isOn S  ?_
  show zW ro 128 8 [some (.ref 7), some (.int x1), some (.int x2)] [.int (v_Ground_isOn h x1)] (zN L X h R G nc ns) Q
  refine zW.if_eq rfl (fun c1 => ?_) (fun c1 => ?_)
  · skip
    exact zW.vret rfl (by simp only [if_pos c1] at hQ; exact hQ)
  · skip
    refine zW.run 1 (pc' := 12) (ls' := [some (.ref 7), some (.int x1), some (.int x2)]) (st' := [.ref 7]) (σ' := (zN L X h R G nc ns)) (fun n => rfl) ?_
    refine zW.getf (v := .ref 8) rfl rfl (zr_7_0 S) ?_
    refine zW.getf (v := .ref 11) rfl rfl (zr_8 S (f := 2) (by decide)) ?_
    refine zW.run 1 (pc' := 19) (ls' := [some (.ref 7), some (.int x1), some (.int x2)]) (st' := [.int x1, .ref 11]) (σ' := (zN L X h R G nc ns)) (fun n => rfl) ?_
    refine zW.iald (v := h 11 (x1).toNatClampNeg) rfl rfl (Or.inl rfl) (zin_on c1) rfl ?_
    refine zW.run 1 (pc' := 21) (ls' := [some (.ref 7), some (.int x1), some (.int x2)]) (st' := [.int 1, .int (h 11 (x1).toNatClampNeg)]) (σ' := (zN L X h R G nc ns)) (fun n => rfl) ?_
    refine zW.icmp_eq rfl (fun c2 => ?_) (fun c2 => ?_)
    · skip
      refine zW.run 1 (pc' := 26) (ls' := [some (.ref 7), some (.int x1), some (.int x2)]) (st' := [.ref 7]) (σ' := (zN L X h R G nc ns)) (fun n => rfl) ?_
      refine zW.getf (v := .ref 8) rfl rfl (zr_7_0 S) ?_
      refine zW.getf (v := .ref 12) rfl rfl (zr_8 S (f := 3) (by decide)) ?_
      refine zW.run 2 (pc' := 34) (ls' := [some (.ref 7), some (.int x1), some (.int x2)]) (st' := [.int x1, .ref 12, .int x1, .ref 12]) (σ' := (zN L X h R G nc ns)) (fun n => rfl) ?_
      refine zW.iald (v := h 12 (x1).toNatClampNeg) rfl rfl (Or.inl rfl) (zin_on c1) rfl ?_
      refine zW.run 2 (pc' := 37) (ls' := [some (.ref 7), some (.int x1), some (.int x2)]) (st' := [.int ((h 12 (x1).toNatClampNeg) - x2), .int x1, .ref 12]) (σ' := (zN L X h R G nc ns)) (fun n => rfl) ?_
      refine zW.iast rfl rfl (zin_on c1) ?_
      refine zW.run 1 (pc' := 39) (ls' := [some (.ref 7), some (.int x1), some (.int x2)]) (st' := [.ref 7]) (σ' := (zN L X (zup h 12 (x1).toNatClampNeg ((h 12 (x1).toNatClampNeg) - x2)) R G nc ns)) (fun n => rfl) ?_
      refine zW.getf (v := .ref 8) rfl rfl (zr_7_0 S) ?_
      refine zW.getf (v := .ref 12) rfl rfl (zr_8 S (f := 3) (by decide)) ?_
      refine zW.run 1 (pc' := 46) (ls' := [some (.ref 7), some (.int x1), some (.int x2)]) (st' := [.int x1, .ref 12]) (σ' := (zN L X (zup h 12 (x1).toNatClampNeg ((h 12 (x1).toNatClampNeg) - x2)) R G nc ns)) (fun n => rfl) ?_
      refine zW.iald (v := (zup h 12 (x1).toNatClampNeg ((h 12 (x1).toNatClampNeg) - x2)) 12 (x1).toNatClampNeg) rfl rfl (Or.inl rfl) (zin_on c1) rfl ?_
      refine zW.if_le rfl (fun c3 => ?_) (fun c3 => ?_)
      · skip
        refine zW.run 1 (pc' := 52) (ls' := [some (.ref 7), some (.int x1), some (.int x2)]) (st' := [.ref 7]) (σ' := (zN L X (zup h 12 (x1).toNatClampNeg ((h 12 (x1).toNatClampNeg) - x2)) R G nc ns)) (fun n => rfl) ?_
        refine zW.getf (v := .ref 8) rfl rfl (zr_7_0 S) ?_
        refine zW.getf (v := .ref 11) rfl rfl (zr_8 S (f := 2) (by decide)) ?_
        refine zW.run 2 (pc' := 61) (ls' := [some (.ref 7), some (.int x1), some (.int x2)]) (st' := [.int 6, .int x1, .ref 11]) (σ' := (zN L X (zup h 12 (x1).toNatClampNeg ((h 12 (x1).toNatClampNeg) - x2)) R G nc ns)) (fun n => rfl) ?_
        refine zW.iast rfl rfl (zin_on c1) ?_
        refine zW.run 1 (pc' := 63) (ls' := [some (.ref 7), some (.int x1), some (.int x2)]) (st' := [.ref 7]) (σ' := (zN L X (zup (zup h 12 (x1).toNatClampNeg ((h 12 (x1).toNatClampNeg) - x2)) 11 (x1).toNatClampNeg 6) R G nc ns)) (fun n => rfl) ?_
        refine zW.getf (v := .ref 8) rfl rfl (zr_7_0 S) ?_
        refine zW.getf (v := .ref 12) rfl rfl (zr_8 S (f := 3) (by decide)) ?_
        refine zW.run 2 (pc' := 71) (ls' := [some (.ref 7), some (.int x1), some (.int x2)]) (st' := [.int 0, .int x1, .ref 12]) (σ' := (zN L X (zup (zup h 12 (x1).toNatClampNeg ((h 12 (x1).toNatClampNeg) - x2)) 11 (x1).toNatClampNeg 6) R G nc ns)) (fun n => rfl) ?_
        refine zW.iast rfl rfl (zin_on c1) ?_
        refine zW.run 1 (pc' := 73) (ls' := [some (.ref 7), some (.int x1), some (.int x2)]) (st' := [.ref 7]) (σ' := (zN L X (zup (zup (zup h 12 (x1).toNatClampNeg ((h 12 (x1).toNatClampNeg) - x2)) 11 (x1).toNatClampNeg 6) 12 (x1).toNatClampNeg 0) R G nc ns)) (fun n => rfl) ?_
        refine zW.getf (v := .ref 8) rfl rfl (zr_7_0 S) ?_
        refine zW.getf (v := .ref 9) rfl rfl (zr_8 S (f := 0) (by decide)) ?_
        refine zW.run 1 (pc' := 80) (ls' := [some (.ref 7), some (.int x1), some (.int x2)]) (st' := [.int x1, .ref 9]) (σ' := (zN L X (zup (zup (zup h 12 (x1).toNatClampNeg ((h 12 (x1).toNatClampNeg) - x2)) 11 (x1).toNatClampNeg 6) 12 (x1).toNatClampNeg 0) R G nc ns)) (fun n => rfl) ?_
        refine zW.iald (v := (zup (zup (zup h 12 (x1).toNatClampNeg ((h 12 (x1).toNatClampNeg) - x2)) 11 (x1).toNatClampNeg 6) 12 (x1).toNatClampNeg 0) 9 (x1).toNatClampNeg) rfl rfl (Or.inl rfl) (zin_on c1) rfl ?_
        refine zW.if_le rfl (fun c4 => ?_) (fun c4 => ?_)
        · skip
          refine zW.run 5 (pc' := 104) (ls' := [some (.ref 7), some (.int x1), some (.int x2)]) (st' := [.int (((zup (zup (zup h 12 (x1).toNatClampNeg ((h 12 (x1).toNatClampNeg) - x2)) 11 (x1).toNatClampNeg 6) 12 (x1).toNatClampNeg 0) 7 13) + 1), .ref 7]) (σ' := (zN L X (zup (zup (zup h 12 (x1).toNatClampNeg ((h 12 (x1).toNatClampNeg) - x2)) 11 (x1).toNatClampNeg 6) 12 (x1).toNatClampNeg 0) R G nc ns)) (fun n => rfl) ?_
          refine zW.putf (σ1 := (zN L X (zup (zup (zup (zup h 12 (x1).toNatClampNeg ((h 12 (x1).toNatClampNeg) - x2)) 11 (x1).toNatClampNeg 6) 12 (x1).toNatClampNeg 0) 7 13 (((zup (zup (zup h 12 (x1).toNatClampNeg ((h 12 (x1).toNatClampNeg) - x2)) 11 (x1).toNatClampNeg 6) 12 (x1).toNatClampNeg 0) 7 13) + 1)) R G nc ns)) rfl rfl rfl rfl rfl ?_
          refine zW.run 1 (pc' := 108) (ls' := [some (.ref 7), some (.int x1), some (.int x2)]) (st' := [.ref 7]) (σ' := (zN L X (zup (zup (zup (zup h 12 (x1).toNatClampNeg ((h 12 (x1).toNatClampNeg) - x2)) 11 (x1).toNatClampNeg 6) 12 (x1).toNatClampNeg 0) 7 13 (((zup (zup (zup h 12 (x1).toNatClampNeg ((h 12 (x1).toNatClampNeg) - x2)) 11 (x1).toNatClampNeg 6) 12 (x1).toNatClampNeg 0) 7 13) + 1)) R G nc ns)) (fun n => rfl) ?_
          refine zW.getf (v := .ref 22) rfl rfl (zr_7_5 S) ?_
          refine zW.run 1 (pc' := 113) (ls' := [some (.ref 7), some (.int x1), some (.int x2)]) (st' := [.int (-8), .ref 22]) (σ' := (zN L X (zup (zup (zup (zup h 12 (x1).toNatClampNeg ((h 12 (x1).toNatClampNeg) - x2)) 11 (x1).toNatClampNeg 6) 12 (x1).toNatClampNeg 0) 7 13 (((zup (zup (zup h 12 (x1).toNatClampNeg ((h 12 (x1).toNatClampNeg) - x2)) 11 (x1).toNatClampNeg 6) 12 (x1).toNatClampNeg 0) 7 13) + 1)) R G nc ns)) (fun n => rfl) ?_
          refine zW.callV rfl (by decide) rfl rfl rfl rfl rfl (Nat.le_of_ble_eq_true rfl) ?_
          refine b_Side_changeMorale S rfl ?_
          show zW ro 128 116 [some (.ref 7), some (.int x1), some (.int x2)] [] (zN L X (s_Side_changeMorale (zup (zup (zup (zup h 12 (x1).toNatClampNeg ((h 12 (x1).toNatClampNeg) - x2)) 11 (x1).toNatClampNeg 6) 12 (x1).toNatClampNeg 0) 7 13 (((zup (zup (zup h 12 (x1).toNatClampNeg ((h 12 (x1).toNatClampNeg) - x2)) 11 (x1).toNatClampNeg 6) 12 (x1).toNatClampNeg 0) 7 13) + 1)) 22 (-8)) R G nc ns) Q
          exact zW.vret rfl (by simp only [if_neg c1, if_pos c2, if_pos c3, if_pos c4] at hQ; exact hQ)
        · skip
          refine zW.run 1 (pc' := 85) (ls' := [some (.ref 7), some (.int x1), some (.int x2)]) (st' := [.ref 7]) (σ' := (zN L X (zup (zup (zup h 12 (x1).toNatClampNeg ((h 12 (x1).toNatClampNeg) - x2)) 11 (x1).toNatClampNeg 6) 12 (x1).toNatClampNeg 0) R G nc ns)) (fun n => rfl) ?_
          refine zW.getf (v := .ref 8) rfl rfl (zr_7_0 S) ?_
          refine zW.getf (v := .ref 9) rfl rfl (zr_8 S (f := 0) (by decide)) ?_
          refine zW.run 2 (pc' := 93) (ls' := [some (.ref 7), some (.int x1), some (.int x2)]) (st' := [.int x1, .ref 9, .int x1, .ref 9]) (σ' := (zN L X (zup (zup (zup h 12 (x1).toNatClampNeg ((h 12 (x1).toNatClampNeg) - x2)) 11 (x1).toNatClampNeg 6) 12 (x1).toNatClampNeg 0) R G nc ns)) (fun n => rfl) ?_
          refine zW.iald (v := (zup (zup (zup h 12 (x1).toNatClampNeg ((h 12 (x1).toNatClampNeg) - x2)) 11 (x1).toNatClampNeg 6) 12 (x1).toNatClampNeg 0) 9 (x1).toNatClampNeg) rfl rfl (Or.inl rfl) (zin_on c1) rfl ?_
          refine zW.run 2 (pc' := 96) (ls' := [some (.ref 7), some (.int x1), some (.int x2)]) (st' := [.int (((zup (zup (zup h 12 (x1).toNatClampNeg ((h 12 (x1).toNatClampNeg) - x2)) 11 (x1).toNatClampNeg 6) 12 (x1).toNatClampNeg 0) 9 (x1).toNatClampNeg) - 1), .int x1, .ref 9]) (σ' := (zN L X (zup (zup (zup h 12 (x1).toNatClampNeg ((h 12 (x1).toNatClampNeg) - x2)) 11 (x1).toNatClampNeg 6) 12 (x1).toNatClampNeg 0) R G nc ns)) (fun n => rfl) ?_
          refine zW.iast rfl rfl (zin_on c1) ?_
          refine zW.run 5 (pc' := 104) (ls' := [some (.ref 7), some (.int x1), some (.int x2)]) (st' := [.int (((zup (zup (zup (zup h 12 (x1).toNatClampNeg ((h 12 (x1).toNatClampNeg) - x2)) 11 (x1).toNatClampNeg 6) 12 (x1).toNatClampNeg 0) 9 (x1).toNatClampNeg (((zup (zup (zup h 12 (x1).toNatClampNeg ((h 12 (x1).toNatClampNeg) - x2)) 11 (x1).toNatClampNeg 6) 12 (x1).toNatClampNeg 0) 9 (x1).toNatClampNeg) - 1)) 7 13) + 1), .ref 7]) (σ' := (zN L X (zup (zup (zup (zup h 12 (x1).toNatClampNeg ((h 12 (x1).toNatClampNeg) - x2)) 11 (x1).toNatClampNeg 6) 12 (x1).toNatClampNeg 0) 9 (x1).toNatClampNeg (((zup (zup (zup h 12 (x1).toNatClampNeg ((h 12 (x1).toNatClampNeg) - x2)) 11 (x1).toNatClampNeg 6) 12 (x1).toNatClampNeg 0) 9 (x1).toNatClampNeg) - 1)) R G nc ns)) (fun n => rfl) ?_
          refine zW.putf (σ1 := (zN L X (zup (zup (zup (zup (zup h 12 (x1).toNatClampNeg ((h 12 (x1).toNatClampNeg) - x2)) 11 (x1).toNatClampNeg 6) 12 (x1).toNatClampNeg 0) 9 (x1).toNatClampNeg (((zup (zup (zup h 12 (x1).toNatClampNeg ((h 12 (x1).toNatClampNeg) - x2)) 11 (x1).toNatClampNeg 6) 12 (x1).toNatClampNeg 0) 9 (x1).toNatClampNeg) - 1)) 7 13 (((zup (zup (zup (zup h 12 (x1).toNatClampNeg ((h 12 (x1).toNatClampNeg) - x2)) 11 (x1).toNatClampNeg 6) 12 (x1).toNatClampNeg 0) 9 (x1).toNatClampNeg (((zup (zup (zup h 12 (x1).toNatClampNeg ((h 12 (x1).toNatClampNeg) - x2)) 11 (x1).toNatClampNeg 6) 12 (x1).toNatClampNeg 0) 9 (x1).toNatClampNeg) - 1)) 7 13) + 1)) R G nc ns)) rfl rfl rfl rfl rfl ?_
          refine zW.run 1 (pc' := 108) (ls' := [some (.ref 7), some (.int x1), some (.int x2)]) (st' := [.ref 7]) (σ' := (zN L X (zup (zup (zup (zup (zup h 12 (x1).toNatClampNeg ((h 12 (x1).toNatClampNeg) - x2)) 11 (x1).toNatClampNeg 6) 12 (x1).toNatClampNeg 0) 9 (x1).toNatClampNeg (((zup (zup (zup h 12 (x1).toNatClampNeg ((h 12 (x1).toNatClampNeg) - x2)) 11 (x1).toNatClampNeg 6) 12 (x1).toNatClampNeg 0) 9 (x1).toNatClampNeg) - 1)) 7 13 (((zup (zup (zup (zup h 12 (x1).toNatClampNeg ((h 12 (x1).toNatClampNeg) - x2)) 11 (x1).toNatClampNeg 6) 12 (x1).toNatClampNeg 0) 9 (x1).toNatClampNeg (((zup (zup (zup h 12 (x1).toNatClampNeg ((h 12 (x1).toNatClampNeg) - x2)) 11 (x1).toNatClampNeg 6) 12 (x1).toNatClampNeg 0) 9 (x1).toNatClampNeg) - 1)) 7 13) + 1)) R G nc ns)) (fun n => rfl) ?_
          refine zW.getf (v := .ref 22) rfl rfl (zr_7_5 S) ?_
          refine zW.run 1 (pc' := 113) (ls' := [some (.ref 7), some (.int x1), some (.int x2)]) (st' := [.int (-8), .ref 22]) (σ' := (zN L X (zup (zup (zup (zup (zup h 12 (x1).toNatClampNeg ((h 12 (x1).toNatClampNeg) - x2)) 11 (x1).toNatClampNeg 6) 12 (x1).toNatClampNeg 0) 9 (x1).toNatClampNeg (((zup (zup (zup h 12 (x1).toNatClampNeg ((h 12 (x1).toNatClampNeg) - x2)) 11 (x1).toNatClampNeg 6) 12 (x1).toNatClampNeg 0) 9 (x1).toNatClampNeg) - 1)) 7 13 (((zup (zup (zup (zup h 12 (x1).toNatClampNeg ((h 12 (x1).toNatClampNeg) - x2)) 11 (x1).toNatClampNeg 6) 12 (x1).toNatClampNeg 0) 9 (x1).toNatClampNeg (((zup (zup (zup h 12 (x1).toNatClampNeg ((h 12 (x1).toNatClampNeg) - x2)) 11 (x1).toNatClampNeg 6) 12 (x1).toNatClampNeg 0) 9 (x1).toNatClampNeg) - 1)) 7 13) + 1)) R G nc ns)) (fun n => rfl) ?_
          refine zW.callV rfl (by decide) rfl rfl rfl rfl rfl (Nat.le_of_ble_eq_true rfl) ?_
          refine b_Side_changeMorale S rfl ?_
          show zW ro 128 116 [some (.ref 7), some (.int x1), some (.int x2)] [] (zN L X (s_Side_changeMorale (zup (zup (zup (zup (zup h 12 (x1).toNatClampNeg ((h 12 (x1).toNatClampNeg) - x2)) 11 (x1).toNatClampNeg 6) 12 (x1).toNatClampNeg 0) 9 (x1).toNatClampNeg (((zup (zup (zup h 12 (x1).toNatClampNeg ((h 12 (x1).toNatClampNeg) - x2)) 11 (x1).toNatClampNeg 6) 12 (x1).toNatClampNeg 0) 9 (x1).toNatClampNeg) - 1)) 7 13 (((zup (zup (zup (zup h 12 (x1).toNatClampNeg ((h 12 (x1).toNatClampNeg) - x2)) 11 (x1).toNatClampNeg 6) 12 (x1).toNatClampNeg 0) 9 (x1).toNatClampNeg (((zup (zup (zup h 12 (x1).toNatClampNeg ((h 12 (x1).toNatClampNeg) - x2)) 11 (x1).toNatClampNeg 6) 12 (x1).toNatClampNeg 0) 9 (x1).toNatClampNeg) - 1)) 7 13) + 1)) 22 (-8)) R G nc ns) Q
          exact zW.vret rfl (by simp only [if_neg c1, if_pos c2, if_pos c3, if_neg c4] at hQ; exact hQ)
      · skip
        exact zW.vret rfl (by simp only [if_neg c1, if_pos c2, if_neg c3] at hQ; exact hQ)
    · skip
      exact zW.vret rfl (by simp only [if_neg c1, if_neg c2] at hQ; exact hQ)
def v_Duties_toilNeeded (h : zH) (x1 : Int32) : Int32 := if x1 = 0 then 20 else if x1 = 1 then 30 else if x1 = 2 then 24 else 60
theorem b_Duties_toilNeeded (S : zSR R) {x1 : Int32}  (hQ : Q (.inl (some (.int (v_Duties_toilNeeded h x1)))) (zN L X h R G nc ns)) : zW ro 55 0 (zfst [.int x1] 1) [] (zN L X h R G nc ns) Q := by
  unfold v_Duties_toilNeeded at hQ
  show zW ro 55 0 [some (.int x1)] [] (zN L X h R G nc ns) Q
  refine zW.run 1 (pc' := 1) (ls' := [some (.int x1)]) (st' := [.int x1]) (σ' := (zN L X h R G nc ns)) (fun n => rfl) ?_
  refine zW.tab rfl (fun d9 => ?_) (fun j9 t9 e9 f9 => ?_) (by decide)
  · skip
    have c1 : ¬ x1 = 0 := ztab_out d9 (by decide)
    have c2 : ¬ x1 = 1 := ztab_out d9 (by decide)
    have c3 : ¬ x1 = 2 := ztab_out d9 (by decide)
    refine zW.run 1 (pc' := 39) (ls' := [some (.int x1)]) (st' := [.int 60]) (σ' := (zN L X h R G nc ns)) (fun n => rfl) ?_
    exact zW.iret rfl rfl (rfl) (by simp only [if_neg c1, if_neg c2, if_neg c3] at hQ; exact hQ)
  · skip
    match j9, e9, f9 with
    | 0, e9, f9 =>
      cases f9
      have c1 : x1 = 0 := ztab_in e9 (by decide)
      refine zW.run 1 (pc' := 30) (ls' := [some (.int x1)]) (st' := [.int 20]) (σ' := (zN L X h R G nc ns)) (fun n => rfl) ?_
      exact zW.iret rfl rfl (rfl) (by simp only [if_pos c1] at hQ; exact hQ)
    | 1, e9, f9 =>
      cases f9
      have c2 : x1 = 1 := ztab_in e9 (by decide)
      have c1 : ¬ x1 = 0 := by rw [c2]; decide
      refine zW.run 1 (pc' := 33) (ls' := [some (.int x1)]) (st' := [.int 30]) (σ' := (zN L X h R G nc ns)) (fun n => rfl) ?_
      exact zW.iret rfl rfl (rfl) (by simp only [if_neg c1, if_pos c2] at hQ; exact hQ)
    | 2, e9, f9 =>
      cases f9
      have c3 : x1 = 2 := ztab_in e9 (by decide)
      have c1 : ¬ x1 = 0 := by rw [c3]; decide
      have c2 : ¬ x1 = 1 := by rw [c3]; decide
      refine zW.run 1 (pc' := 36) (ls' := [some (.int x1)]) (st' := [.int 24]) (σ' := (zN L X h R G nc ns)) (fun n => rfl) ?_
      exact zW.iret rfl rfl (rfl) (by simp only [if_neg c1, if_neg c2, if_pos c3] at hQ; exact hQ)
    | n9 + 3, e9, f9 => cases f9
def v_Duties_quarterOf (h : zH) (x1 : Int32) : Int32 := if 8 ≤ x1 then (x1 / 4) else 1
theorem b_Duties_quarterOf (S : zSR R) {x1 : Int32}  (hQ : Q (.inl (some (.int (v_Duties_quarterOf h x1)))) (zN L X h R G nc ns)) : zW ro 52 0 (zfst [.int x1] 1) [] (zN L X h R G nc ns) Q := by
  unfold v_Duties_quarterOf at hQ
  show zW ro 52 0 [some (.int x1)] [] (zN L X h R G nc ns) Q
  refine zW.run 2 (pc' := 3) (ls' := [some (.int x1)]) (st' := [.int 8, .int x1]) (σ' := (zN L X h R G nc ns)) (fun n => rfl) ?_
  refine zW.icmp_ge rfl (fun c1 => ?_) (fun c1 => ?_)
  · skip
    refine zW.run 2 (pc' := 12) (ls' := [some (.int x1)]) (st' := [.int 4, .int x1]) (σ' := (zN L X h R G nc ns)) (fun n => rfl) ?_
    refine zW.idiv rfl (by decide) ?_
    exact zW.iret rfl rfl (rfl) (by simp only [if_pos c1] at hQ; exact hQ)
  · skip
    refine zW.run 2 (pc' := 13) (ls' := [some (.int x1)]) (st' := [.int 1]) (σ' := (zN L X h R G nc ns)) (fun n => rfl) ?_
    exact zW.iret rfl rfl (rfl) (by simp only [if_neg c1] at hQ; exact hQ)
def v_Duties_attackOf (h : zH) (o1 : Nat) : Int32 := if (v_Siege_isNight h) = 0 then (v_Siege_forceOf h o1) else (((v_Siege_forceOf h o1) * 5) / 4)
theorem b_Duties_attackOf (S : zSR R) {o1 : Nat} (k1 : (zK0 L ++ X)[o1]? = some (4, 6)) (hQ : Q (.inl (some (.int (v_Duties_attackOf h o1)))) (zN L X h R G nc ns)) : zW ro 40 0 (zfst [.ref 7, .ref o1] 3) [] (zN L X h R G nc ns) Q := by
  unfold v_Duties_attackOf at hQ
  show zW ro 40 0 [some (.ref 7), some (.ref o1), none] [] (zN L X h R G nc ns) Q
  refine zW.run 2 (pc' := 2) (ls' := [some (.ref 7), some (.ref o1), none]) (st' := [.ref o1, .ref 7]) (σ' := (zN L X h R G nc ns)) (fun n => rfl) ?_
  refine zW.callV rfl (by decide) rfl rfl rfl rfl rfl (Nat.le_of_ble_eq_true rfl) ?_
  refine b_Siege_forceOf S k1 ?_
  show zW ro 40 5 [some (.ref 7), some (.ref o1), none] [.int (v_Siege_forceOf h o1)] (zN L X h R G nc ns) Q
  refine zW.run 2 (pc' := 7) (ls' := [some (.ref 7), some (.ref o1), some (.int (v_Siege_forceOf h o1))]) (st' := [.ref 7]) (σ' := (zN L X h R G nc ns)) (fun n => rfl) ?_
  refine zW.callV rfl (by decide) rfl rfl rfl rfl rfl (Nat.le_of_ble_eq_true rfl) ?_
  refine b_Siege_isNight S  ?_
  show zW ro 40 10 [some (.ref 7), some (.ref o1), some (.int (v_Siege_forceOf h o1))] [.int (v_Siege_isNight h)] (zN L X h R G nc ns) Q
  refine zW.if_eq rfl (fun c1 => ?_) (fun c1 => ?_)
  · skip
    refine zW.run 1 (pc' := 22) (ls' := [some (.ref 7), some (.ref o1), some (.int (v_Siege_forceOf h o1))]) (st' := [.int (v_Siege_forceOf h o1)]) (σ' := (zN L X h R G nc ns)) (fun n => rfl) ?_
    exact zW.iret rfl rfl (rfl) (by simp only [if_pos c1] at hQ; exact hQ)
  · skip
    refine zW.run 4 (pc' := 17) (ls' := [some (.ref 7), some (.ref o1), some (.int (v_Siege_forceOf h o1))]) (st' := [.int 4, .int ((v_Siege_forceOf h o1) * 5)]) (σ' := (zN L X h R G nc ns)) (fun n => rfl) ?_
    refine zW.idiv rfl (by decide) ?_
    refine zW.run 1 (pc' := 22) (ls' := [some (.ref 7), some (.ref o1), some (.int (v_Siege_forceOf h o1))]) (st' := [.int (((v_Siege_forceOf h o1) * 5) / 4)]) (σ' := (zN L X h R G nc ns)) (fun n => rfl) ?_
    exact zW.iret rfl rfl (rfl) (by simp only [if_neg c1] at hQ; exact hQ)
def v_Duties_canAssault (h : zH) (x1 : Int32) (x2 : Int32) : Int32 := if (v_Ground_workOf h x2) = 1 then 0 else if (v_Ground_touches h x1 x2) = 0 then 0 else if (v_Ground_workOf h x2) = 2 then if (v_Ground_workOf h x1) = 5 then 1 else if (v_Ground_workOf h x1) = 7 then 1 else if (v_Ground_workOf h x1) = 2 then 1 else 0 else 1
theorem b_Duties_canAssault (S : zSR R) {x1 : Int32} {x2 : Int32}  (hQ : Q (.inl (some (.int (v_Duties_canAssault h x1 x2)))) (zN L X h R G nc ns)) : zW ro 42 0 (zfst [.ref 8, .int x1, .int x2] 5) [] (zN L X h R G nc ns) Q := by
  unfold v_Duties_canAssault at hQ
  show zW ro 42 0 [some (.ref 8), some (.int x1), some (.int x2), none, none] [] (zN L X h R G nc ns) Q
  refine zW.run 2 (pc' := 2) (ls' := [some (.ref 8), some (.int x1), some (.int x2), none, none]) (st' := [.int x2, .ref 8]) (σ' := (zN L X h R G nc ns)) (fun n => rfl) ?_
  refine zW.callV rfl (by decide) rfl rfl rfl rfl rfl (Nat.le_of_ble_eq_true rfl) ?_
  refine b_Ground_workOf S  ?_
  show zW ro 42 5 [some (.ref 8), some (.int x1), some (.int x2), none, none] [.int (v_Ground_workOf h x2)] (zN L X h R G nc ns) Q
  refine zW.run 3 (pc' := 8) (ls' := [some (.ref 8), some (.int x1), some (.int x2), some (.int (v_Ground_workOf h x2)), none]) (st' := [.int 1, .int (v_Ground_workOf h x2)]) (σ' := (zN L X h R G nc ns)) (fun n => rfl) ?_
  refine zW.icmp_eq rfl (fun c1 => ?_) (fun c1 => ?_)
  · skip
    refine zW.run 1 (pc' := 21) (ls' := [some (.ref 8), some (.int x1), some (.int x2), some (.int (v_Ground_workOf h x2)), none]) (st' := [.int 0]) (σ' := (zN L X h R G nc ns)) (fun n => rfl) ?_
    exact zW.iret rfl rfl (znb0) (by simp only [if_pos c1] at hQ; exact hQ)
  · skip
    refine zW.run 3 (pc' := 14) (ls' := [some (.ref 8), some (.int x1), some (.int x2), some (.int (v_Ground_workOf h x2)), none]) (st' := [.int x2, .int x1, .ref 8]) (σ' := (zN L X h R G nc ns)) (fun n => rfl) ?_
    refine zW.callV rfl (by decide) rfl rfl rfl rfl rfl (Nat.le_of_ble_eq_true rfl) ?_
    refine b_Ground_touches S  ?_
    show zW ro 42 17 [some (.ref 8), some (.int x1), some (.int x2), some (.int (v_Ground_workOf h x2)), none] [.int (v_Ground_touches h x1 x2)] (zN L X h R G nc ns) Q
    refine zW.if_ne rfl (fun c2 => ?_) (fun c2 => ?_)
    · skip
      refine zW.run 2 (pc' := 24) (ls' := [some (.ref 8), some (.int x1), some (.int x2), some (.int (v_Ground_workOf h x2)), none]) (st' := [.int x1, .ref 8]) (σ' := (zN L X h R G nc ns)) (fun n => rfl) ?_
      refine zW.callV rfl (by decide) rfl rfl rfl rfl rfl (Nat.le_of_ble_eq_true rfl) ?_
      refine b_Ground_workOf S  ?_
      show zW ro 42 27 [some (.ref 8), some (.int x1), some (.int x2), some (.int (v_Ground_workOf h x2)), none] [.int (v_Ground_workOf h x1)] (zN L X h R G nc ns) Q
      refine zW.run 3 (pc' := 31) (ls' := [some (.ref 8), some (.int x1), some (.int x2), some (.int (v_Ground_workOf h x2)), some (.int (v_Ground_workOf h x1))]) (st' := [.int 2, .int (v_Ground_workOf h x2)]) (σ' := (zN L X h R G nc ns)) (fun n => rfl) ?_
      refine zW.icmp_ne rfl (fun c3 => ?_) (fun c3 => ?_)
      · skip
        refine zW.run 2 (pc' := 58) (ls' := [some (.ref 8), some (.int x1), some (.int x2), some (.int (v_Ground_workOf h x2)), some (.int (v_Ground_workOf h x1))]) (st' := [.int 1]) (σ' := (zN L X h R G nc ns)) (fun n => rfl) ?_
        exact zW.iret rfl rfl (znb1) (by simp only [if_neg c1, if_neg c2, if_neg c3] at hQ; exact hQ)
      · skip
        refine zW.run 2 (pc' := 37) (ls' := [some (.ref 8), some (.int x1), some (.int x2), some (.int (v_Ground_workOf h x2)), some (.int (v_Ground_workOf h x1))]) (st' := [.int 5, .int (v_Ground_workOf h x1)]) (σ' := (zN L X h R G nc ns)) (fun n => rfl) ?_
        refine zW.icmp_eq rfl (fun c4 => ?_) (fun c4 => ?_)
        · skip
          refine zW.run 2 (pc' := 58) (ls' := [some (.ref 8), some (.int x1), some (.int x2), some (.int (v_Ground_workOf h x2)), some (.int (v_Ground_workOf h x1))]) (st' := [.int 1]) (σ' := (zN L X h R G nc ns)) (fun n => rfl) ?_
          exact zW.iret rfl rfl (znb1) (by simp only [if_neg c1, if_neg c2, if_pos c3, if_pos c4] at hQ; exact hQ)
        · skip
          refine zW.run 2 (pc' := 44) (ls' := [some (.ref 8), some (.int x1), some (.int x2), some (.int (v_Ground_workOf h x2)), some (.int (v_Ground_workOf h x1))]) (st' := [.int 7, .int (v_Ground_workOf h x1)]) (σ' := (zN L X h R G nc ns)) (fun n => rfl) ?_
          refine zW.icmp_eq rfl (fun c5 => ?_) (fun c5 => ?_)
          · skip
            refine zW.run 2 (pc' := 58) (ls' := [some (.ref 8), some (.int x1), some (.int x2), some (.int (v_Ground_workOf h x2)), some (.int (v_Ground_workOf h x1))]) (st' := [.int 1]) (σ' := (zN L X h R G nc ns)) (fun n => rfl) ?_
            exact zW.iret rfl rfl (znb1) (by simp only [if_neg c1, if_neg c2, if_pos c3, if_neg c4, if_pos c5] at hQ; exact hQ)
          · skip
            refine zW.run 2 (pc' := 50) (ls' := [some (.ref 8), some (.int x1), some (.int x2), some (.int (v_Ground_workOf h x2)), some (.int (v_Ground_workOf h x1))]) (st' := [.int 2, .int (v_Ground_workOf h x1)]) (σ' := (zN L X h R G nc ns)) (fun n => rfl) ?_
            refine zW.icmp_ne rfl (fun c6 => ?_) (fun c6 => ?_)
            · skip
              refine zW.run 1 (pc' := 58) (ls' := [some (.ref 8), some (.int x1), some (.int x2), some (.int (v_Ground_workOf h x2)), some (.int (v_Ground_workOf h x1))]) (st' := [.int 0]) (σ' := (zN L X h R G nc ns)) (fun n => rfl) ?_
              exact zW.iret rfl rfl (znb0) (by simp only [if_neg c1, if_neg c2, if_pos c3, if_neg c4, if_neg c5, if_neg c6] at hQ; exact hQ)
            · skip
              refine zW.run 2 (pc' := 58) (ls' := [some (.ref 8), some (.int x1), some (.int x2), some (.int (v_Ground_workOf h x2)), some (.int (v_Ground_workOf h x1))]) (st' := [.int 1]) (σ' := (zN L X h R G nc ns)) (fun n => rfl) ?_
              exact zW.iret rfl rfl (znb1) (by simp only [if_neg c1, if_neg c2, if_pos c3, if_neg c4, if_neg c5, if_pos c6] at hQ; exact hQ)
    · skip
      refine zW.run 1 (pc' := 21) (ls' := [some (.ref 8), some (.int x1), some (.int x2), some (.int (v_Ground_workOf h x2)), none]) (st' := [.int 0]) (σ' := (zN L X h R G nc ns)) (fun n => rfl) ?_
      exact zW.iret rfl rfl (znb0) (by simp only [if_neg c1, if_pos c2] at hQ; exact hQ)
theorem n_Duties_canAssault (h : zH) (x1 : Int32) (x2 : Int32) : narrow .boolean (.int (v_Duties_canAssault h x1 x2)) = .int (v_Duties_canAssault h x1 x2) := by
  unfold v_Duties_canAssault
  by_cases c1 : (v_Ground_workOf h x2) = 1
  · rw [if_pos c1]
    exact znb0
  · rw [if_neg c1]
    by_cases c2 : (v_Ground_touches h x1 x2) = 0
    · rw [if_pos c2]
      exact znb0
    · rw [if_neg c2]
      by_cases c3 : (v_Ground_workOf h x2) = 2
      · rw [if_pos c3]
        by_cases c4 : (v_Ground_workOf h x1) = 5
        · rw [if_pos c4]
          exact znb1
        · rw [if_neg c4]
          by_cases c5 : (v_Ground_workOf h x1) = 7
          · rw [if_pos c5]
            exact znb1
          · rw [if_neg c5]
            by_cases c6 : (v_Ground_workOf h x1) = 2
            · rw [if_pos c6]
              exact znb1
            · rw [if_neg c6]
              exact znb0
      · rw [if_neg c3]
        exact znb1
def v_Mining_isMouth (h : zH) (x1 : Int32) (x2 : Int32) : Int32 := if x1 = 0 then if x2 = 5 then 1 else 0 else if x2 = 1 then 1 else if x2 = 3 then 1 else if x2 = 4 then 1 else 0
theorem b_Mining_isMouth (S : zSR R) {x1 : Int32} {x2 : Int32}  (hQ : Q (.inl (some (.int (v_Mining_isMouth h x1 x2)))) (zN L X h R G nc ns)) : zW ro 113 0 (zfst [.int x1, .int x2] 2) [] (zN L X h R G nc ns) Q := by
  unfold v_Mining_isMouth at hQ
  show zW ro 113 0 [some (.int x1), some (.int x2)] [] (zN L X h R G nc ns) Q
  refine zW.run 1 (pc' := 1) (ls' := [some (.int x1), some (.int x2)]) (st' := [.int x1]) (σ' := (zN L X h R G nc ns)) (fun n => rfl) ?_
  refine zW.if_ne rfl (fun c1 => ?_) (fun c1 => ?_)
  · skip
    refine zW.run 2 (pc' := 17) (ls' := [some (.int x1), some (.int x2)]) (st' := [.int 1, .int x2]) (σ' := (zN L X h R G nc ns)) (fun n => rfl) ?_
    refine zW.icmp_eq rfl (fun c2 => ?_) (fun c2 => ?_)
    · skip
      refine zW.run 2 (pc' := 35) (ls' := [some (.int x1), some (.int x2)]) (st' := [.int 1]) (σ' := (zN L X h R G nc ns)) (fun n => rfl) ?_
      exact zW.iret rfl rfl (znb1) (by simp only [if_neg c1, if_pos c2] at hQ; exact hQ)
    · skip
      refine zW.run 2 (pc' := 22) (ls' := [some (.int x1), some (.int x2)]) (st' := [.int 3, .int x2]) (σ' := (zN L X h R G nc ns)) (fun n => rfl) ?_
      refine zW.icmp_eq rfl (fun c3 => ?_) (fun c3 => ?_)
      · skip
        refine zW.run 2 (pc' := 35) (ls' := [some (.int x1), some (.int x2)]) (st' := [.int 1]) (σ' := (zN L X h R G nc ns)) (fun n => rfl) ?_
        exact zW.iret rfl rfl (znb1) (by simp only [if_neg c1, if_neg c2, if_pos c3] at hQ; exact hQ)
      · skip
        refine zW.run 2 (pc' := 27) (ls' := [some (.int x1), some (.int x2)]) (st' := [.int 4, .int x2]) (σ' := (zN L X h R G nc ns)) (fun n => rfl) ?_
        refine zW.icmp_ne rfl (fun c4 => ?_) (fun c4 => ?_)
        · skip
          refine zW.run 1 (pc' := 35) (ls' := [some (.int x1), some (.int x2)]) (st' := [.int 0]) (σ' := (zN L X h R G nc ns)) (fun n => rfl) ?_
          exact zW.iret rfl rfl (znb0) (by simp only [if_neg c1, if_neg c2, if_neg c3, if_neg c4] at hQ; exact hQ)
        · skip
          refine zW.run 2 (pc' := 35) (ls' := [some (.int x1), some (.int x2)]) (st' := [.int 1]) (σ' := (zN L X h R G nc ns)) (fun n => rfl) ?_
          exact zW.iret rfl rfl (znb1) (by simp only [if_neg c1, if_neg c2, if_neg c3, if_pos c4] at hQ; exact hQ)
  · skip
    refine zW.run 2 (pc' := 6) (ls' := [some (.int x1), some (.int x2)]) (st' := [.int 5, .int x2]) (σ' := (zN L X h R G nc ns)) (fun n => rfl) ?_
    refine zW.icmp_ne rfl (fun c2 => ?_) (fun c2 => ?_)
    · skip
      refine zW.run 1 (pc' := 14) (ls' := [some (.int x1), some (.int x2)]) (st' := [.int 0]) (σ' := (zN L X h R G nc ns)) (fun n => rfl) ?_
      exact zW.iret rfl rfl (znb0) (by simp only [if_pos c1, if_neg c2] at hQ; exact hQ)
    · skip
      refine zW.run 2 (pc' := 14) (ls' := [some (.int x1), some (.int x2)]) (st' := [.int 1]) (σ' := (zN L X h R G nc ns)) (fun n => rfl) ?_
      exact zW.iret rfl rfl (znb1) (by simp only [if_pos c1, if_pos c2] at hQ; exact hQ)
theorem n_Mining_isMouth (h : zH) (x1 : Int32) (x2 : Int32) : narrow .boolean (.int (v_Mining_isMouth h x1 x2)) = .int (v_Mining_isMouth h x1 x2) := by
  unfold v_Mining_isMouth
  by_cases c1 : x1 = 0
  · rw [if_pos c1]
    by_cases c2 : x2 = 5
    · rw [if_pos c2]
      exact znb1
    · rw [if_neg c2]
      exact znb0
  · rw [if_neg c1]
    by_cases c2 : x2 = 1
    · rw [if_pos c2]
      exact znb1
    · rw [if_neg c2]
      by_cases c3 : x2 = 3
      · rw [if_pos c3]
        exact znb1
      · rw [if_neg c3]
        by_cases c4 : x2 = 4
        · rw [if_pos c4]
          exact znb1
        · rw [if_neg c4]
          exact znb0
def v_L_below (h : zH) (x1 : Int32) (x2 : Int32) : Int32 := ((x1 &&& 2147483647) - (x1 &&& 2147483647) / x2 * x2)
theorem b_L_below (S : zSR R) {x1 : Int32} {x2 : Int32} (p1 : ¬ x2 = 0) (hQ : Q (.inl (some (.int (v_L_below h x1 x2)))) (zN L X h R G nc ns)) : zW ro 160 0 (zfst [.int x1, .int x2] 2) [] (zN L X h R G nc ns) Q := by
  show zW ro 160 0 [some (.int x1), some (.int x2)] [] (zN L X h R G nc ns) Q
  refine zW.run 4 (pc' := 5) (ls' := [some (.int x1), some (.int x2)]) (st' := [.int x2, .int (x1 &&& 2147483647)]) (σ' := (zN L X h R G nc ns)) (fun n => rfl) ?_
  refine zW.irem rfl (p1) ?_
  exact zW.iret rfl rfl (rfl) hQ
def s_Midnight_bringSupply (h : zH)  : zH := if (h 23 6) = 0 then (zup (zup (zup h 21 0 ((h 21 0) + (h 7 15))) 21 10 (((zup h 21 0 ((h 21 0) + (h 7 15))) 21 10) + ((zup h 21 0 ((h 21 0) + (h 7 15))) 7 15))) 21 1 (((zup (zup h 21 0 ((h 21 0) + (h 7 15))) 21 10 (((zup h 21 0 ((h 21 0) + (h 7 15))) 21 10) + ((zup h 21 0 ((h 21 0) + (h 7 15))) 7 15))) 21 1) + ((zup (zup h 21 0 ((h 21 0) + (h 7 15))) 21 10 (((zup h 21 0 ((h 21 0) + (h 7 15))) 21 10) + ((zup h 21 0 ((h 21 0) + (h 7 15))) 7 15))) 7 15))) else h
theorem b_Midnight_bringSupply (S : zSR R)   (hQ : Q (.inl none) (zN L X (s_Midnight_bringSupply h) R G nc ns)) : zW ro 94 0 (zfst [.ref 7] 1) [] (zN L X h R G nc ns) Q := by
  unfold s_Midnight_bringSupply at hQ
  show zW ro 94 0 [some (.ref 7)] [] (zN L X h R G nc ns) Q
  refine zW.run 1 (pc' := 1) (ls' := [some (.ref 7)]) (st' := [.ref 7]) (σ' := (zN L X h R G nc ns)) (fun n => rfl) ?_
  refine zW.getf (v := .ref 23) rfl rfl (zr_7_6 S) ?_
  refine zW.run 1 (pc' := 7) (ls' := [some (.ref 7)]) (st' := [.int (h 23 6)]) (σ' := (zN L X h R G nc ns)) (fun n => rfl) ?_
  refine zW.if_eq rfl (fun c1 => ?_) (fun c1 => ?_)
  · skip
    refine zW.run 1 (pc' := 12) (ls' := [some (.ref 7)]) (st' := [.ref 7]) (σ' := (zN L X h R G nc ns)) (fun n => rfl) ?_
    refine zW.getf (v := .ref 21) rfl rfl (zr_7_4 S) ?_
    refine zW.run 5 (pc' := 24) (ls' := [some (.ref 7)]) (st' := [.int ((h 21 0) + (h 7 15)), .ref 21]) (σ' := (zN L X h R G nc ns)) (fun n => rfl) ?_
    refine zW.putf (σ1 := (zN L X (zup h 21 0 ((h 21 0) + (h 7 15))) R G nc ns)) rfl rfl rfl rfl rfl ?_
    refine zW.run 1 (pc' := 28) (ls' := [some (.ref 7)]) (st' := [.ref 7]) (σ' := (zN L X (zup h 21 0 ((h 21 0) + (h 7 15))) R G nc ns)) (fun n => rfl) ?_
    refine zW.getf (v := .ref 21) rfl rfl (zr_7_4 S) ?_
    refine zW.run 5 (pc' := 40) (ls' := [some (.ref 7)]) (st' := [.int (((zup h 21 0 ((h 21 0) + (h 7 15))) 21 10) + ((zup h 21 0 ((h 21 0) + (h 7 15))) 7 15)), .ref 21]) (σ' := (zN L X (zup h 21 0 ((h 21 0) + (h 7 15))) R G nc ns)) (fun n => rfl) ?_
    refine zW.putf (σ1 := (zN L X (zup (zup h 21 0 ((h 21 0) + (h 7 15))) 21 10 (((zup h 21 0 ((h 21 0) + (h 7 15))) 21 10) + ((zup h 21 0 ((h 21 0) + (h 7 15))) 7 15))) R G nc ns)) rfl rfl rfl rfl rfl ?_
    refine zW.run 1 (pc' := 44) (ls' := [some (.ref 7)]) (st' := [.ref 7]) (σ' := (zN L X (zup (zup h 21 0 ((h 21 0) + (h 7 15))) 21 10 (((zup h 21 0 ((h 21 0) + (h 7 15))) 21 10) + ((zup h 21 0 ((h 21 0) + (h 7 15))) 7 15))) R G nc ns)) (fun n => rfl) ?_
    refine zW.getf (v := .ref 21) rfl rfl (zr_7_4 S) ?_
    refine zW.run 5 (pc' := 56) (ls' := [some (.ref 7)]) (st' := [.int (((zup (zup h 21 0 ((h 21 0) + (h 7 15))) 21 10 (((zup h 21 0 ((h 21 0) + (h 7 15))) 21 10) + ((zup h 21 0 ((h 21 0) + (h 7 15))) 7 15))) 21 1) + ((zup (zup h 21 0 ((h 21 0) + (h 7 15))) 21 10 (((zup h 21 0 ((h 21 0) + (h 7 15))) 21 10) + ((zup h 21 0 ((h 21 0) + (h 7 15))) 7 15))) 7 15)), .ref 21]) (σ' := (zN L X (zup (zup h 21 0 ((h 21 0) + (h 7 15))) 21 10 (((zup h 21 0 ((h 21 0) + (h 7 15))) 21 10) + ((zup h 21 0 ((h 21 0) + (h 7 15))) 7 15))) R G nc ns)) (fun n => rfl) ?_
    refine zW.putf (σ1 := (zN L X (zup (zup (zup h 21 0 ((h 21 0) + (h 7 15))) 21 10 (((zup h 21 0 ((h 21 0) + (h 7 15))) 21 10) + ((zup h 21 0 ((h 21 0) + (h 7 15))) 7 15))) 21 1 (((zup (zup h 21 0 ((h 21 0) + (h 7 15))) 21 10 (((zup h 21 0 ((h 21 0) + (h 7 15))) 21 10) + ((zup h 21 0 ((h 21 0) + (h 7 15))) 7 15))) 21 1) + ((zup (zup h 21 0 ((h 21 0) + (h 7 15))) 21 10 (((zup h 21 0 ((h 21 0) + (h 7 15))) 21 10) + ((zup h 21 0 ((h 21 0) + (h 7 15))) 7 15))) 7 15))) R G nc ns)) rfl rfl rfl rfl rfl ?_
    exact zW.vret rfl (by simp only [if_pos c1] at hQ; exact hQ)
  · skip
    exact zW.vret rfl (by simp only [if_neg c1] at hQ; exact hQ)
def v_Math_floorDiv (h : zH) (x1 : Int32) (x2 : Int32) : Int32 := if 0 ≤ (x1 ^^^ x2) then (x1 / x2) else if ((x1 / x2) * x2) = x1 then (x1 / x2) else ((x1 / x2) - 1)
theorem b_Math_floorDiv (S : zSR R) {x1 : Int32} {x2 : Int32} (p1 : ¬ x2 = 0) (hQ : Q (.inl (some (.int (v_Math_floorDiv h x1 x2)))) (zN L X h R G nc ns)) : zW ro 170 0 (zfst [.int x1, .int x2] 3) [] (zN L X h R G nc ns) Q := by
  unfold v_Math_floorDiv at hQ
  show zW ro 170 0 [some (.int x1), some (.int x2), none] [] (zN L X h R G nc ns) Q
  refine zW.run 2 (pc' := 2) (ls' := [some (.int x1), some (.int x2), none]) (st' := [.int x2, .int x1]) (σ' := (zN L X h R G nc ns)) (fun n => rfl) ?_
  refine zW.idiv rfl (p1) ?_
  refine zW.run 4 (pc' := 7) (ls' := [some (.int x1), some (.int x2), some (.int (x1 / x2))]) (st' := [.int (x1 ^^^ x2)]) (σ' := (zN L X h R G nc ns)) (fun n => rfl) ?_
  refine zW.if_ge rfl (fun c1 => ?_) (fun c1 => ?_)
  · skip
    refine zW.run 1 (pc' := 22) (ls' := [some (.int x1), some (.int x2), some (.int (x1 / x2))]) (st' := [.int (x1 / x2)]) (σ' := (zN L X h R G nc ns)) (fun n => rfl) ?_
    exact zW.iret rfl rfl (rfl) (by simp only [if_pos c1] at hQ; exact hQ)
  · skip
    refine zW.run 4 (pc' := 14) (ls' := [some (.int x1), some (.int x2), some (.int (x1 / x2))]) (st' := [.int x1, .int ((x1 / x2) * x2)]) (σ' := (zN L X h R G nc ns)) (fun n => rfl) ?_
    refine zW.icmp_eq rfl (fun c2 => ?_) (fun c2 => ?_)
    · skip
      refine zW.run 1 (pc' := 22) (ls' := [some (.int x1), some (.int x2), some (.int (x1 / x2))]) (st' := [.int (x1 / x2)]) (σ' := (zN L X h R G nc ns)) (fun n => rfl) ?_
      exact zW.iret rfl rfl (rfl) (by simp only [if_neg c1, if_pos c2] at hQ; exact hQ)
    · skip
      refine zW.run 3 (pc' := 20) (ls' := [some (.int x1), some (.int x2), some (.int (x1 / x2))]) (st' := [.int ((x1 / x2) - 1)]) (σ' := (zN L X h R G nc ns)) (fun n => rfl) ?_
      exact zW.iret rfl rfl (rfl) (by simp only [if_neg c1, if_neg c2] at hQ; exact hQ)
end ZB
