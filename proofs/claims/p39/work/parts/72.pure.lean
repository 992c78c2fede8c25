/-! methods that only ask: the ground (printed by program) -/
section ZB
variable {ro : Nat → Int32 → zS → Option (zO × zS)} {L : Nat} {X : zK} {s : zJ} {R : Nat → Nat → Option Nat} {G : Nat → Nat → Int64} {nc ns : Nat} {Q : zO → zS → Prop} {g : Nat → Int} {U F T B ph : Int}
set_option maxHeartbeats 4000000 in
theorem t_Math_abs (S : zSR R) {x : Int} (p0 : -2147483648 ≤ x ∧ x < 2147483648) (hQ0 : ∀ (v : Int), 0 ≤ x ∧ v = x ∨ x < 0 ∧ v = -x → Q (.inl (some (.int (Int32.ofInt v)))) (zN L X (zhi s) R G nc ns)) : zW ro 169 0 (zfst [.int (Int32.ofInt x)] 1) [] (zN L X (zhi s) R G nc ns) Q := by
  show zW ro 169 0 [some (.int (Int32.ofInt x))] [] (zN L X (zhi s) R G nc ns) Q
  refine zW.run 1 (pc' := 1) (ls' := [some (.int (Int32.ofInt x))]) (st' := [.int (Int32.ofInt x)]) (σ' := (zN L X (zhi s) R G nc ns)) (fun n => rfl) ?_
  refine zW.jif_ge rfl (by omega) (fun c1 => ?_) (fun c1 => ?_)
  · skip
    refine zW.run 1 (pc' := 10) (ls' := [some (.int (Int32.ofInt x))]) (st' := [.int (Int32.ofInt x)]) (σ' := (zN L X (zhi s) R G nc ns)) (fun n => rfl) ?_
    exact zW.jret rfl rfl (hQ0 x (by omega))
  · skip
    refine zW.run 1 (pc' := 5) (ls' := [some (.int (Int32.ofInt x))]) (st' := [.int (Int32.ofInt x)]) (σ' := (zN L X (zhi s) R G nc ns)) (fun n => rfl) ?_
    refine zW.jneg rfl ?_
    refine zW.run 1 (pc' := 10) (ls' := [some (.int (Int32.ofInt x))]) (st' := [.int (Int32.ofInt (-x))]) (σ' := (zN L X (zhi s) R G nc ns)) (fun n => rfl) ?_
    exact zW.jret rfl rfl (hQ0 (-x) (by omega))
set_option maxHeartbeats 4000000 in
theorem t_Math_max (S : zSR R) {x : Int} {y : Int} (p0 : -2147483648 ≤ x ∧ x < 2147483648) (p1 : -2147483648 ≤ y ∧ y < 2147483648) (hQ0 : ∀ (v : Int), x < y ∧ v = y ∨ y ≤ x ∧ v = x → Q (.inl (some (.int (Int32.ofInt v)))) (zN L X (zhi s) R G nc ns)) : zW ro 171 0 (zfst [.int (Int32.ofInt x), .int (Int32.ofInt y)] 2) [] (zN L X (zhi s) R G nc ns) Q := by
  show zW ro 171 0 [some (.int (Int32.ofInt x)), some (.int (Int32.ofInt y))] [] (zN L X (zhi s) R G nc ns) Q
  refine zW.run 2 (pc' := 2) (ls' := [some (.int (Int32.ofInt x)), some (.int (Int32.ofInt y))]) (st' := [.int (Int32.ofInt y), .int (Int32.ofInt x)]) (σ' := (zN L X (zhi s) R G nc ns)) (fun n => rfl) ?_
  refine zW.jcmp_lt rfl (by omega) (fun c1 => ?_) (fun c1 => ?_)
  · skip
    refine zW.run 1 (pc' := 10) (ls' := [some (.int (Int32.ofInt x)), some (.int (Int32.ofInt y))]) (st' := [.int (Int32.ofInt y)]) (σ' := (zN L X (zhi s) R G nc ns)) (fun n => rfl) ?_
    exact zW.jret rfl rfl (hQ0 y (by omega))
  · skip
    refine zW.run 2 (pc' := 10) (ls' := [some (.int (Int32.ofInt x)), some (.int (Int32.ofInt y))]) (st' := [.int (Int32.ofInt x)]) (σ' := (zN L X (zhi s) R G nc ns)) (fun n => rfl) ?_
    exact zW.jret rfl rfl (hQ0 x (by omega))
set_option maxHeartbeats 4000000 in
theorem t_Math_min (S : zSR R) {x : Int} {y : Int} (p0 : -2147483648 ≤ x ∧ x < 2147483648) (p1 : -2147483648 ≤ y ∧ y < 2147483648) (hQ0 : ∀ (v : Int), x ≤ y ∧ v = x ∨ y < x ∧ v = y → Q (.inl (some (.int (Int32.ofInt v)))) (zN L X (zhi s) R G nc ns)) : zW ro 172 0 (zfst [.int (Int32.ofInt x), .int (Int32.ofInt y)] 2) [] (zN L X (zhi s) R G nc ns) Q := by
  show zW ro 172 0 [some (.int (Int32.ofInt x)), some (.int (Int32.ofInt y))] [] (zN L X (zhi s) R G nc ns) Q
  refine zW.run 2 (pc' := 2) (ls' := [some (.int (Int32.ofInt x)), some (.int (Int32.ofInt y))]) (st' := [.int (Int32.ofInt y), .int (Int32.ofInt x)]) (σ' := (zN L X (zhi s) R G nc ns)) (fun n => rfl) ?_
  refine zW.jcmp_gt rfl (by omega) (fun c1 => ?_) (fun c1 => ?_)
  · skip
    refine zW.run 1 (pc' := 10) (ls' := [some (.int (Int32.ofInt x)), some (.int (Int32.ofInt y))]) (st' := [.int (Int32.ofInt y)]) (σ' := (zN L X (zhi s) R G nc ns)) (fun n => rfl) ?_
    exact zW.jret rfl rfl (hQ0 y (by omega))
  · skip
    refine zW.run 2 (pc' := 10) (ls' := [some (.int (Int32.ofInt x)), some (.int (Int32.ofInt y))]) (st' := [.int (Int32.ofInt x)]) (σ' := (zN L X (zhi s) R G nc ns)) (fun n => rfl) ?_
    exact zW.jret rfl rfl (hQ0 x (by omega))
set_option maxHeartbeats 4000000 in
theorem t_Math_floorDiv (S : zSR R) {x : Int32} {y : Int32} (p0 : ¬ y = 0) (hQ0 : ∀ (v : Int32), Q (.inl (some (.int v))) (zN L X (zhi s) R G nc ns)) : zW ro 170 0 (zfst [.int x, .int y] 3) [] (zN L X (zhi s) R G nc ns) Q := by
  show zW ro 170 0 [some (.int x), some (.int y), none] [] (zN L X (zhi s) R G nc ns) Q
  refine zW.run 2 (pc' := 2) (ls' := [some (.int x), some (.int y), none]) (st' := [.int y, .int x]) (σ' := (zN L X (zhi s) R G nc ns)) (fun n => rfl) ?_
  refine zW.idiv rfl (p0) ?_
  refine zW.run 4 (pc' := 7) (ls' := [some (.int x), some (.int y), some (.int (x / y))]) (st' := [.int (x ^^^ y)]) (σ' := (zN L X (zhi s) R G nc ns)) (fun n => rfl) ?_
  refine zW.if_ge rfl (fun _ => ?_) (fun _ => ?_)
  · skip
    refine zW.run 1 (pc' := 22) (ls' := [some (.int x), some (.int y), some (.int (x / y))]) (st' := [.int (x / y)]) (σ' := (zN L X (zhi s) R G nc ns)) (fun n => rfl) ?_
    exact zW.iret rfl rfl rfl (hQ0 (x / y))
  · skip
    refine zW.run 4 (pc' := 14) (ls' := [some (.int x), some (.int y), some (.int (x / y))]) (st' := [.int x, .int ((x / y) * y)]) (σ' := (zN L X (zhi s) R G nc ns)) (fun n => rfl) ?_
    refine zW.icmp_eq rfl (fun _ => ?_) (fun _ => ?_)
    · skip
      refine zW.run 1 (pc' := 22) (ls' := [some (.int x), some (.int y), some (.int (x / y))]) (st' := [.int (x / y)]) (σ' := (zN L X (zhi s) R G nc ns)) (fun n => rfl) ?_
      exact zW.iret rfl rfl rfl (hQ0 (x / y))
    · skip
      refine zW.run 3 (pc' := 20) (ls' := [some (.int x), some (.int y), some (.int (x / y))]) (st' := [.int ((x / y) - (Int32.ofInt 1))]) (σ' := (zN L X (zhi s) R G nc ns)) (fun n => rfl) ?_
      exact zW.iret rfl rfl rfl (hQ0 ((x / y) - (Int32.ofInt 1)))
set_option maxHeartbeats 4000000 in
theorem t_Ground_alongLine (S : zSR R) {x : Int} {n : Int} {k : Int} (p0 : -1000000000 ≤ n ∧ n ≤ 1000000000) (hQ0 : ∀ (v : Int32), Q (.inl (some (.int v))) (zN L X (zhi s) R G nc ns)) : zW ro 57 0 (zfst [.int (Int32.ofInt x), .int (Int32.ofInt n), .int (Int32.ofInt k)] 3) [] (zN L X (zhi s) R G nc ns) Q := by
  show zW ro 57 0 [some (.int (Int32.ofInt x)), some (.int (Int32.ofInt n)), some (.int (Int32.ofInt k))] [] (zN L X (zhi s) R G nc ns) Q
  refine zW.run 1 (pc' := 1) (ls' := [some (.int (Int32.ofInt x)), some (.int (Int32.ofInt n)), some (.int (Int32.ofInt k))]) (st' := [.int (Int32.ofInt n)]) (σ' := (zN L X (zhi s) R G nc ns)) (fun n => rfl) ?_
  refine zW.jif_le rfl (by omega) (fun c1 => ?_) (fun c1 => ?_)
  · skip
    refine zW.run 1 (pc' := 21) (ls' := [some (.int (Int32.ofInt x)), some (.int (Int32.ofInt n)), some (.int (Int32.ofInt k))]) (st' := [.int (Int32.ofInt 0)]) (σ' := (zN L X (zhi s) R G nc ns)) (fun n => rfl) ?_
    exact zW.jret rfl rfl (hQ0 (Int32.ofInt 0))
  · skip
    refine zW.run 2 (pc' := 6) (ls' := [some (.int (Int32.ofInt x)), some (.int (Int32.ofInt n)), some (.int (Int32.ofInt k))]) (st' := [.int (Int32.ofInt k), .int (Int32.ofInt 2)]) (σ' := (zN L X (zhi s) R G nc ns)) (fun n => rfl) ?_
    refine zW.jmul rfl ?_
    refine zW.run 1 (pc' := 8) (ls' := [some (.int (Int32.ofInt x)), some (.int (Int32.ofInt n)), some (.int (Int32.ofInt k))]) (st' := [.int (Int32.ofInt x), .int (Int32.ofInt (2 * k))]) (σ' := (zN L X (zhi s) R G nc ns)) (fun n => rfl) ?_
    refine zW.jmul rfl ?_
    refine zW.run 1 (pc' := 10) (ls' := [some (.int (Int32.ofInt x)), some (.int (Int32.ofInt n)), some (.int (Int32.ofInt k))]) (st' := [.int (Int32.ofInt n), .int (Int32.ofInt ((2 * k) * x))]) (σ' := (zN L X (zhi s) R G nc ns)) (fun n => rfl) ?_
    refine zW.jadd rfl ?_
    refine zW.run 2 (pc' := 13) (ls' := [some (.int (Int32.ofInt x)), some (.int (Int32.ofInt n)), some (.int (Int32.ofInt k))]) (st' := [.int (Int32.ofInt n), .int (Int32.ofInt 2), .int (Int32.ofInt (((2 * k) * x) + n))]) (σ' := (zN L X (zhi s) R G nc ns)) (fun n => rfl) ?_
    refine zW.jmul rfl ?_
    refine zW.callS rfl rfl rfl rfl rfl (Nat.le_of_ble_eq_true rfl) ?_
    refine t_Math_floorDiv S (x := (Int32.ofInt (((2 * k) * x) + n))) (y := (Int32.ofInt (2 * n))) (zj_nz (by omega) (by omega)) (fun v_2 => ?_)
    show zW ro 57 17 [some (.int (Int32.ofInt x)), some (.int (Int32.ofInt n)), some (.int (Int32.ofInt k))] [.int v_2] (zN L X (zhi s) R G nc ns) Q
    refine zW.run 1 (pc' := 21) (ls' := [some (.int (Int32.ofInt x)), some (.int (Int32.ofInt n)), some (.int (Int32.ofInt k))]) (st' := [.int v_2]) (σ' := (zN L X (zhi s) R G nc ns)) (fun n => rfl) ?_
    exact zW.iret rfl rfl rfl (hQ0 v_2)
set_option maxHeartbeats 4000000 in
theorem t_Ground_isOn (S : zSR R) (A : zA g s) {x : Int} (p0 : -2147483648 ≤ x ∧ x < 2147483648) (hQ0 : 0 ≤ x → x < g 2 → Q (.inl (some (.int (Int32.ofInt 1)))) (zN L X (zhi s) R G nc ns)) (hQ1 : x < 0 ∨ g 2 ≤ x → Q (.inl (some (.int (Int32.ofInt 0)))) (zN L X (zhi s) R G nc ns)) : zW ro 67 0 (zfst [.ref 8, .int (Int32.ofInt x)] 2) [] (zN L X (zhi s) R G nc ns) Q := by
  show zW ro 67 0 [some (.ref 8), some (.int (Int32.ofInt x))] [] (zN L X (zhi s) R G nc ns) Q
  have f1 := zA_geo A
  refine zW.run 1 (pc' := 1) (ls' := [some (.ref 8), some (.int (Int32.ofInt x))]) (st' := [.int (Int32.ofInt x)]) (σ' := (zN L X (zhi s) R G nc ns)) (fun n => rfl) ?_
  refine zW.jif_lt rfl (by omega) (fun c2 => ?_) (fun c2 => ?_)
  · skip
    refine zW.run 1 (pc' := 24) (ls' := [some (.ref 8), some (.int (Int32.ofInt x))]) (st' := [.int (Int32.ofInt 0)]) (σ' := (zN L X (zhi s) R G nc ns)) (fun n => rfl) ?_
    exact zW.jretb rfl rfl (by decide) (hQ1 (by omega))
  · skip
    refine zW.run 2 (pc' := 6) (ls' := [some (.ref 8), some (.int (Int32.ofInt x))]) (st' := [.ref 8, .int (Int32.ofInt x)]) (σ' := (zN L X (zhi s) R G nc ns)) (fun n => rfl) ?_
    refine zW.run 1 (pc' := 9) (ls' := [some (.ref 8), some (.int (Int32.ofInt x))]) (st' := [.int (Int32.ofInt (s 8 11)), .int (Int32.ofInt x)]) (σ' := (zN L X (zhi s) R G nc ns)) (fun n => rfl) ?_
    refine zW.jcmp_ge rfl (by omega) (fun c3 => ?_) (fun c3 => ?_)
    · skip
      refine zW.run 1 (pc' := 24) (ls' := [some (.ref 8), some (.int (Int32.ofInt x))]) (st' := [.int (Int32.ofInt 0)]) (σ' := (zN L X (zhi s) R G nc ns)) (fun n => rfl) ?_
      exact zW.jretb rfl rfl (by decide) (hQ1 (by omega))
    · skip
      refine zW.run 2 (pc' := 16) (ls' := [some (.ref 8), some (.int (Int32.ofInt x))]) (st' := [.int (Int32.ofInt 144), .int (Int32.ofInt x)]) (σ' := (zN L X (zhi s) R G nc ns)) (fun n => rfl) ?_
      refine zW.jcmp_ge rfl (by omega) (fun c4 => ?_) (fun c4 => ?_)
      · skip
        refine zW.run 1 (pc' := 24) (ls' := [some (.ref 8), some (.int (Int32.ofInt x))]) (st' := [.int (Int32.ofInt 0)]) (σ' := (zN L X (zhi s) R G nc ns)) (fun n => rfl) ?_
        exact zW.jretb rfl rfl (by decide) (hQ1 (by omega))
      · skip
        refine zW.run 2 (pc' := 24) (ls' := [some (.ref 8), some (.int (Int32.ofInt x))]) (st' := [.int (Int32.ofInt 1)]) (σ' := (zN L X (zhi s) R G nc ns)) (fun n => rfl) ?_
        exact zW.jretb rfl rfl (by decide) (hQ0 (by omega) (by omega))
set_option maxHeartbeats 4000000 in
theorem t_Ground_heightOf (S : zSR R) (V : zV g U F T B ph s) {x : Int} (p0 : -2147483648 ≤ x ∧ x < 2147483648) (hQ0 : ∀ (v : Int), 0 ≤ v ∧ v ≤ 9 → (0 ≤ x ∧ x < g 2) ∧ v = s 9 x.toNat ∨ (x < 0 ∨ g 2 ≤ x) ∧ v = 0 → Q (.inl (some (.int (Int32.ofInt v)))) (zN L X (zhi s) R G nc ns)) : zW ro 65 0 (zfst [.ref 8, .int (Int32.ofInt x)] 2) [] (zN L X (zhi s) R G nc ns) Q := by
  show zW ro 65 0 [some (.ref 8), some (.int (Int32.ofInt x))] [] (zN L X (zhi s) R G nc ns) Q
  have f1 := zA_geo (zV_zA V)
  have hB0 := zV_B V
  have f2 := zV_sie V
  refine zW.run 2 (pc' := 2) (ls' := [some (.ref 8), some (.int (Int32.ofInt x))]) (st' := [.int (Int32.ofInt x), .ref 8]) (σ' := (zN L X (zhi s) R G nc ns)) (fun n => rfl) ?_
  refine zW.callV rfl (by decide) rfl rfl rfl rfl rfl (Nat.le_of_ble_eq_true rfl) ?_
  refine t_Ground_isOn S (zV_zA V) (x := x) (by omega) (fun f3 f4 => ?_) (fun f5 => ?_)
  · skip
    show zW ro 65 5 [some (.ref 8), some (.int (Int32.ofInt x))] [.int (Int32.ofInt 1)] (zN L X (zhi s) R G nc ns) Q
    refine zW.run 2 (pc' := 9) (ls' := [some (.ref 8), some (.int (Int32.ofInt x))]) (st' := [.ref 8]) (σ' := (zN L X (zhi s) R G nc ns)) (fun n => rfl) ?_
    refine zW.getf (v := .ref 9) rfl rfl (zr_8 S (f := 0) (by decide)) ?_
    refine zW.run 1 (pc' := 13) (ls' := [some (.ref 8), some (.int (Int32.ofInt x))]) (st' := [.int (Int32.ofInt x), .ref 9]) (σ' := (zN L X (zhi s) R G nc ns)) (fun n => rfl) ?_
    refine zW.jald (n := 144) (v := (s 9 x.toNat)) rfl rfl (by decide) (by omega) rfl ?_
    have f6 := zV_sq V (k := x.toNat) (by omega)
    refine zW.run 1 (pc' := 18) (ls' := [some (.ref 8), some (.int (Int32.ofInt x))]) (st' := [.int (Int32.ofInt (s 9 x.toNat))]) (σ' := (zN L X (zhi s) R G nc ns)) (fun n => rfl) ?_
    exact zW.jret rfl rfl (hQ0 (s 9 x.toNat) (by omega) (by omega))
  · skip
    show zW ro 65 5 [some (.ref 8), some (.int (Int32.ofInt x))] [.int (Int32.ofInt 0)] (zN L X (zhi s) R G nc ns) Q
    refine zW.run 2 (pc' := 18) (ls' := [some (.ref 8), some (.int (Int32.ofInt x))]) (st' := [.int (Int32.ofInt 0)]) (σ' := (zN L X (zhi s) R G nc ns)) (fun n => rfl) ?_
    exact zW.jret rfl rfl (hQ0 0 (by omega) (by omega))
set_option maxHeartbeats 4000000 in
theorem t_Ground_heightOf_e (S : zSR R) (V : zV g U F T B ph s) {x : Int} (p0 : 0 ≤ x ∧ x < g 2) (hQ0 : Q (.inl (some (.int (Int32.ofInt (s 9 x.toNat))))) (zN L X (zhi s) R G nc ns)) : zW ro 65 0 (zfst [.ref 8, .int (Int32.ofInt x)] 2) [] (zN L X (zhi s) R G nc ns) Q := by
  show zW ro 65 0 [some (.ref 8), some (.int (Int32.ofInt x))] [] (zN L X (zhi s) R G nc ns) Q
  have f1 := zA_geo (zV_zA V)
  have hB0 := zV_B V
  refine zW.run 2 (pc' := 2) (ls' := [some (.ref 8), some (.int (Int32.ofInt x))]) (st' := [.int (Int32.ofInt x), .ref 8]) (σ' := (zN L X (zhi s) R G nc ns)) (fun n => rfl) ?_
  refine zW.callV rfl (by decide) rfl rfl rfl rfl rfl (Nat.le_of_ble_eq_true rfl) ?_
  refine t_Ground_isOn S (zV_zA V) (x := x) (by omega) (fun f2 f3 => ?_) (fun f4 => ?_)
  · skip
    show zW ro 65 5 [some (.ref 8), some (.int (Int32.ofInt x))] [.int (Int32.ofInt 1)] (zN L X (zhi s) R G nc ns) Q
    refine zW.run 2 (pc' := 9) (ls' := [some (.ref 8), some (.int (Int32.ofInt x))]) (st' := [.ref 8]) (σ' := (zN L X (zhi s) R G nc ns)) (fun n => rfl) ?_
    refine zW.getf (v := .ref 9) rfl rfl (zr_8 S (f := 0) (by decide)) ?_
    refine zW.run 1 (pc' := 13) (ls' := [some (.ref 8), some (.int (Int32.ofInt x))]) (st' := [.int (Int32.ofInt x), .ref 9]) (σ' := (zN L X (zhi s) R G nc ns)) (fun n => rfl) ?_
    refine zW.jald (n := 144) (v := (s 9 x.toNat)) rfl rfl (by decide) (by omega) rfl ?_
    have f5 := zV_sq V (k := x.toNat) (by omega)
    refine zW.run 1 (pc' := 18) (ls' := [some (.ref 8), some (.int (Int32.ofInt x))]) (st' := [.int (Int32.ofInt (s 9 x.toNat))]) (σ' := (zN L X (zhi s) R G nc ns)) (fun n => rfl) ?_
    exact zW.jret rfl rfl hQ0
  · skip
    show zW ro 65 5 [some (.ref 8), some (.int (Int32.ofInt x))] [.int (Int32.ofInt 0)] (zN L X (zhi s) R G nc ns) Q
    refine zW.run 2 (pc' := 18) (ls' := [some (.ref 8), some (.int (Int32.ofInt x))]) (st' := [.int (Int32.ofInt 0)]) (σ' := (zN L X (zhi s) R G nc ns)) (fun n => rfl) ?_
    exfalso; omega
set_option maxHeartbeats 4000000 in
theorem t_Ground_soilOf (S : zSR R) (V : zV g U F T B ph s) {x : Int} (p0 : -2147483648 ≤ x ∧ x < 2147483648) (hQ0 : ∀ (v : Int), -1 ≤ v ∧ v ≤ 3 → (0 ≤ x ∧ x < g 2) ∧ v = s 10 x.toNat ∨ (x < 0 ∨ g 2 ≤ x) ∧ v = -1 → Q (.inl (some (.int (Int32.ofInt v)))) (zN L X (zhi s) R G nc ns)) : zW ro 76 0 (zfst [.ref 8, .int (Int32.ofInt x)] 2) [] (zN L X (zhi s) R G nc ns) Q := by
  show zW ro 76 0 [some (.ref 8), some (.int (Int32.ofInt x))] [] (zN L X (zhi s) R G nc ns) Q
  have f1 := zA_geo (zV_zA V)
  have hB0 := zV_B V
  have f2 := zV_sie V
  refine zW.run 2 (pc' := 2) (ls' := [some (.ref 8), some (.int (Int32.ofInt x))]) (st' := [.int (Int32.ofInt x), .ref 8]) (σ' := (zN L X (zhi s) R G nc ns)) (fun n => rfl) ?_
  refine zW.callV rfl (by decide) rfl rfl rfl rfl rfl (Nat.le_of_ble_eq_true rfl) ?_
  refine t_Ground_isOn S (zV_zA V) (x := x) (by omega) (fun f3 f4 => ?_) (fun f5 => ?_)
  · skip
    show zW ro 76 5 [some (.ref 8), some (.int (Int32.ofInt x))] [.int (Int32.ofInt 1)] (zN L X (zhi s) R G nc ns) Q
    refine zW.run 2 (pc' := 9) (ls' := [some (.ref 8), some (.int (Int32.ofInt x))]) (st' := [.ref 8]) (σ' := (zN L X (zhi s) R G nc ns)) (fun n => rfl) ?_
    refine zW.getf (v := .ref 10) rfl rfl (zr_8 S (f := 1) (by decide)) ?_
    refine zW.run 1 (pc' := 13) (ls' := [some (.ref 8), some (.int (Int32.ofInt x))]) (st' := [.int (Int32.ofInt x), .ref 10]) (σ' := (zN L X (zhi s) R G nc ns)) (fun n => rfl) ?_
    refine zW.jald (n := 144) (v := (s 10 x.toNat)) rfl rfl (by decide) (by omega) rfl ?_
    have f6 := zV_sq V (k := x.toNat) (by omega)
    refine zW.run 1 (pc' := 18) (ls' := [some (.ref 8), some (.int (Int32.ofInt x))]) (st' := [.int (Int32.ofInt (s 10 x.toNat))]) (σ' := (zN L X (zhi s) R G nc ns)) (fun n => rfl) ?_
    exact zW.jret rfl rfl (hQ0 (s 10 x.toNat) (by omega) (by omega))
  · skip
    show zW ro 76 5 [some (.ref 8), some (.int (Int32.ofInt x))] [.int (Int32.ofInt 0)] (zN L X (zhi s) R G nc ns) Q
    refine zW.run 2 (pc' := 18) (ls' := [some (.ref 8), some (.int (Int32.ofInt x))]) (st' := [.int (Int32.ofInt (-1))]) (σ' := (zN L X (zhi s) R G nc ns)) (fun n => rfl) ?_
    exact zW.jret rfl rfl (hQ0 (-1) (by omega) (by omega))
set_option maxHeartbeats 4000000 in
theorem t_Ground_soilOf_e (S : zSR R) (V : zV g U F T B ph s) {x : Int} (p0 : 0 ≤ x ∧ x < g 2) (hQ0 : Q (.inl (some (.int (Int32.ofInt (s 10 x.toNat))))) (zN L X (zhi s) R G nc ns)) : zW ro 76 0 (zfst [.ref 8, .int (Int32.ofInt x)] 2) [] (zN L X (zhi s) R G nc ns) Q := by
  show zW ro 76 0 [some (.ref 8), some (.int (Int32.ofInt x))] [] (zN L X (zhi s) R G nc ns) Q
  have f1 := zA_geo (zV_zA V)
  have hB0 := zV_B V
  refine zW.run 2 (pc' := 2) (ls' := [some (.ref 8), some (.int (Int32.ofInt x))]) (st' := [.int (Int32.ofInt x), .ref 8]) (σ' := (zN L X (zhi s) R G nc ns)) (fun n => rfl) ?_
  refine zW.callV rfl (by decide) rfl rfl rfl rfl rfl (Nat.le_of_ble_eq_true rfl) ?_
  refine t_Ground_isOn S (zV_zA V) (x := x) (by omega) (fun f2 f3 => ?_) (fun f4 => ?_)
  · skip
    show zW ro 76 5 [some (.ref 8), some (.int (Int32.ofInt x))] [.int (Int32.ofInt 1)] (zN L X (zhi s) R G nc ns) Q
    refine zW.run 2 (pc' := 9) (ls' := [some (.ref 8), some (.int (Int32.ofInt x))]) (st' := [.ref 8]) (σ' := (zN L X (zhi s) R G nc ns)) (fun n => rfl) ?_
    refine zW.getf (v := .ref 10) rfl rfl (zr_8 S (f := 1) (by decide)) ?_
    refine zW.run 1 (pc' := 13) (ls' := [some (.ref 8), some (.int (Int32.ofInt x))]) (st' := [.int (Int32.ofInt x), .ref 10]) (σ' := (zN L X (zhi s) R G nc ns)) (fun n => rfl) ?_
    refine zW.jald (n := 144) (v := (s 10 x.toNat)) rfl rfl (by decide) (by omega) rfl ?_
    have f5 := zV_sq V (k := x.toNat) (by omega)
    refine zW.run 1 (pc' := 18) (ls' := [some (.ref 8), some (.int (Int32.ofInt x))]) (st' := [.int (Int32.ofInt (s 10 x.toNat))]) (σ' := (zN L X (zhi s) R G nc ns)) (fun n => rfl) ?_
    exact zW.jret rfl rfl hQ0
  · skip
    show zW ro 76 5 [some (.ref 8), some (.int (Int32.ofInt x))] [.int (Int32.ofInt 0)] (zN L X (zhi s) R G nc ns) Q
    refine zW.run 2 (pc' := 18) (ls' := [some (.ref 8), some (.int (Int32.ofInt x))]) (st' := [.int (Int32.ofInt (-1))]) (σ' := (zN L X (zhi s) R G nc ns)) (fun n => rfl) ?_
    exfalso; omega
set_option maxHeartbeats 4000000 in
theorem t_Ground_workOf (S : zSR R) (V : zV g U F T B ph s) {x : Int} (p0 : -2147483648 ≤ x ∧ x < 2147483648) (hQ0 : ∀ (v : Int), -1 ≤ v ∧ v ≤ 7 → (0 ≤ x ∧ x < g 2) ∧ v = s 11 x.toNat ∨ (x < 0 ∨ g 2 ≤ x) ∧ v = -1 → Q (.inl (some (.int (Int32.ofInt v)))) (zN L X (zhi s) R G nc ns)) : zW ro 81 0 (zfst [.ref 8, .int (Int32.ofInt x)] 2) [] (zN L X (zhi s) R G nc ns) Q := by
  show zW ro 81 0 [some (.ref 8), some (.int (Int32.ofInt x))] [] (zN L X (zhi s) R G nc ns) Q
  have f1 := zA_geo (zV_zA V)
  have hB0 := zV_B V
  have f2 := zV_sie V
  refine zW.run 2 (pc' := 2) (ls' := [some (.ref 8), some (.int (Int32.ofInt x))]) (st' := [.int (Int32.ofInt x), .ref 8]) (σ' := (zN L X (zhi s) R G nc ns)) (fun n => rfl) ?_
  refine zW.callV rfl (by decide) rfl rfl rfl rfl rfl (Nat.le_of_ble_eq_true rfl) ?_
  refine t_Ground_isOn S (zV_zA V) (x := x) (by omega) (fun f3 f4 => ?_) (fun f5 => ?_)
  · skip
    show zW ro 81 5 [some (.ref 8), some (.int (Int32.ofInt x))] [.int (Int32.ofInt 1)] (zN L X (zhi s) R G nc ns) Q
    refine zW.run 2 (pc' := 9) (ls' := [some (.ref 8), some (.int (Int32.ofInt x))]) (st' := [.ref 8]) (σ' := (zN L X (zhi s) R G nc ns)) (fun n => rfl) ?_
    refine zW.getf (v := .ref 11) rfl rfl (zr_8 S (f := 2) (by decide)) ?_
    refine zW.run 1 (pc' := 13) (ls' := [some (.ref 8), some (.int (Int32.ofInt x))]) (st' := [.int (Int32.ofInt x), .ref 11]) (σ' := (zN L X (zhi s) R G nc ns)) (fun n => rfl) ?_
    refine zW.jald (n := 144) (v := (s 11 x.toNat)) rfl rfl (by decide) (by omega) rfl ?_
    have f6 := zV_sq V (k := x.toNat) (by omega)
    refine zW.run 1 (pc' := 18) (ls' := [some (.ref 8), some (.int (Int32.ofInt x))]) (st' := [.int (Int32.ofInt (s 11 x.toNat))]) (σ' := (zN L X (zhi s) R G nc ns)) (fun n => rfl) ?_
    exact zW.jret rfl rfl (hQ0 (s 11 x.toNat) (by omega) (by omega))
  · skip
    show zW ro 81 5 [some (.ref 8), some (.int (Int32.ofInt x))] [.int (Int32.ofInt 0)] (zN L X (zhi s) R G nc ns) Q
    refine zW.run 2 (pc' := 18) (ls' := [some (.ref 8), some (.int (Int32.ofInt x))]) (st' := [.int (Int32.ofInt (-1))]) (σ' := (zN L X (zhi s) R G nc ns)) (fun n => rfl) ?_
    exact zW.jret rfl rfl (hQ0 (-1) (by omega) (by omega))
set_option maxHeartbeats 4000000 in
theorem t_Ground_workOf_e (S : zSR R) (V : zV g U F T B ph s) {x : Int} (p0 : 0 ≤ x ∧ x < g 2) (hQ0 : Q (.inl (some (.int (Int32.ofInt (s 11 x.toNat))))) (zN L X (zhi s) R G nc ns)) : zW ro 81 0 (zfst [.ref 8, .int (Int32.ofInt x)] 2) [] (zN L X (zhi s) R G nc ns) Q := by
  show zW ro 81 0 [some (.ref 8), some (.int (Int32.ofInt x))] [] (zN L X (zhi s) R G nc ns) Q
  have f1 := zA_geo (zV_zA V)
  have hB0 := zV_B V
  refine zW.run 2 (pc' := 2) (ls' := [some (.ref 8), some (.int (Int32.ofInt x))]) (st' := [.int (Int32.ofInt x), .ref 8]) (σ' := (zN L X (zhi s) R G nc ns)) (fun n => rfl) ?_
  refine zW.callV rfl (by decide) rfl rfl rfl rfl rfl (Nat.le_of_ble_eq_true rfl) ?_
  refine t_Ground_isOn S (zV_zA V) (x := x) (by omega) (fun f2 f3 => ?_) (fun f4 => ?_)
  · skip
    show zW ro 81 5 [some (.ref 8), some (.int (Int32.ofInt x))] [.int (Int32.ofInt 1)] (zN L X (zhi s) R G nc ns) Q
    refine zW.run 2 (pc' := 9) (ls' := [some (.ref 8), some (.int (Int32.ofInt x))]) (st' := [.ref 8]) (σ' := (zN L X (zhi s) R G nc ns)) (fun n => rfl) ?_
    refine zW.getf (v := .ref 11) rfl rfl (zr_8 S (f := 2) (by decide)) ?_
    refine zW.run 1 (pc' := 13) (ls' := [some (.ref 8), some (.int (Int32.ofInt x))]) (st' := [.int (Int32.ofInt x), .ref 11]) (σ' := (zN L X (zhi s) R G nc ns)) (fun n => rfl) ?_
    refine zW.jald (n := 144) (v := (s 11 x.toNat)) rfl rfl (by decide) (by omega) rfl ?_
    have f5 := zV_sq V (k := x.toNat) (by omega)
    refine zW.run 1 (pc' := 18) (ls' := [some (.ref 8), some (.int (Int32.ofInt x))]) (st' := [.int (Int32.ofInt (s 11 x.toNat))]) (σ' := (zN L X (zhi s) R G nc ns)) (fun n => rfl) ?_
    exact zW.jret rfl rfl hQ0
  · skip
    show zW ro 81 5 [some (.ref 8), some (.int (Int32.ofInt x))] [.int (Int32.ofInt 0)] (zN L X (zhi s) R G nc ns) Q
    refine zW.run 2 (pc' := 18) (ls' := [some (.ref 8), some (.int (Int32.ofInt x))]) (st' := [.int (Int32.ofInt (-1))]) (σ' := (zN L X (zhi s) R G nc ns)) (fun n => rfl) ?_
    exfalso; omega
set_option maxHeartbeats 4000000 in
theorem t_Ground_toilOf (S : zSR R) (V : zV g U F T B ph s) {x : Int} (p0 : -2147483648 ≤ x ∧ x < 2147483648) (hQ0 : ∀ (v : Int), 0 ≤ v ∧ v ≤ B → (0 ≤ x ∧ x < g 2) ∧ v = s 13 x.toNat ∨ (x < 0 ∨ g 2 ≤ x) ∧ v = 0 → Q (.inl (some (.int (Int32.ofInt v)))) (zN L X (zhi s) R G nc ns)) : zW ro 77 0 (zfst [.ref 8, .int (Int32.ofInt x)] 2) [] (zN L X (zhi s) R G nc ns) Q := by
  show zW ro 77 0 [some (.ref 8), some (.int (Int32.ofInt x))] [] (zN L X (zhi s) R G nc ns) Q
  have f1 := zA_geo (zV_zA V)
  have hB0 := zV_B V
  have f2 := zV_sie V
  refine zW.run 2 (pc' := 2) (ls' := [some (.ref 8), some (.int (Int32.ofInt x))]) (st' := [.int (Int32.ofInt x), .ref 8]) (σ' := (zN L X (zhi s) R G nc ns)) (fun n => rfl) ?_
  refine zW.callV rfl (by decide) rfl rfl rfl rfl rfl (Nat.le_of_ble_eq_true rfl) ?_
  refine t_Ground_isOn S (zV_zA V) (x := x) (by omega) (fun f3 f4 => ?_) (fun f5 => ?_)
  · skip
    show zW ro 77 5 [some (.ref 8), some (.int (Int32.ofInt x))] [.int (Int32.ofInt 1)] (zN L X (zhi s) R G nc ns) Q
    refine zW.run 2 (pc' := 9) (ls' := [some (.ref 8), some (.int (Int32.ofInt x))]) (st' := [.ref 8]) (σ' := (zN L X (zhi s) R G nc ns)) (fun n => rfl) ?_
    refine zW.getf (v := .ref 13) rfl rfl (zr_8 S (f := 4) (by decide)) ?_
    refine zW.run 1 (pc' := 13) (ls' := [some (.ref 8), some (.int (Int32.ofInt x))]) (st' := [.int (Int32.ofInt x), .ref 13]) (σ' := (zN L X (zhi s) R G nc ns)) (fun n => rfl) ?_
    refine zW.jald (n := 144) (v := (s 13 x.toNat)) rfl rfl (by decide) (by omega) rfl ?_
    have f6 := zV_sq V (k := x.toNat) (by omega)
    refine zW.run 1 (pc' := 18) (ls' := [some (.ref 8), some (.int (Int32.ofInt x))]) (st' := [.int (Int32.ofInt (s 13 x.toNat))]) (σ' := (zN L X (zhi s) R G nc ns)) (fun n => rfl) ?_
    exact zW.jret rfl rfl (hQ0 (s 13 x.toNat) (by omega) (by omega))
  · skip
    show zW ro 77 5 [some (.ref 8), some (.int (Int32.ofInt x))] [.int (Int32.ofInt 0)] (zN L X (zhi s) R G nc ns) Q
    refine zW.run 2 (pc' := 18) (ls' := [some (.ref 8), some (.int (Int32.ofInt x))]) (st' := [.int (Int32.ofInt 0)]) (σ' := (zN L X (zhi s) R G nc ns)) (fun n => rfl) ?_
    exact zW.jret rfl rfl (hQ0 0 (by omega) (by omega))
set_option maxHeartbeats 4000000 in
theorem t_Ground_toilOf_e (S : zSR R) (V : zV g U F T B ph s) {x : Int} (p0 : 0 ≤ x ∧ x < g 2) (hQ0 : Q (.inl (some (.int (Int32.ofInt (s 13 x.toNat))))) (zN L X (zhi s) R G nc ns)) : zW ro 77 0 (zfst [.ref 8, .int (Int32.ofInt x)] 2) [] (zN L X (zhi s) R G nc ns) Q := by
  show zW ro 77 0 [some (.ref 8), some (.int (Int32.ofInt x))] [] (zN L X (zhi s) R G nc ns) Q
  have f1 := zA_geo (zV_zA V)
  have hB0 := zV_B V
  refine zW.run 2 (pc' := 2) (ls' := [some (.ref 8), some (.int (Int32.ofInt x))]) (st' := [.int (Int32.ofInt x), .ref 8]) (σ' := (zN L X (zhi s) R G nc ns)) (fun n => rfl) ?_
  refine zW.callV rfl (by decide) rfl rfl rfl rfl rfl (Nat.le_of_ble_eq_true rfl) ?_
  refine t_Ground_isOn S (zV_zA V) (x := x) (by omega) (fun f2 f3 => ?_) (fun f4 => ?_)
  · skip
    show zW ro 77 5 [some (.ref 8), some (.int (Int32.ofInt x))] [.int (Int32.ofInt 1)] (zN L X (zhi s) R G nc ns) Q
    refine zW.run 2 (pc' := 9) (ls' := [some (.ref 8), some (.int (Int32.ofInt x))]) (st' := [.ref 8]) (σ' := (zN L X (zhi s) R G nc ns)) (fun n => rfl) ?_
    refine zW.getf (v := .ref 13) rfl rfl (zr_8 S (f := 4) (by decide)) ?_
    refine zW.run 1 (pc' := 13) (ls' := [some (.ref 8), some (.int (Int32.ofInt x))]) (st' := [.int (Int32.ofInt x), .ref 13]) (σ' := (zN L X (zhi s) R G nc ns)) (fun n => rfl) ?_
    refine zW.jald (n := 144) (v := (s 13 x.toNat)) rfl rfl (by decide) (by omega) rfl ?_
    have f5 := zV_sq V (k := x.toNat) (by omega)
    refine zW.run 1 (pc' := 18) (ls' := [some (.ref 8), some (.int (Int32.ofInt x))]) (st' := [.int (Int32.ofInt (s 13 x.toNat))]) (σ' := (zN L X (zhi s) R G nc ns)) (fun n => rfl) ?_
    exact zW.jret rfl rfl hQ0
  · skip
    show zW ro 77 5 [some (.ref 8), some (.int (Int32.ofInt x))] [.int (Int32.ofInt 0)] (zN L X (zhi s) R G nc ns) Q
    refine zW.run 2 (pc' := 18) (ls' := [some (.ref 8), some (.int (Int32.ofInt x))]) (st' := [.int (Int32.ofInt 0)]) (σ' := (zN L X (zhi s) R G nc ns)) (fun n => rfl) ?_
    exfalso; omega
set_option maxHeartbeats 4000000 in
theorem t_Ground_workOf_w (S : zSR R) (A : zA g s) {x : Int} (p0 : -2147483648 ≤ x ∧ x < 2147483648) (hQ0 : ∀ (v : Int), Q (.inl (some (.int (Int32.ofInt v)))) (zN L X (zhi s) R G nc ns)) : zW ro 81 0 (zfst [.ref 8, .int (Int32.ofInt x)] 2) [] (zN L X (zhi s) R G nc ns) Q := by
  show zW ro 81 0 [some (.ref 8), some (.int (Int32.ofInt x))] [] (zN L X (zhi s) R G nc ns) Q
  have f1 := zA_geo A
  refine zW.run 2 (pc' := 2) (ls' := [some (.ref 8), some (.int (Int32.ofInt x))]) (st' := [.int (Int32.ofInt x), .ref 8]) (σ' := (zN L X (zhi s) R G nc ns)) (fun n => rfl) ?_
  refine zW.callV rfl (by decide) rfl rfl rfl rfl rfl (Nat.le_of_ble_eq_true rfl) ?_
  refine t_Ground_isOn S A (x := x) (by omega) (fun f2 f3 => ?_) (fun f4 => ?_)
  · skip
    show zW ro 81 5 [some (.ref 8), some (.int (Int32.ofInt x))] [.int (Int32.ofInt 1)] (zN L X (zhi s) R G nc ns) Q
    refine zW.run 2 (pc' := 9) (ls' := [some (.ref 8), some (.int (Int32.ofInt x))]) (st' := [.ref 8]) (σ' := (zN L X (zhi s) R G nc ns)) (fun n => rfl) ?_
    refine zW.getf (v := .ref 11) rfl rfl (zr_8 S (f := 2) (by decide)) ?_
    refine zW.run 1 (pc' := 13) (ls' := [some (.ref 8), some (.int (Int32.ofInt x))]) (st' := [.int (Int32.ofInt x), .ref 11]) (σ' := (zN L X (zhi s) R G nc ns)) (fun n => rfl) ?_
    refine zW.jald (n := 144) (v := (s 11 x.toNat)) rfl rfl (by decide) (by omega) rfl ?_
    refine zW.run 1 (pc' := 18) (ls' := [some (.ref 8), some (.int (Int32.ofInt x))]) (st' := [.int (Int32.ofInt (s 11 x.toNat))]) (σ' := (zN L X (zhi s) R G nc ns)) (fun n => rfl) ?_
    exact zW.jret rfl rfl (hQ0 (s 11 x.toNat))
  · skip
    show zW ro 81 5 [some (.ref 8), some (.int (Int32.ofInt x))] [.int (Int32.ofInt 0)] (zN L X (zhi s) R G nc ns) Q
    refine zW.run 2 (pc' := 18) (ls' := [some (.ref 8), some (.int (Int32.ofInt x))]) (st' := [.int (Int32.ofInt (-1))]) (σ' := (zN L X (zhi s) R G nc ns)) (fun n => rfl) ?_
    exact zW.jret rfl rfl (hQ0 (-1))
set_option maxHeartbeats 4000000 in
theorem t_Ground_firmOf_e (S : zSR R) (V : zV g U F T B ph s) {x : Int} (p0 : 0 ≤ x ∧ x < g 2) (hQ0 : ∀ (v : Int), s 11 x.toNat = 1 ∧ v = s 12 x.toNat ∨ ¬ s 11 x.toNat = 1 ∧ v = 0 → Q (.inl (some (.int (Int32.ofInt v)))) (zN L X (zhi s) R G nc ns)) : zW ro 64 0 (zfst [.ref 8, .int (Int32.ofInt x)] 2) [] (zN L X (zhi s) R G nc ns) Q := by
  show zW ro 64 0 [some (.ref 8), some (.int (Int32.ofInt x))] [] (zN L X (zhi s) R G nc ns) Q
  have f1 := zA_geo (zV_zA V)
  have hB0 := zV_B V
  refine zW.run 2 (pc' := 2) (ls' := [some (.ref 8), some (.int (Int32.ofInt x))]) (st' := [.int (Int32.ofInt x), .ref 8]) (σ' := (zN L X (zhi s) R G nc ns)) (fun n => rfl) ?_
  refine zW.callV rfl (by decide) rfl rfl rfl rfl rfl (Nat.le_of_ble_eq_true rfl) ?_
  refine t_Ground_isOn S (zV_zA V) (x := x) (by omega) (fun f2 f3 => ?_) (fun f4 => ?_)
  · skip
    show zW ro 64 5 [some (.ref 8), some (.int (Int32.ofInt x))] [.int (Int32.ofInt 1)] (zN L X (zhi s) R G nc ns) Q
    refine zW.run 2 (pc' := 9) (ls' := [some (.ref 8), some (.int (Int32.ofInt x))]) (st' := [.ref 8]) (σ' := (zN L X (zhi s) R G nc ns)) (fun n => rfl) ?_
    refine zW.getf (v := .ref 11) rfl rfl (zr_8 S (f := 2) (by decide)) ?_
    refine zW.run 1 (pc' := 13) (ls' := [some (.ref 8), some (.int (Int32.ofInt x))]) (st' := [.int (Int32.ofInt x), .ref 11]) (σ' := (zN L X (zhi s) R G nc ns)) (fun n => rfl) ?_
    refine zW.jald (n := 144) (v := (s 11 x.toNat)) rfl rfl (by decide) (by omega) rfl ?_
    have f5 := zV_sq V (k := x.toNat) (by omega)
    refine zW.run 1 (pc' := 15) (ls' := [some (.ref 8), some (.int (Int32.ofInt x))]) (st' := [.int (Int32.ofInt 1), .int (Int32.ofInt (s 11 x.toNat))]) (σ' := (zN L X (zhi s) R G nc ns)) (fun n => rfl) ?_
    refine zW.jcmp_ne rfl (by omega) (fun c6 => ?_) (fun c6 => ?_)
    · skip
      refine zW.run 1 (pc' := 28) (ls' := [some (.ref 8), some (.int (Int32.ofInt x))]) (st' := [.int (Int32.ofInt 0)]) (σ' := (zN L X (zhi s) R G nc ns)) (fun n => rfl) ?_
      exact zW.jret rfl rfl (hQ0 0 (by omega))
    · skip
      refine zW.run 1 (pc' := 19) (ls' := [some (.ref 8), some (.int (Int32.ofInt x))]) (st' := [.ref 8]) (σ' := (zN L X (zhi s) R G nc ns)) (fun n => rfl) ?_
      refine zW.getf (v := .ref 12) rfl rfl (zr_8 S (f := 3) (by decide)) ?_
      refine zW.run 1 (pc' := 23) (ls' := [some (.ref 8), some (.int (Int32.ofInt x))]) (st' := [.int (Int32.ofInt x), .ref 12]) (σ' := (zN L X (zhi s) R G nc ns)) (fun n => rfl) ?_
      refine zW.jald (n := 144) (v := (s 12 x.toNat)) rfl rfl (by decide) (by omega) rfl ?_
      refine zW.run 1 (pc' := 28) (ls' := [some (.ref 8), some (.int (Int32.ofInt x))]) (st' := [.int (Int32.ofInt (s 12 x.toNat))]) (σ' := (zN L X (zhi s) R G nc ns)) (fun n => rfl) ?_
      exact zW.jret rfl rfl (hQ0 (s 12 x.toNat) (by omega))
  · skip
    show zW ro 64 5 [some (.ref 8), some (.int (Int32.ofInt x))] [.int (Int32.ofInt 0)] (zN L X (zhi s) R G nc ns) Q
    refine zW.run 2 (pc' := 28) (ls' := [some (.ref 8), some (.int (Int32.ofInt x))]) (st' := [.int (Int32.ofInt 0)]) (σ' := (zN L X (zhi s) R G nc ns)) (fun n => rfl) ?_
    exact zW.jret rfl rfl (hQ0 0 (by omega))
set_option maxHeartbeats 4000000 in
theorem t_Ground_belongsTo (S : zSR R) (V : zV g U F T B ph s) {x : Int} (p0 : -2147483648 ≤ x ∧ x < 2147483648) (hQ0 : ∀ (v : Int), -1 ≤ v ∧ v ≤ 1 → Q (.inl (some (.int (Int32.ofInt v)))) (zN L X (zhi s) R G nc ns)) : zW ro 58 0 (zfst [.ref 8, .int (Int32.ofInt x)] 3) [] (zN L X (zhi s) R G nc ns) Q := by
  show zW ro 58 0 [some (.ref 8), some (.int (Int32.ofInt x)), none] [] (zN L X (zhi s) R G nc ns) Q
  have f1 := zA_geo (zV_zA V)
  have hB0 := zV_B V
  refine zW.run 1 (pc' := 1) (ls' := [some (.ref 8), some (.int (Int32.ofInt x)), none]) (st' := [.int (Int32.ofInt x)]) (σ' := (zN L X (zhi s) R G nc ns)) (fun n => rfl) ?_
  refine zW.jif_lt rfl (by omega) (fun c2 => ?_) (fun c2 => ?_)
  · skip
    refine zW.run 1 (pc' := 20) (ls' := [some (.ref 8), some (.int (Int32.ofInt x)), none]) (st' := [.int (Int32.ofInt (-1))]) (σ' := (zN L X (zhi s) R G nc ns)) (fun n => rfl) ?_
    exact zW.jret rfl rfl (hQ0 (-1) (by omega))
  · skip
    refine zW.run 2 (pc' := 6) (ls' := [some (.ref 8), some (.int (Int32.ofInt x)), none]) (st' := [.ref 8, .int (Int32.ofInt x)]) (σ' := (zN L X (zhi s) R G nc ns)) (fun n => rfl) ?_
    refine zW.run 1 (pc' := 9) (ls' := [some (.ref 8), some (.int (Int32.ofInt x)), none]) (st' := [.int (Int32.ofInt (s 8 11)), .int (Int32.ofInt x)]) (σ' := (zN L X (zhi s) R G nc ns)) (fun n => rfl) ?_
    refine zW.jcmp_ge rfl (by omega) (fun c3 => ?_) (fun c3 => ?_)
    · skip
      refine zW.run 1 (pc' := 20) (ls' := [some (.ref 8), some (.int (Int32.ofInt x)), none]) (st' := [.int (Int32.ofInt (-1))]) (σ' := (zN L X (zhi s) R G nc ns)) (fun n => rfl) ?_
      exact zW.jret rfl rfl (hQ0 (-1) (by omega))
    · skip
      refine zW.run 2 (pc' := 16) (ls' := [some (.ref 8), some (.int (Int32.ofInt x)), none]) (st' := [.int (Int32.ofInt 144), .int (Int32.ofInt x)]) (σ' := (zN L X (zhi s) R G nc ns)) (fun n => rfl) ?_
      refine zW.jcmp_lt rfl (by omega) (fun c4 => ?_) (fun c4 => ?_)
      · skip
        refine zW.run 1 (pc' := 22) (ls' := [some (.ref 8), some (.int (Int32.ofInt x)), none]) (st' := [.ref 8]) (σ' := (zN L X (zhi s) R G nc ns)) (fun n => rfl) ?_
        refine zW.getf (v := .ref 11) rfl rfl (zr_8 S (f := 2) (by decide)) ?_
        refine zW.run 1 (pc' := 26) (ls' := [some (.ref 8), some (.int (Int32.ofInt x)), none]) (st' := [.int (Int32.ofInt x), .ref 11]) (σ' := (zN L X (zhi s) R G nc ns)) (fun n => rfl) ?_
        refine zW.jald (n := 144) (v := (s 11 x.toNat)) rfl rfl (by decide) (by omega) rfl ?_
        have f5 := zV_sq V (k := x.toNat) (by omega)
        refine zW.run 3 (pc' := 30) (ls' := [some (.ref 8), some (.int (Int32.ofInt x)), some (.int (Int32.ofInt (s 11 x.toNat)))]) (st' := [.int (Int32.ofInt 1), .int (Int32.ofInt (s 11 x.toNat))]) (σ' := (zN L X (zhi s) R G nc ns)) (fun n => rfl) ?_
        refine zW.jcmp_eq rfl (by omega) (fun c6 => ?_) (fun c6 => ?_)
        · skip
          refine zW.run 1 (pc' := 52) (ls' := [some (.ref 8), some (.int (Int32.ofInt x)), some (.int (Int32.ofInt (s 11 x.toNat)))]) (st' := [.int (Int32.ofInt 1)]) (σ' := (zN L X (zhi s) R G nc ns)) (fun n => rfl) ?_
          exact zW.jret rfl rfl (hQ0 1 (by omega))
        · skip
          refine zW.run 2 (pc' := 35) (ls' := [some (.ref 8), some (.int (Int32.ofInt x)), some (.int (Int32.ofInt (s 11 x.toNat)))]) (st' := [.int (Int32.ofInt 3), .int (Int32.ofInt (s 11 x.toNat))]) (σ' := (zN L X (zhi s) R G nc ns)) (fun n => rfl) ?_
          refine zW.jcmp_eq rfl (by omega) (fun c7 => ?_) (fun c7 => ?_)
          · skip
            refine zW.run 1 (pc' := 52) (ls' := [some (.ref 8), some (.int (Int32.ofInt x)), some (.int (Int32.ofInt (s 11 x.toNat)))]) (st' := [.int (Int32.ofInt 1)]) (σ' := (zN L X (zhi s) R G nc ns)) (fun n => rfl) ?_
            exact zW.jret rfl rfl (hQ0 1 (by omega))
          · skip
            refine zW.run 2 (pc' := 40) (ls' := [some (.ref 8), some (.int (Int32.ofInt x)), some (.int (Int32.ofInt (s 11 x.toNat)))]) (st' := [.int (Int32.ofInt 4), .int (Int32.ofInt (s 11 x.toNat))]) (σ' := (zN L X (zhi s) R G nc ns)) (fun n => rfl) ?_
            refine zW.jcmp_eq rfl (by omega) (fun c8 => ?_) (fun c8 => ?_)
            · skip
              refine zW.run 1 (pc' := 52) (ls' := [some (.ref 8), some (.int (Int32.ofInt x)), some (.int (Int32.ofInt (s 11 x.toNat)))]) (st' := [.int (Int32.ofInt 1)]) (σ' := (zN L X (zhi s) R G nc ns)) (fun n => rfl) ?_
              exact zW.jret rfl rfl (hQ0 1 (by omega))
            · skip
              refine zW.run 2 (pc' := 45) (ls' := [some (.ref 8), some (.int (Int32.ofInt x)), some (.int (Int32.ofInt (s 11 x.toNat)))]) (st' := [.ref 8, .int (Int32.ofInt x)]) (σ' := (zN L X (zhi s) R G nc ns)) (fun n => rfl) ?_
              refine zW.run 1 (pc' := 48) (ls' := [some (.ref 8), some (.int (Int32.ofInt x)), some (.int (Int32.ofInt (s 11 x.toNat)))]) (st' := [.int (Int32.ofInt (s 8 13)), .int (Int32.ofInt x)]) (σ' := (zN L X (zhi s) R G nc ns)) (fun n => rfl) ?_
              refine zW.jcmp_ne rfl (by omega) (fun c9 => ?_) (fun c9 => ?_)
              · skip
                refine zW.run 2 (pc' := 55) (ls' := [some (.ref 8), some (.int (Int32.ofInt x)), some (.int (Int32.ofInt (s 11 x.toNat)))]) (st' := [.int (Int32.ofInt 5), .int (Int32.ofInt (s 11 x.toNat))]) (σ' := (zN L X (zhi s) R G nc ns)) (fun n => rfl) ?_
                refine zW.jcmp_eq rfl (by omega) (fun c10 => ?_) (fun c10 => ?_)
                · skip
                  refine zW.run 2 (pc' := 71) (ls' := [some (.ref 8), some (.int (Int32.ofInt x)), some (.int (Int32.ofInt (s 11 x.toNat)))]) (st' := [.int (Int32.ofInt 0)]) (σ' := (zN L X (zhi s) R G nc ns)) (fun n => rfl) ?_
                  exact zW.jret rfl rfl (hQ0 0 (by omega))
                · skip
                  refine zW.run 2 (pc' := 60) (ls' := [some (.ref 8), some (.int (Int32.ofInt x)), some (.int (Int32.ofInt (s 11 x.toNat)))]) (st' := [.ref 8, .int (Int32.ofInt x)]) (σ' := (zN L X (zhi s) R G nc ns)) (fun n => rfl) ?_
                  refine zW.run 1 (pc' := 63) (ls' := [some (.ref 8), some (.int (Int32.ofInt x)), some (.int (Int32.ofInt (s 11 x.toNat)))]) (st' := [.int (Int32.ofInt (s 8 12)), .int (Int32.ofInt x)]) (σ' := (zN L X (zhi s) R G nc ns)) (fun n => rfl) ?_
                  refine zW.jcmp_ne rfl (by omega) (fun c11 => ?_) (fun c11 => ?_)
                  · skip
                    refine zW.run 1 (pc' := 71) (ls' := [some (.ref 8), some (.int (Int32.ofInt x)), some (.int (Int32.ofInt (s 11 x.toNat)))]) (st' := [.int (Int32.ofInt (-1))]) (σ' := (zN L X (zhi s) R G nc ns)) (fun n => rfl) ?_
                    exact zW.jret rfl rfl (hQ0 (-1) (by omega))
                  · skip
                    refine zW.run 2 (pc' := 71) (ls' := [some (.ref 8), some (.int (Int32.ofInt x)), some (.int (Int32.ofInt (s 11 x.toNat)))]) (st' := [.int (Int32.ofInt 0)]) (σ' := (zN L X (zhi s) R G nc ns)) (fun n => rfl) ?_
                    exact zW.jret rfl rfl (hQ0 0 (by omega))
              · skip
                refine zW.run 1 (pc' := 52) (ls' := [some (.ref 8), some (.int (Int32.ofInt x)), some (.int (Int32.ofInt (s 11 x.toNat)))]) (st' := [.int (Int32.ofInt 1)]) (σ' := (zN L X (zhi s) R G nc ns)) (fun n => rfl) ?_
                exact zW.jret rfl rfl (hQ0 1 (by omega))
      · skip
        refine zW.run 1 (pc' := 20) (ls' := [some (.ref 8), some (.int (Int32.ofInt x)), none]) (st' := [.int (Int32.ofInt (-1))]) (σ' := (zN L X (zhi s) R G nc ns)) (fun n => rfl) ?_
        exact zW.jret rfl rfl (hQ0 (-1) (by omega))
set_option maxHeartbeats 4000000 in
theorem t_Ground_belongsTo_e (S : zSR R) (V : zV g U F T B ph s) {x : Int} (p0 : 0 ≤ x ∧ x < g 2) (hQ0 : ∀ (v : Int), (s 11 x.toNat = 1 ∨ s 11 x.toNat = 3 ∨ s 11 x.toNat = 4 ∨ x = g 3) ∧ v = 1 ∨ ¬ (s 11 x.toNat = 1 ∨ s 11 x.toNat = 3 ∨ s 11 x.toNat = 4 ∨ x = g 3) ∧ (s 11 x.toNat = 5 ∨ x = 0) ∧ v = 0 ∨ ¬ (s 11 x.toNat = 1 ∨ s 11 x.toNat = 3 ∨ s 11 x.toNat = 4 ∨ x = g 3) ∧ ¬ (s 11 x.toNat = 5 ∨ x = 0) ∧ v = -1 → Q (.inl (some (.int (Int32.ofInt v)))) (zN L X (zhi s) R G nc ns)) : zW ro 58 0 (zfst [.ref 8, .int (Int32.ofInt x)] 3) [] (zN L X (zhi s) R G nc ns) Q := by
  show zW ro 58 0 [some (.ref 8), some (.int (Int32.ofInt x)), none] [] (zN L X (zhi s) R G nc ns) Q
  have f1 := zA_geo (zV_zA V)
  have hB0 := zV_B V
  refine zW.run 1 (pc' := 1) (ls' := [some (.ref 8), some (.int (Int32.ofInt x)), none]) (st' := [.int (Int32.ofInt x)]) (σ' := (zN L X (zhi s) R G nc ns)) (fun n => rfl) ?_
  refine zW.jif_lt rfl (by omega) (fun c2 => ?_) (fun c2 => ?_)
  · skip
    refine zW.run 1 (pc' := 20) (ls' := [some (.ref 8), some (.int (Int32.ofInt x)), none]) (st' := [.int (Int32.ofInt (-1))]) (σ' := (zN L X (zhi s) R G nc ns)) (fun n => rfl) ?_
    exact zW.jret rfl rfl (hQ0 (-1) (by omega))
  · skip
    refine zW.run 2 (pc' := 6) (ls' := [some (.ref 8), some (.int (Int32.ofInt x)), none]) (st' := [.ref 8, .int (Int32.ofInt x)]) (σ' := (zN L X (zhi s) R G nc ns)) (fun n => rfl) ?_
    refine zW.run 1 (pc' := 9) (ls' := [some (.ref 8), some (.int (Int32.ofInt x)), none]) (st' := [.int (Int32.ofInt (s 8 11)), .int (Int32.ofInt x)]) (σ' := (zN L X (zhi s) R G nc ns)) (fun n => rfl) ?_
    refine zW.jcmp_ge rfl (by omega) (fun c3 => ?_) (fun c3 => ?_)
    · skip
      refine zW.run 1 (pc' := 20) (ls' := [some (.ref 8), some (.int (Int32.ofInt x)), none]) (st' := [.int (Int32.ofInt (-1))]) (σ' := (zN L X (zhi s) R G nc ns)) (fun n => rfl) ?_
      exact zW.jret rfl rfl (hQ0 (-1) (by omega))
    · skip
      refine zW.run 2 (pc' := 16) (ls' := [some (.ref 8), some (.int (Int32.ofInt x)), none]) (st' := [.int (Int32.ofInt 144), .int (Int32.ofInt x)]) (σ' := (zN L X (zhi s) R G nc ns)) (fun n => rfl) ?_
      refine zW.jcmp_lt rfl (by omega) (fun c4 => ?_) (fun c4 => ?_)
      · skip
        refine zW.run 1 (pc' := 22) (ls' := [some (.ref 8), some (.int (Int32.ofInt x)), none]) (st' := [.ref 8]) (σ' := (zN L X (zhi s) R G nc ns)) (fun n => rfl) ?_
        refine zW.getf (v := .ref 11) rfl rfl (zr_8 S (f := 2) (by decide)) ?_
        refine zW.run 1 (pc' := 26) (ls' := [some (.ref 8), some (.int (Int32.ofInt x)), none]) (st' := [.int (Int32.ofInt x), .ref 11]) (σ' := (zN L X (zhi s) R G nc ns)) (fun n => rfl) ?_
        refine zW.jald (n := 144) (v := (s 11 x.toNat)) rfl rfl (by decide) (by omega) rfl ?_
        have f5 := zV_sq V (k := x.toNat) (by omega)
        refine zW.run 3 (pc' := 30) (ls' := [some (.ref 8), some (.int (Int32.ofInt x)), some (.int (Int32.ofInt (s 11 x.toNat)))]) (st' := [.int (Int32.ofInt 1), .int (Int32.ofInt (s 11 x.toNat))]) (σ' := (zN L X (zhi s) R G nc ns)) (fun n => rfl) ?_
        refine zW.jcmp_eq rfl (by omega) (fun c6 => ?_) (fun c6 => ?_)
        · skip
          refine zW.run 1 (pc' := 52) (ls' := [some (.ref 8), some (.int (Int32.ofInt x)), some (.int (Int32.ofInt (s 11 x.toNat)))]) (st' := [.int (Int32.ofInt 1)]) (σ' := (zN L X (zhi s) R G nc ns)) (fun n => rfl) ?_
          exact zW.jret rfl rfl (hQ0 1 (by omega))
        · skip
          refine zW.run 2 (pc' := 35) (ls' := [some (.ref 8), some (.int (Int32.ofInt x)), some (.int (Int32.ofInt (s 11 x.toNat)))]) (st' := [.int (Int32.ofInt 3), .int (Int32.ofInt (s 11 x.toNat))]) (σ' := (zN L X (zhi s) R G nc ns)) (fun n => rfl) ?_
          refine zW.jcmp_eq rfl (by omega) (fun c7 => ?_) (fun c7 => ?_)
          · skip
            refine zW.run 1 (pc' := 52) (ls' := [some (.ref 8), some (.int (Int32.ofInt x)), some (.int (Int32.ofInt (s 11 x.toNat)))]) (st' := [.int (Int32.ofInt 1)]) (σ' := (zN L X (zhi s) R G nc ns)) (fun n => rfl) ?_
            exact zW.jret rfl rfl (hQ0 1 (by omega))
          · skip
            refine zW.run 2 (pc' := 40) (ls' := [some (.ref 8), some (.int (Int32.ofInt x)), some (.int (Int32.ofInt (s 11 x.toNat)))]) (st' := [.int (Int32.ofInt 4), .int (Int32.ofInt (s 11 x.toNat))]) (σ' := (zN L X (zhi s) R G nc ns)) (fun n => rfl) ?_
            refine zW.jcmp_eq rfl (by omega) (fun c8 => ?_) (fun c8 => ?_)
            · skip
              refine zW.run 1 (pc' := 52) (ls' := [some (.ref 8), some (.int (Int32.ofInt x)), some (.int (Int32.ofInt (s 11 x.toNat)))]) (st' := [.int (Int32.ofInt 1)]) (σ' := (zN L X (zhi s) R G nc ns)) (fun n => rfl) ?_
              exact zW.jret rfl rfl (hQ0 1 (by omega))
            · skip
              refine zW.run 2 (pc' := 45) (ls' := [some (.ref 8), some (.int (Int32.ofInt x)), some (.int (Int32.ofInt (s 11 x.toNat)))]) (st' := [.ref 8, .int (Int32.ofInt x)]) (σ' := (zN L X (zhi s) R G nc ns)) (fun n => rfl) ?_
              refine zW.run 1 (pc' := 48) (ls' := [some (.ref 8), some (.int (Int32.ofInt x)), some (.int (Int32.ofInt (s 11 x.toNat)))]) (st' := [.int (Int32.ofInt (s 8 13)), .int (Int32.ofInt x)]) (σ' := (zN L X (zhi s) R G nc ns)) (fun n => rfl) ?_
              refine zW.jcmp_ne rfl (by omega) (fun c9 => ?_) (fun c9 => ?_)
              · skip
                refine zW.run 2 (pc' := 55) (ls' := [some (.ref 8), some (.int (Int32.ofInt x)), some (.int (Int32.ofInt (s 11 x.toNat)))]) (st' := [.int (Int32.ofInt 5), .int (Int32.ofInt (s 11 x.toNat))]) (σ' := (zN L X (zhi s) R G nc ns)) (fun n => rfl) ?_
                refine zW.jcmp_eq rfl (by omega) (fun c10 => ?_) (fun c10 => ?_)
                · skip
                  refine zW.run 2 (pc' := 71) (ls' := [some (.ref 8), some (.int (Int32.ofInt x)), some (.int (Int32.ofInt (s 11 x.toNat)))]) (st' := [.int (Int32.ofInt 0)]) (σ' := (zN L X (zhi s) R G nc ns)) (fun n => rfl) ?_
                  exact zW.jret rfl rfl (hQ0 0 (by omega))
                · skip
                  refine zW.run 2 (pc' := 60) (ls' := [some (.ref 8), some (.int (Int32.ofInt x)), some (.int (Int32.ofInt (s 11 x.toNat)))]) (st' := [.ref 8, .int (Int32.ofInt x)]) (σ' := (zN L X (zhi s) R G nc ns)) (fun n => rfl) ?_
                  refine zW.run 1 (pc' := 63) (ls' := [some (.ref 8), some (.int (Int32.ofInt x)), some (.int (Int32.ofInt (s 11 x.toNat)))]) (st' := [.int (Int32.ofInt (s 8 12)), .int (Int32.ofInt x)]) (σ' := (zN L X (zhi s) R G nc ns)) (fun n => rfl) ?_
                  refine zW.jcmp_ne rfl (by omega) (fun c11 => ?_) (fun c11 => ?_)
                  · skip
                    refine zW.run 1 (pc' := 71) (ls' := [some (.ref 8), some (.int (Int32.ofInt x)), some (.int (Int32.ofInt (s 11 x.toNat)))]) (st' := [.int (Int32.ofInt (-1))]) (σ' := (zN L X (zhi s) R G nc ns)) (fun n => rfl) ?_
                    exact zW.jret rfl rfl (hQ0 (-1) (by omega))
                  · skip
                    refine zW.run 2 (pc' := 71) (ls' := [some (.ref 8), some (.int (Int32.ofInt x)), some (.int (Int32.ofInt (s 11 x.toNat)))]) (st' := [.int (Int32.ofInt 0)]) (σ' := (zN L X (zhi s) R G nc ns)) (fun n => rfl) ?_
                    exact zW.jret rfl rfl (hQ0 0 (by omega))
              · skip
                refine zW.run 1 (pc' := 52) (ls' := [some (.ref 8), some (.int (Int32.ofInt x)), some (.int (Int32.ofInt (s 11 x.toNat)))]) (st' := [.int (Int32.ofInt 1)]) (σ' := (zN L X (zhi s) R G nc ns)) (fun n => rfl) ?_
                exact zW.jret rfl rfl (hQ0 1 (by omega))
      · skip
        refine zW.run 1 (pc' := 20) (ls' := [some (.ref 8), some (.int (Int32.ofInt x)), none]) (st' := [.int (Int32.ofInt (-1))]) (σ' := (zN L X (zhi s) R G nc ns)) (fun n => rfl) ?_
        exact zW.jret rfl rfl (hQ0 (-1) (by omega))
set_option maxHeartbeats 4000000 in
theorem t_Ground_next (S : zSR R) (A : zA g s) {x : Int} {d : Int} (p0 : -2147483648 ≤ x ∧ x < 2147483648) (p1 : -2147483648 ≤ d ∧ d < 2147483648) (hQ0 : ∀ (v : Int), v = -1 ∨ (0 ≤ x ∧ x < g 2 ∧ 0 ≤ v ∧ v < g 2) → Q (.inl (some (.int (Int32.ofInt v)))) (zN L X (zhi s) R G nc ns)) : zW ro 71 0 (zfst [.ref 8, .int (Int32.ofInt x), .int (Int32.ofInt d)] 3) [] (zN L X (zhi s) R G nc ns) Q := by
  show zW ro 71 0 [some (.ref 8), some (.int (Int32.ofInt x)), some (.int (Int32.ofInt d))] [] (zN L X (zhi s) R G nc ns) Q
  have f1 := zA_geo A
  refine zW.run 1 (pc' := 1) (ls' := [some (.ref 8), some (.int (Int32.ofInt x)), some (.int (Int32.ofInt d))]) (st' := [.int (Int32.ofInt x)]) (σ' := (zN L X (zhi s) R G nc ns)) (fun n => rfl) ?_
  refine zW.jif_lt rfl (by omega) (fun c2 => ?_) (fun c2 => ?_)
  · skip
    refine zW.run 1 (pc' := 20) (ls' := [some (.ref 8), some (.int (Int32.ofInt x)), some (.int (Int32.ofInt d))]) (st' := [.int (Int32.ofInt (-1))]) (σ' := (zN L X (zhi s) R G nc ns)) (fun n => rfl) ?_
    exact zW.jret rfl rfl (hQ0 (-1) (by omega))
  · skip
    refine zW.run 2 (pc' := 6) (ls' := [some (.ref 8), some (.int (Int32.ofInt x)), some (.int (Int32.ofInt d))]) (st' := [.ref 8, .int (Int32.ofInt x)]) (σ' := (zN L X (zhi s) R G nc ns)) (fun n => rfl) ?_
    refine zW.run 1 (pc' := 9) (ls' := [some (.ref 8), some (.int (Int32.ofInt x)), some (.int (Int32.ofInt d))]) (st' := [.int (Int32.ofInt (s 8 11)), .int (Int32.ofInt x)]) (σ' := (zN L X (zhi s) R G nc ns)) (fun n => rfl) ?_
    refine zW.jcmp_ge rfl (by omega) (fun c3 => ?_) (fun c3 => ?_)
    · skip
      refine zW.run 1 (pc' := 20) (ls' := [some (.ref 8), some (.int (Int32.ofInt x)), some (.int (Int32.ofInt d))]) (st' := [.int (Int32.ofInt (-1))]) (σ' := (zN L X (zhi s) R G nc ns)) (fun n => rfl) ?_
      exact zW.jret rfl rfl (hQ0 (-1) (by omega))
    · skip
      refine zW.run 2 (pc' := 16) (ls' := [some (.ref 8), some (.int (Int32.ofInt x)), some (.int (Int32.ofInt d))]) (st' := [.int (Int32.ofInt 144), .int (Int32.ofInt x)]) (σ' := (zN L X (zhi s) R G nc ns)) (fun n => rfl) ?_
      refine zW.jcmp_lt rfl (by omega) (fun c4 => ?_) (fun c4 => ?_)
      · skip
        have nx := zA_nx A (k := x.toNat) (by omega)
        refine zW.run 1 (pc' := 22) (ls' := [some (.ref 8), some (.int (Int32.ofInt x)), some (.int (Int32.ofInt d))]) (st' := [.int (Int32.ofInt d)]) (σ' := (zN L X (zhi s) R G nc ns)) (fun n => rfl) ?_
        refine zW.jtab rfl (by omega) (fun d5 => ?_) (fun j9 t9 d5 f9 => ?_) (by decide)
        · skip
          refine zW.run 1 (pc' := 118) (ls' := [some (.ref 8), some (.int (Int32.ofInt x)), some (.int (Int32.ofInt d))]) (st' := [.ref 8]) (σ' := (zN L X (zhi s) R G nc ns)) (fun n => rfl) ?_
          refine zW.getf (v := .ref 14) rfl rfl (zr_8 S (f := 5) (by decide)) ?_
          refine zW.run 1 (pc' := 122) (ls' := [some (.ref 8), some (.int (Int32.ofInt x)), some (.int (Int32.ofInt d))]) (st' := [.int (Int32.ofInt x), .ref 14]) (σ' := (zN L X (zhi s) R G nc ns)) (fun n => rfl) ?_
          refine zW.jald (n := 144) (v := (s 14 x.toNat)) rfl rfl (by decide) (by omega) rfl ?_
          have f6 := zA_cl A (k := x.toNat) (by omega)
          refine zW.jif_le rfl (by omega) (fun c7 => ?_) (fun c7 => ?_)
          · skip
            refine zW.run 1 (pc' := 133) (ls' := [some (.ref 8), some (.int (Int32.ofInt x)), some (.int (Int32.ofInt d))]) (st' := [.int (Int32.ofInt (-1))]) (σ' := (zN L X (zhi s) R G nc ns)) (fun n => rfl) ?_
            exact zW.jret rfl rfl (hQ0 (-1) (by omega))
          · skip
            refine zW.run 2 (pc' := 128) (ls' := [some (.ref 8), some (.int (Int32.ofInt x)), some (.int (Int32.ofInt d))]) (st' := [.int (Int32.ofInt 1), .int (Int32.ofInt x)]) (σ' := (zN L X (zhi s) R G nc ns)) (fun n => rfl) ?_
            refine zW.jsub rfl ?_
            refine zW.run 1 (pc' := 133) (ls' := [some (.ref 8), some (.int (Int32.ofInt x)), some (.int (Int32.ofInt d))]) (st' := [.int (Int32.ofInt (x - 1))]) (σ' := (zN L X (zhi s) R G nc ns)) (fun n => rfl) ?_
            exact zW.jret rfl rfl (hQ0 (x - 1) (by omega))
        match j9, d5, f9 with
        | 0, d5, f9 =>
          cases f9
          refine zW.run 1 (pc' := 49) (ls' := [some (.ref 8), some (.int (Int32.ofInt x)), some (.int (Int32.ofInt d))]) (st' := [.ref 8]) (σ' := (zN L X (zhi s) R G nc ns)) (fun n => rfl) ?_
          refine zW.getf (v := .ref 15) rfl rfl (zr_8 S (f := 6) (by decide)) ?_
          refine zW.run 1 (pc' := 53) (ls' := [some (.ref 8), some (.int (Int32.ofInt x)), some (.int (Int32.ofInt d))]) (st' := [.int (Int32.ofInt x), .ref 15]) (σ' := (zN L X (zhi s) R G nc ns)) (fun n => rfl) ?_
          refine zW.jald (n := 144) (v := (s 15 x.toNat)) rfl rfl (by decide) (by omega) rfl ?_
          have f8 := zA_cl A (k := x.toNat) (by omega)
          refine zW.jif_le rfl (by omega) (fun c9 => ?_) (fun c9 => ?_)
          · skip
            refine zW.run 1 (pc' := 67) (ls' := [some (.ref 8), some (.int (Int32.ofInt x)), some (.int (Int32.ofInt d))]) (st' := [.int (Int32.ofInt (-1))]) (σ' := (zN L X (zhi s) R G nc ns)) (fun n => rfl) ?_
            exact zW.jret rfl rfl (hQ0 (-1) (by omega))
          · skip
            refine zW.run 2 (pc' := 59) (ls' := [some (.ref 8), some (.int (Int32.ofInt x)), some (.int (Int32.ofInt d))]) (st' := [.ref 8, .int (Int32.ofInt x)]) (σ' := (zN L X (zhi s) R G nc ns)) (fun n => rfl) ?_
            refine zW.run 1 (pc' := 62) (ls' := [some (.ref 8), some (.int (Int32.ofInt x)), some (.int (Int32.ofInt d))]) (st' := [.int (Int32.ofInt (s 8 9)), .int (Int32.ofInt x)]) (σ' := (zN L X (zhi s) R G nc ns)) (fun n => rfl) ?_
            refine zW.jsub rfl ?_
            refine zW.run 1 (pc' := 67) (ls' := [some (.ref 8), some (.int (Int32.ofInt x)), some (.int (Int32.ofInt d))]) (st' := [.int (Int32.ofInt (x - (s 8 9)))]) (σ' := (zN L X (zhi s) R G nc ns)) (fun n => rfl) ?_
            exact zW.jret rfl rfl (hQ0 (x - (s 8 9)) (by omega))
        | 1, d5, f9 =>
          cases f9
          refine zW.run 1 (pc' := 69) (ls' := [some (.ref 8), some (.int (Int32.ofInt x)), some (.int (Int32.ofInt d))]) (st' := [.ref 8]) (σ' := (zN L X (zhi s) R G nc ns)) (fun n => rfl) ?_
          refine zW.getf (v := .ref 14) rfl rfl (zr_8 S (f := 5) (by decide)) ?_
          refine zW.run 1 (pc' := 73) (ls' := [some (.ref 8), some (.int (Int32.ofInt x)), some (.int (Int32.ofInt d))]) (st' := [.int (Int32.ofInt x), .ref 14]) (σ' := (zN L X (zhi s) R G nc ns)) (fun n => rfl) ?_
          refine zW.jald (n := 144) (v := (s 14 x.toNat)) rfl rfl (by decide) (by omega) rfl ?_
          have f10 := zA_cl A (k := x.toNat) (by omega)
          refine zW.run 1 (pc' := 75) (ls' := [some (.ref 8), some (.int (Int32.ofInt x)), some (.int (Int32.ofInt d))]) (st' := [.ref 8, .int (Int32.ofInt (s 14 x.toNat))]) (σ' := (zN L X (zhi s) R G nc ns)) (fun n => rfl) ?_
          refine zW.run 2 (pc' := 79) (ls' := [some (.ref 8), some (.int (Int32.ofInt x)), some (.int (Int32.ofInt d))]) (st' := [.int (Int32.ofInt 1), .int (Int32.ofInt (s 8 9)), .int (Int32.ofInt (s 14 x.toNat))]) (σ' := (zN L X (zhi s) R G nc ns)) (fun n => rfl) ?_
          refine zW.jsub rfl ?_
          refine zW.jcmp_ge rfl (by omega) (fun c11 => ?_) (fun c11 => ?_)
          · skip
            refine zW.run 1 (pc' := 90) (ls' := [some (.ref 8), some (.int (Int32.ofInt x)), some (.int (Int32.ofInt d))]) (st' := [.int (Int32.ofInt (-1))]) (σ' := (zN L X (zhi s) R G nc ns)) (fun n => rfl) ?_
            exact zW.jret rfl rfl (hQ0 (-1) (by omega))
          · skip
            refine zW.run 2 (pc' := 85) (ls' := [some (.ref 8), some (.int (Int32.ofInt x)), some (.int (Int32.ofInt d))]) (st' := [.int (Int32.ofInt 1), .int (Int32.ofInt x)]) (σ' := (zN L X (zhi s) R G nc ns)) (fun n => rfl) ?_
            refine zW.jadd rfl ?_
            refine zW.run 1 (pc' := 90) (ls' := [some (.ref 8), some (.int (Int32.ofInt x)), some (.int (Int32.ofInt d))]) (st' := [.int (Int32.ofInt (x + 1))]) (σ' := (zN L X (zhi s) R G nc ns)) (fun n => rfl) ?_
            exact zW.jret rfl rfl (hQ0 (x + 1) (by omega))
        | 2, d5, f9 =>
          cases f9
          refine zW.run 1 (pc' := 92) (ls' := [some (.ref 8), some (.int (Int32.ofInt x)), some (.int (Int32.ofInt d))]) (st' := [.ref 8]) (σ' := (zN L X (zhi s) R G nc ns)) (fun n => rfl) ?_
          refine zW.getf (v := .ref 15) rfl rfl (zr_8 S (f := 6) (by decide)) ?_
          refine zW.run 1 (pc' := 96) (ls' := [some (.ref 8), some (.int (Int32.ofInt x)), some (.int (Int32.ofInt d))]) (st' := [.int (Int32.ofInt x), .ref 15]) (σ' := (zN L X (zhi s) R G nc ns)) (fun n => rfl) ?_
          refine zW.jald (n := 144) (v := (s 15 x.toNat)) rfl rfl (by decide) (by omega) rfl ?_
          have f12 := zA_cl A (k := x.toNat) (by omega)
          refine zW.run 1 (pc' := 98) (ls' := [some (.ref 8), some (.int (Int32.ofInt x)), some (.int (Int32.ofInt d))]) (st' := [.ref 8, .int (Int32.ofInt (s 15 x.toNat))]) (σ' := (zN L X (zhi s) R G nc ns)) (fun n => rfl) ?_
          refine zW.run 2 (pc' := 102) (ls' := [some (.ref 8), some (.int (Int32.ofInt x)), some (.int (Int32.ofInt d))]) (st' := [.int (Int32.ofInt 1), .int (Int32.ofInt (s 8 10)), .int (Int32.ofInt (s 15 x.toNat))]) (σ' := (zN L X (zhi s) R G nc ns)) (fun n => rfl) ?_
          refine zW.jsub rfl ?_
          refine zW.jcmp_ge rfl (by omega) (fun c13 => ?_) (fun c13 => ?_)
          · skip
            refine zW.run 1 (pc' := 116) (ls' := [some (.ref 8), some (.int (Int32.ofInt x)), some (.int (Int32.ofInt d))]) (st' := [.int (Int32.ofInt (-1))]) (σ' := (zN L X (zhi s) R G nc ns)) (fun n => rfl) ?_
            exact zW.jret rfl rfl (hQ0 (-1) (by omega))
          · skip
            refine zW.run 2 (pc' := 108) (ls' := [some (.ref 8), some (.int (Int32.ofInt x)), some (.int (Int32.ofInt d))]) (st' := [.ref 8, .int (Int32.ofInt x)]) (σ' := (zN L X (zhi s) R G nc ns)) (fun n => rfl) ?_
            refine zW.run 1 (pc' := 111) (ls' := [some (.ref 8), some (.int (Int32.ofInt x)), some (.int (Int32.ofInt d))]) (st' := [.int (Int32.ofInt (s 8 9)), .int (Int32.ofInt x)]) (σ' := (zN L X (zhi s) R G nc ns)) (fun n => rfl) ?_
            refine zW.jadd rfl ?_
            refine zW.run 1 (pc' := 116) (ls' := [some (.ref 8), some (.int (Int32.ofInt x)), some (.int (Int32.ofInt d))]) (st' := [.int (Int32.ofInt (x + (s 8 9)))]) (σ' := (zN L X (zhi s) R G nc ns)) (fun n => rfl) ?_
            exact zW.jret rfl rfl (hQ0 (x + (s 8 9)) (by omega))
        | n9 + 3, e9, f9 => cases f9
      · skip
        refine zW.run 1 (pc' := 20) (ls' := [some (.ref 8), some (.int (Int32.ofInt x)), some (.int (Int32.ofInt d))]) (st' := [.int (Int32.ofInt (-1))]) (σ' := (zN L X (zhi s) R G nc ns)) (fun n => rfl) ?_
        exact zW.jret rfl rfl (hQ0 (-1) (by omega))
set_option maxHeartbeats 4000000 in
theorem t_Ground_topOf (S : zSR R) (V : zV g U F T B ph s) {x : Int} (p0 : -2147483648 ≤ x ∧ x < 2147483648) (hQ0 : ∀ (v : Int), -20 ≤ v ∧ v ≤ 30 → Q (.inl (some (.int (Int32.ofInt v)))) (zN L X (zhi s) R G nc ns)) : zW ro 78 0 (zfst [.ref 8, .int (Int32.ofInt x)] 3) [] (zN L X (zhi s) R G nc ns) Q := by
  show zW ro 78 0 [some (.ref 8), some (.int (Int32.ofInt x)), none] [] (zN L X (zhi s) R G nc ns) Q
  have f1 := zA_geo (zV_zA V)
  have hB0 := zV_B V
  refine zW.run 1 (pc' := 1) (ls' := [some (.ref 8), some (.int (Int32.ofInt x)), none]) (st' := [.int (Int32.ofInt x)]) (σ' := (zN L X (zhi s) R G nc ns)) (fun n => rfl) ?_
  refine zW.jif_lt rfl (by omega) (fun c2 => ?_) (fun c2 => ?_)
  · skip
    refine zW.run 1 (pc' := 20) (ls' := [some (.ref 8), some (.int (Int32.ofInt x)), none]) (st' := [.int (Int32.ofInt 0)]) (σ' := (zN L X (zhi s) R G nc ns)) (fun n => rfl) ?_
    exact zW.jret rfl rfl (hQ0 0 (by omega))
  · skip
    refine zW.run 2 (pc' := 6) (ls' := [some (.ref 8), some (.int (Int32.ofInt x)), none]) (st' := [.ref 8, .int (Int32.ofInt x)]) (σ' := (zN L X (zhi s) R G nc ns)) (fun n => rfl) ?_
    refine zW.run 1 (pc' := 9) (ls' := [some (.ref 8), some (.int (Int32.ofInt x)), none]) (st' := [.int (Int32.ofInt (s 8 11)), .int (Int32.ofInt x)]) (σ' := (zN L X (zhi s) R G nc ns)) (fun n => rfl) ?_
    refine zW.jcmp_ge rfl (by omega) (fun c3 => ?_) (fun c3 => ?_)
    · skip
      refine zW.run 1 (pc' := 20) (ls' := [some (.ref 8), some (.int (Int32.ofInt x)), none]) (st' := [.int (Int32.ofInt 0)]) (σ' := (zN L X (zhi s) R G nc ns)) (fun n => rfl) ?_
      exact zW.jret rfl rfl (hQ0 0 (by omega))
    · skip
      refine zW.run 2 (pc' := 16) (ls' := [some (.ref 8), some (.int (Int32.ofInt x)), none]) (st' := [.int (Int32.ofInt 144), .int (Int32.ofInt x)]) (σ' := (zN L X (zhi s) R G nc ns)) (fun n => rfl) ?_
      refine zW.jcmp_lt rfl (by omega) (fun c4 => ?_) (fun c4 => ?_)
      · skip
        refine zW.run 2 (pc' := 23) (ls' := [some (.ref 8), some (.int (Int32.ofInt x)), none]) (st' := [.ref 8, .int (Int32.ofInt 2)]) (σ' := (zN L X (zhi s) R G nc ns)) (fun n => rfl) ?_
        refine zW.getf (v := .ref 9) rfl rfl (zr_8 S (f := 0) (by decide)) ?_
        refine zW.run 1 (pc' := 27) (ls' := [some (.ref 8), some (.int (Int32.ofInt x)), none]) (st' := [.int (Int32.ofInt x), .ref 9, .int (Int32.ofInt 2)]) (σ' := (zN L X (zhi s) R G nc ns)) (fun n => rfl) ?_
        refine zW.jald (n := 144) (v := (s 9 x.toNat)) rfl rfl (by decide) (by omega) rfl ?_
        have f5 := zV_sq V (k := x.toNat) (by omega)
        refine zW.jmul rfl ?_
        refine zW.run 2 (pc' := 31) (ls' := [some (.ref 8), some (.int (Int32.ofInt x)), some (.int (Int32.ofInt (2 * (s 9 x.toNat))))]) (st' := [.ref 8]) (σ' := (zN L X (zhi s) R G nc ns)) (fun n => rfl) ?_
        refine zW.getf (v := .ref 11) rfl rfl (zr_8 S (f := 2) (by decide)) ?_
        refine zW.run 1 (pc' := 35) (ls' := [some (.ref 8), some (.int (Int32.ofInt x)), some (.int (Int32.ofInt (2 * (s 9 x.toNat))))]) (st' := [.int (Int32.ofInt x), .ref 11]) (σ' := (zN L X (zhi s) R G nc ns)) (fun n => rfl) ?_
        refine zW.jald (n := 144) (v := (s 11 x.toNat)) rfl rfl (by decide) (by omega) rfl ?_
        refine zW.jtab rfl (by omega) (fun d6 => ?_) (fun j9 t9 d6 f9 => ?_) (by decide)
        · skip
          refine zW.run 1 (pc' := 106) (ls' := [some (.ref 8), some (.int (Int32.ofInt x)), some (.int (Int32.ofInt (2 * (s 9 x.toNat))))]) (st' := [.int (Int32.ofInt (2 * (s 9 x.toNat)))]) (σ' := (zN L X (zhi s) R G nc ns)) (fun n => rfl) ?_
          exact zW.jret rfl rfl (hQ0 (2 * (s 9 x.toNat)) (by omega))
        match j9, d6, f9 with
        | 0, d6, f9 =>
          cases f9
          refine zW.run 2 (pc' := 83) (ls' := [some (.ref 8), some (.int (Int32.ofInt x)), some (.int (Int32.ofInt (2 * (s 9 x.toNat))))]) (st' := [.int (Int32.ofInt 6), .int (Int32.ofInt (2 * (s 9 x.toNat)))]) (σ' := (zN L X (zhi s) R G nc ns)) (fun n => rfl) ?_
          refine zW.jadd rfl ?_
          exact zW.jret rfl rfl (hQ0 ((2 * (s 9 x.toNat)) + 6) (by omega))
        | 1, d6, f9 =>
          cases f9
          refine zW.run 2 (pc' := 99) (ls' := [some (.ref 8), some (.int (Int32.ofInt x)), some (.int (Int32.ofInt (2 * (s 9 x.toNat))))]) (st' := [.int (Int32.ofInt 4), .int (Int32.ofInt (2 * (s 9 x.toNat)))]) (σ' := (zN L X (zhi s) R G nc ns)) (fun n => rfl) ?_
          refine zW.jsub rfl ?_
          exact zW.jret rfl rfl (hQ0 ((2 * (s 9 x.toNat)) - 4) (by omega))
        | 2, d6, f9 =>
          cases f9
          refine zW.run 2 (pc' := 87) (ls' := [some (.ref 8), some (.int (Int32.ofInt x)), some (.int (Int32.ofInt (2 * (s 9 x.toNat))))]) (st' := [.int (Int32.ofInt 4), .int (Int32.ofInt (2 * (s 9 x.toNat)))]) (σ' := (zN L X (zhi s) R G nc ns)) (fun n => rfl) ?_
          refine zW.jadd rfl ?_
          exact zW.jret rfl rfl (hQ0 ((2 * (s 9 x.toNat)) + 4) (by omega))
        | 3, d6, f9 =>
          cases f9
          refine zW.run 2 (pc' := 95) (ls' := [some (.ref 8), some (.int (Int32.ofInt x)), some (.int (Int32.ofInt (2 * (s 9 x.toNat))))]) (st' := [.int (Int32.ofInt 2), .int (Int32.ofInt (2 * (s 9 x.toNat)))]) (σ' := (zN L X (zhi s) R G nc ns)) (fun n => rfl) ?_
          refine zW.jadd rfl ?_
          exact zW.jret rfl rfl (hQ0 ((2 * (s 9 x.toNat)) + 2) (by omega))
        | 4, d6, f9 =>
          cases f9
          refine zW.run 1 (pc' := 106) (ls' := [some (.ref 8), some (.int (Int32.ofInt x)), some (.int (Int32.ofInt (2 * (s 9 x.toNat))))]) (st' := [.int (Int32.ofInt (2 * (s 9 x.toNat)))]) (σ' := (zN L X (zhi s) R G nc ns)) (fun n => rfl) ?_
          exact zW.jret rfl rfl (hQ0 (2 * (s 9 x.toNat)) (by omega))
        | 5, d6, f9 =>
          cases f9
          refine zW.run 2 (pc' := 91) (ls' := [some (.ref 8), some (.int (Int32.ofInt x)), some (.int (Int32.ofInt (2 * (s 9 x.toNat))))]) (st' := [.int (Int32.ofInt 2), .int (Int32.ofInt (2 * (s 9 x.toNat)))]) (σ' := (zN L X (zhi s) R G nc ns)) (fun n => rfl) ?_
          refine zW.jadd rfl ?_
          exact zW.jret rfl rfl (hQ0 ((2 * (s 9 x.toNat)) + 2) (by omega))
        | 6, d6, f9 =>
          cases f9
          refine zW.run 2 (pc' := 103) (ls' := [some (.ref 8), some (.int (Int32.ofInt x)), some (.int (Int32.ofInt (2 * (s 9 x.toNat))))]) (st' := [.int (Int32.ofInt 2), .int (Int32.ofInt (2 * (s 9 x.toNat)))]) (σ' := (zN L X (zhi s) R G nc ns)) (fun n => rfl) ?_
          refine zW.jsub rfl ?_
          exact zW.jret rfl rfl (hQ0 ((2 * (s 9 x.toNat)) - 2) (by omega))
        | n9 + 7, e9, f9 => cases f9
      · skip
        refine zW.run 1 (pc' := 20) (ls' := [some (.ref 8), some (.int (Int32.ofInt x)), none]) (st' := [.int (Int32.ofInt 0)]) (σ' := (zN L X (zhi s) R G nc ns)) (fun n => rfl) ?_
        exact zW.jret rfl rfl (hQ0 0 (by omega))
set_option maxHeartbeats 4000000 in
theorem t_Ground_topOf_e (S : zSR R) (V : zV g U F T B ph s) {x : Int} (p0 : 0 ≤ x ∧ x < g 2) (hQ0 : ∀ (v : Int), s 11 x.toNat = 1 ∧ v = 2 * s 9 x.toNat + 6 ∨ s 11 x.toNat = 3 ∧ v = 2 * s 9 x.toNat + 4 ∨ s 11 x.toNat = 6 ∧ v = 2 * s 9 x.toNat + 2 ∨ s 11 x.toNat = 4 ∧ v = 2 * s 9 x.toNat + 2 ∨ s 11 x.toNat = 2 ∧ v = 2 * s 9 x.toNat + -4 ∨ s 11 x.toNat = 7 ∧ v = 2 * s 9 x.toNat + -2 ∨ s 11 x.toNat = 0 ∧ v = 2 * s 9 x.toNat + 0 ∨ s 11 x.toNat = 5 ∧ v = 2 * s 9 x.toNat + 0 → Q (.inl (some (.int (Int32.ofInt v)))) (zN L X (zhi s) R G nc ns)) : zW ro 78 0 (zfst [.ref 8, .int (Int32.ofInt x)] 3) [] (zN L X (zhi s) R G nc ns) Q := by
  show zW ro 78 0 [some (.ref 8), some (.int (Int32.ofInt x)), none] [] (zN L X (zhi s) R G nc ns) Q
  have f1 := zA_geo (zV_zA V)
  have hB0 := zV_B V
  refine zW.run 1 (pc' := 1) (ls' := [some (.ref 8), some (.int (Int32.ofInt x)), none]) (st' := [.int (Int32.ofInt x)]) (σ' := (zN L X (zhi s) R G nc ns)) (fun n => rfl) ?_
  refine zW.jif_lt rfl (by omega) (fun c2 => ?_) (fun c2 => ?_)
  · skip
    refine zW.run 1 (pc' := 20) (ls' := [some (.ref 8), some (.int (Int32.ofInt x)), none]) (st' := [.int (Int32.ofInt 0)]) (σ' := (zN L X (zhi s) R G nc ns)) (fun n => rfl) ?_
    exact zW.jret rfl rfl (hQ0 0 (by omega))
  · skip
    refine zW.run 2 (pc' := 6) (ls' := [some (.ref 8), some (.int (Int32.ofInt x)), none]) (st' := [.ref 8, .int (Int32.ofInt x)]) (σ' := (zN L X (zhi s) R G nc ns)) (fun n => rfl) ?_
    refine zW.run 1 (pc' := 9) (ls' := [some (.ref 8), some (.int (Int32.ofInt x)), none]) (st' := [.int (Int32.ofInt (s 8 11)), .int (Int32.ofInt x)]) (σ' := (zN L X (zhi s) R G nc ns)) (fun n => rfl) ?_
    refine zW.jcmp_ge rfl (by omega) (fun c3 => ?_) (fun c3 => ?_)
    · skip
      refine zW.run 1 (pc' := 20) (ls' := [some (.ref 8), some (.int (Int32.ofInt x)), none]) (st' := [.int (Int32.ofInt 0)]) (σ' := (zN L X (zhi s) R G nc ns)) (fun n => rfl) ?_
      exact zW.jret rfl rfl (hQ0 0 (by omega))
    · skip
      refine zW.run 2 (pc' := 16) (ls' := [some (.ref 8), some (.int (Int32.ofInt x)), none]) (st' := [.int (Int32.ofInt 144), .int (Int32.ofInt x)]) (σ' := (zN L X (zhi s) R G nc ns)) (fun n => rfl) ?_
      refine zW.jcmp_lt rfl (by omega) (fun c4 => ?_) (fun c4 => ?_)
      · skip
        refine zW.run 2 (pc' := 23) (ls' := [some (.ref 8), some (.int (Int32.ofInt x)), none]) (st' := [.ref 8, .int (Int32.ofInt 2)]) (σ' := (zN L X (zhi s) R G nc ns)) (fun n => rfl) ?_
        refine zW.getf (v := .ref 9) rfl rfl (zr_8 S (f := 0) (by decide)) ?_
        refine zW.run 1 (pc' := 27) (ls' := [some (.ref 8), some (.int (Int32.ofInt x)), none]) (st' := [.int (Int32.ofInt x), .ref 9, .int (Int32.ofInt 2)]) (σ' := (zN L X (zhi s) R G nc ns)) (fun n => rfl) ?_
        refine zW.jald (n := 144) (v := (s 9 x.toNat)) rfl rfl (by decide) (by omega) rfl ?_
        have f5 := zV_sq V (k := x.toNat) (by omega)
        refine zW.jmul rfl ?_
        refine zW.run 2 (pc' := 31) (ls' := [some (.ref 8), some (.int (Int32.ofInt x)), some (.int (Int32.ofInt (2 * (s 9 x.toNat))))]) (st' := [.ref 8]) (σ' := (zN L X (zhi s) R G nc ns)) (fun n => rfl) ?_
        refine zW.getf (v := .ref 11) rfl rfl (zr_8 S (f := 2) (by decide)) ?_
        refine zW.run 1 (pc' := 35) (ls' := [some (.ref 8), some (.int (Int32.ofInt x)), some (.int (Int32.ofInt (2 * (s 9 x.toNat))))]) (st' := [.int (Int32.ofInt x), .ref 11]) (σ' := (zN L X (zhi s) R G nc ns)) (fun n => rfl) ?_
        refine zW.jald (n := 144) (v := (s 11 x.toNat)) rfl rfl (by decide) (by omega) rfl ?_
        refine zW.jtab rfl (by omega) (fun d6 => ?_) (fun j9 t9 d6 f9 => ?_) (by decide)
        · skip
          refine zW.run 1 (pc' := 106) (ls' := [some (.ref 8), some (.int (Int32.ofInt x)), some (.int (Int32.ofInt (2 * (s 9 x.toNat))))]) (st' := [.int (Int32.ofInt (2 * (s 9 x.toNat)))]) (σ' := (zN L X (zhi s) R G nc ns)) (fun n => rfl) ?_
          exact zW.jret rfl rfl (hQ0 (2 * (s 9 x.toNat)) (by omega))
        match j9, d6, f9 with
        | 0, d6, f9 =>
          cases f9
          refine zW.run 2 (pc' := 83) (ls' := [some (.ref 8), some (.int (Int32.ofInt x)), some (.int (Int32.ofInt (2 * (s 9 x.toNat))))]) (st' := [.int (Int32.ofInt 6), .int (Int32.ofInt (2 * (s 9 x.toNat)))]) (σ' := (zN L X (zhi s) R G nc ns)) (fun n => rfl) ?_
          refine zW.jadd rfl ?_
          exact zW.jret rfl rfl (hQ0 ((2 * (s 9 x.toNat)) + 6) (by omega))
        | 1, d6, f9 =>
          cases f9
          refine zW.run 2 (pc' := 99) (ls' := [some (.ref 8), some (.int (Int32.ofInt x)), some (.int (Int32.ofInt (2 * (s 9 x.toNat))))]) (st' := [.int (Int32.ofInt 4), .int (Int32.ofInt (2 * (s 9 x.toNat)))]) (σ' := (zN L X (zhi s) R G nc ns)) (fun n => rfl) ?_
          refine zW.jsub rfl ?_
          exact zW.jret rfl rfl (hQ0 ((2 * (s 9 x.toNat)) - 4) (by omega))
        | 2, d6, f9 =>
          cases f9
          refine zW.run 2 (pc' := 87) (ls' := [some (.ref 8), some (.int (Int32.ofInt x)), some (.int (Int32.ofInt (2 * (s 9 x.toNat))))]) (st' := [.int (Int32.ofInt 4), .int (Int32.ofInt (2 * (s 9 x.toNat)))]) (σ' := (zN L X (zhi s) R G nc ns)) (fun n => rfl) ?_
          refine zW.jadd rfl ?_
          exact zW.jret rfl rfl (hQ0 ((2 * (s 9 x.toNat)) + 4) (by omega))
        | 3, d6, f9 =>
          cases f9
          refine zW.run 2 (pc' := 95) (ls' := [some (.ref 8), some (.int (Int32.ofInt x)), some (.int (Int32.ofInt (2 * (s 9 x.toNat))))]) (st' := [.int (Int32.ofInt 2), .int (Int32.ofInt (2 * (s 9 x.toNat)))]) (σ' := (zN L X (zhi s) R G nc ns)) (fun n => rfl) ?_
          refine zW.jadd rfl ?_
          exact zW.jret rfl rfl (hQ0 ((2 * (s 9 x.toNat)) + 2) (by omega))
        | 4, d6, f9 =>
          cases f9
          refine zW.run 1 (pc' := 106) (ls' := [some (.ref 8), some (.int (Int32.ofInt x)), some (.int (Int32.ofInt (2 * (s 9 x.toNat))))]) (st' := [.int (Int32.ofInt (2 * (s 9 x.toNat)))]) (σ' := (zN L X (zhi s) R G nc ns)) (fun n => rfl) ?_
          exact zW.jret rfl rfl (hQ0 (2 * (s 9 x.toNat)) (by omega))
        | 5, d6, f9 =>
          cases f9
          refine zW.run 2 (pc' := 91) (ls' := [some (.ref 8), some (.int (Int32.ofInt x)), some (.int (Int32.ofInt (2 * (s 9 x.toNat))))]) (st' := [.int (Int32.ofInt 2), .int (Int32.ofInt (2 * (s 9 x.toNat)))]) (σ' := (zN L X (zhi s) R G nc ns)) (fun n => rfl) ?_
          refine zW.jadd rfl ?_
          exact zW.jret rfl rfl (hQ0 ((2 * (s 9 x.toNat)) + 2) (by omega))
        | 6, d6, f9 =>
          cases f9
          refine zW.run 2 (pc' := 103) (ls' := [some (.ref 8), some (.int (Int32.ofInt x)), some (.int (Int32.ofInt (2 * (s 9 x.toNat))))]) (st' := [.int (Int32.ofInt 2), .int (Int32.ofInt (2 * (s 9 x.toNat)))]) (σ' := (zN L X (zhi s) R G nc ns)) (fun n => rfl) ?_
          refine zW.jsub rfl ?_
          exact zW.jret rfl rfl (hQ0 ((2 * (s 9 x.toNat)) - 2) (by omega))
        | n9 + 7, e9, f9 => cases f9
      · skip
        refine zW.run 1 (pc' := 20) (ls' := [some (.ref 8), some (.int (Int32.ofInt x)), none]) (st' := [.int (Int32.ofInt 0)]) (σ' := (zN L X (zhi s) R G nc ns)) (fun n => rfl) ?_
        exact zW.jret rfl rfl (hQ0 0 (by omega))
set_option maxHeartbeats 4000000 in
theorem t_Ground_bodyOverTop (S : zSR R) (V : zV g U F T B ph s) {x : Int} (p0 : -2147483648 ≤ x ∧ x < 2147483648) (hQ0 : ∀ (v : Int), v = -2 ∨ v = 1 → Q (.inl (some (.int (Int32.ofInt v)))) (zN L X (zhi s) R G nc ns)) : zW ro 60 0 (zfst [.ref 8, .int (Int32.ofInt x)] 2) [] (zN L X (zhi s) R G nc ns) Q := by
  show zW ro 60 0 [some (.ref 8), some (.int (Int32.ofInt x))] [] (zN L X (zhi s) R G nc ns) Q
  have f1 := zA_geo (zV_zA V)
  have hB0 := zV_B V
  refine zW.run 1 (pc' := 1) (ls' := [some (.ref 8), some (.int (Int32.ofInt x))]) (st' := [.int (Int32.ofInt x)]) (σ' := (zN L X (zhi s) R G nc ns)) (fun n => rfl) ?_
  refine zW.jif_lt rfl (by omega) (fun c2 => ?_) (fun c2 => ?_)
  · skip
    refine zW.run 1 (pc' := 35) (ls' := [some (.ref 8), some (.int (Int32.ofInt x))]) (st' := [.int (Int32.ofInt 1)]) (σ' := (zN L X (zhi s) R G nc ns)) (fun n => rfl) ?_
    exact zW.jret rfl rfl (hQ0 1 (by omega))
  · skip
    refine zW.run 2 (pc' := 6) (ls' := [some (.ref 8), some (.int (Int32.ofInt x))]) (st' := [.ref 8, .int (Int32.ofInt x)]) (σ' := (zN L X (zhi s) R G nc ns)) (fun n => rfl) ?_
    refine zW.run 1 (pc' := 9) (ls' := [some (.ref 8), some (.int (Int32.ofInt x))]) (st' := [.int (Int32.ofInt (s 8 11)), .int (Int32.ofInt x)]) (σ' := (zN L X (zhi s) R G nc ns)) (fun n => rfl) ?_
    refine zW.jcmp_ge rfl (by omega) (fun c3 => ?_) (fun c3 => ?_)
    · skip
      refine zW.run 1 (pc' := 35) (ls' := [some (.ref 8), some (.int (Int32.ofInt x))]) (st' := [.int (Int32.ofInt 1)]) (σ' := (zN L X (zhi s) R G nc ns)) (fun n => rfl) ?_
      exact zW.jret rfl rfl (hQ0 1 (by omega))
    · skip
      refine zW.run 2 (pc' := 16) (ls' := [some (.ref 8), some (.int (Int32.ofInt x))]) (st' := [.int (Int32.ofInt 144), .int (Int32.ofInt x)]) (σ' := (zN L X (zhi s) R G nc ns)) (fun n => rfl) ?_
      refine zW.jcmp_ge rfl (by omega) (fun c4 => ?_) (fun c4 => ?_)
      · skip
        refine zW.run 1 (pc' := 35) (ls' := [some (.ref 8), some (.int (Int32.ofInt x))]) (st' := [.int (Int32.ofInt 1)]) (σ' := (zN L X (zhi s) R G nc ns)) (fun n => rfl) ?_
        exact zW.jret rfl rfl (hQ0 1 (by omega))
      · skip
        refine zW.run 1 (pc' := 20) (ls' := [some (.ref 8), some (.int (Int32.ofInt x))]) (st' := [.ref 8]) (σ' := (zN L X (zhi s) R G nc ns)) (fun n => rfl) ?_
        refine zW.getf (v := .ref 11) rfl rfl (zr_8 S (f := 2) (by decide)) ?_
        refine zW.run 1 (pc' := 24) (ls' := [some (.ref 8), some (.int (Int32.ofInt x))]) (st' := [.int (Int32.ofInt x), .ref 11]) (σ' := (zN L X (zhi s) R G nc ns)) (fun n => rfl) ?_
        refine zW.jald (n := 144) (v := (s 11 x.toNat)) rfl rfl (by decide) (by omega) rfl ?_
        have f5 := zV_sq V (k := x.toNat) (by omega)
        refine zW.run 1 (pc' := 26) (ls' := [some (.ref 8), some (.int (Int32.ofInt x))]) (st' := [.int (Int32.ofInt 5), .int (Int32.ofInt (s 11 x.toNat))]) (σ' := (zN L X (zhi s) R G nc ns)) (fun n => rfl) ?_
        refine zW.jcmp_ne rfl (by omega) (fun c6 => ?_) (fun c6 => ?_)
        · skip
          refine zW.run 1 (pc' := 35) (ls' := [some (.ref 8), some (.int (Int32.ofInt x))]) (st' := [.int (Int32.ofInt 1)]) (σ' := (zN L X (zhi s) R G nc ns)) (fun n => rfl) ?_
          exact zW.jret rfl rfl (hQ0 1 (by omega))
        · skip
          refine zW.run 2 (pc' := 35) (ls' := [some (.ref 8), some (.int (Int32.ofInt x))]) (st' := [.int (Int32.ofInt (-2))]) (σ' := (zN L X (zhi s) R G nc ns)) (fun n => rfl) ?_
          exact zW.jret rfl rfl (hQ0 (-2) (by omega))
set_option maxHeartbeats 4000000 in
theorem t_Ground_bodyOverTop_e (S : zSR R) (V : zV g U F T B ph s) {x : Int} (p0 : 0 ≤ x ∧ x < g 2) (hQ0 : ∀ (v : Int), s 11 x.toNat = 5 ∧ v = -2 ∨ ¬ s 11 x.toNat = 5 ∧ v = 1 → Q (.inl (some (.int (Int32.ofInt v)))) (zN L X (zhi s) R G nc ns)) : zW ro 60 0 (zfst [.ref 8, .int (Int32.ofInt x)] 2) [] (zN L X (zhi s) R G nc ns) Q := by
  show zW ro 60 0 [some (.ref 8), some (.int (Int32.ofInt x))] [] (zN L X (zhi s) R G nc ns) Q
  have f1 := zA_geo (zV_zA V)
  have hB0 := zV_B V
  refine zW.run 1 (pc' := 1) (ls' := [some (.ref 8), some (.int (Int32.ofInt x))]) (st' := [.int (Int32.ofInt x)]) (σ' := (zN L X (zhi s) R G nc ns)) (fun n => rfl) ?_
  refine zW.jif_lt rfl (by omega) (fun c2 => ?_) (fun c2 => ?_)
  · skip
    refine zW.run 1 (pc' := 35) (ls' := [some (.ref 8), some (.int (Int32.ofInt x))]) (st' := [.int (Int32.ofInt 1)]) (σ' := (zN L X (zhi s) R G nc ns)) (fun n => rfl) ?_
    exact zW.jret rfl rfl (hQ0 1 (by omega))
  · skip
    refine zW.run 2 (pc' := 6) (ls' := [some (.ref 8), some (.int (Int32.ofInt x))]) (st' := [.ref 8, .int (Int32.ofInt x)]) (σ' := (zN L X (zhi s) R G nc ns)) (fun n => rfl) ?_
    refine zW.run 1 (pc' := 9) (ls' := [some (.ref 8), some (.int (Int32.ofInt x))]) (st' := [.int (Int32.ofInt (s 8 11)), .int (Int32.ofInt x)]) (σ' := (zN L X (zhi s) R G nc ns)) (fun n => rfl) ?_
    refine zW.jcmp_ge rfl (by omega) (fun c3 => ?_) (fun c3 => ?_)
    · skip
      refine zW.run 1 (pc' := 35) (ls' := [some (.ref 8), some (.int (Int32.ofInt x))]) (st' := [.int (Int32.ofInt 1)]) (σ' := (zN L X (zhi s) R G nc ns)) (fun n => rfl) ?_
      exact zW.jret rfl rfl (hQ0 1 (by omega))
    · skip
      refine zW.run 2 (pc' := 16) (ls' := [some (.ref 8), some (.int (Int32.ofInt x))]) (st' := [.int (Int32.ofInt 144), .int (Int32.ofInt x)]) (σ' := (zN L X (zhi s) R G nc ns)) (fun n => rfl) ?_
      refine zW.jcmp_ge rfl (by omega) (fun c4 => ?_) (fun c4 => ?_)
      · skip
        refine zW.run 1 (pc' := 35) (ls' := [some (.ref 8), some (.int (Int32.ofInt x))]) (st' := [.int (Int32.ofInt 1)]) (σ' := (zN L X (zhi s) R G nc ns)) (fun n => rfl) ?_
        exact zW.jret rfl rfl (hQ0 1 (by omega))
      · skip
        refine zW.run 1 (pc' := 20) (ls' := [some (.ref 8), some (.int (Int32.ofInt x))]) (st' := [.ref 8]) (σ' := (zN L X (zhi s) R G nc ns)) (fun n => rfl) ?_
        refine zW.getf (v := .ref 11) rfl rfl (zr_8 S (f := 2) (by decide)) ?_
        refine zW.run 1 (pc' := 24) (ls' := [some (.ref 8), some (.int (Int32.ofInt x))]) (st' := [.int (Int32.ofInt x), .ref 11]) (σ' := (zN L X (zhi s) R G nc ns)) (fun n => rfl) ?_
        refine zW.jald (n := 144) (v := (s 11 x.toNat)) rfl rfl (by decide) (by omega) rfl ?_
        have f5 := zV_sq V (k := x.toNat) (by omega)
        refine zW.run 1 (pc' := 26) (ls' := [some (.ref 8), some (.int (Int32.ofInt x))]) (st' := [.int (Int32.ofInt 5), .int (Int32.ofInt (s 11 x.toNat))]) (σ' := (zN L X (zhi s) R G nc ns)) (fun n => rfl) ?_
        refine zW.jcmp_ne rfl (by omega) (fun c6 => ?_) (fun c6 => ?_)
        · skip
          refine zW.run 1 (pc' := 35) (ls' := [some (.ref 8), some (.int (Int32.ofInt x))]) (st' := [.int (Int32.ofInt 1)]) (σ' := (zN L X (zhi s) R G nc ns)) (fun n => rfl) ?_
          exact zW.jret rfl rfl (hQ0 1 (by omega))
        · skip
          refine zW.run 2 (pc' := 35) (ls' := [some (.ref 8), some (.int (Int32.ofInt x))]) (st' := [.int (Int32.ofInt (-2))]) (σ' := (zN L X (zhi s) R G nc ns)) (fun n => rfl) ?_
          exact zW.jret rfl rfl (hQ0 (-2) (by omega))
set_option maxHeartbeats 4000000 in
theorem t_Ground_bodyOf_e (S : zSR R) (V : zV g U F T B ph s) {x : Int} (p0 : 0 ≤ x ∧ x < g 2) (hQ0 : ∀ (t : Int) (v : Int), s 11 x.toNat = 1 ∧ t = 2 * s 9 x.toNat + 6 ∨ s 11 x.toNat = 3 ∧ t = 2 * s 9 x.toNat + 4 ∨ s 11 x.toNat = 6 ∧ t = 2 * s 9 x.toNat + 2 ∨ s 11 x.toNat = 4 ∧ t = 2 * s 9 x.toNat + 2 ∨ s 11 x.toNat = 2 ∧ t = 2 * s 9 x.toNat + -4 ∨ s 11 x.toNat = 7 ∧ t = 2 * s 9 x.toNat + -2 ∨ s 11 x.toNat = 0 ∧ t = 2 * s 9 x.toNat + 0 ∨ s 11 x.toNat = 5 ∧ t = 2 * s 9 x.toNat + 0 → s 11 x.toNat = 5 ∧ v = t - 2 ∨ ¬ s 11 x.toNat = 5 ∧ v = t + 1 → Q (.inl (some (.int (Int32.ofInt v)))) (zN L X (zhi s) R G nc ns)) : zW ro 59 0 (zfst [.ref 8, .int (Int32.ofInt x)] 2) [] (zN L X (zhi s) R G nc ns) Q := by
  show zW ro 59 0 [some (.ref 8), some (.int (Int32.ofInt x))] [] (zN L X (zhi s) R G nc ns) Q
  have f1 := zA_geo (zV_zA V)
  have hB0 := zV_B V
  refine zW.run 2 (pc' := 2) (ls' := [some (.ref 8), some (.int (Int32.ofInt x))]) (st' := [.int (Int32.ofInt x), .ref 8]) (σ' := (zN L X (zhi s) R G nc ns)) (fun n => rfl) ?_
  refine zW.callV rfl (by decide) rfl rfl rfl rfl rfl (Nat.le_of_ble_eq_true rfl) ?_
  refine t_Ground_topOf_e S V (x := x) (by omega) (fun v_2 f3 => ?_)
  show zW ro 59 5 [some (.ref 8), some (.int (Int32.ofInt x))] [.int (Int32.ofInt v_2)] (zN L X (zhi s) R G nc ns) Q
  have f4 := zV_sq V (k := x.toNat) (by omega)
  refine zW.run 2 (pc' := 7) (ls' := [some (.ref 8), some (.int (Int32.ofInt x))]) (st' := [.int (Int32.ofInt x), .ref 8, .int (Int32.ofInt v_2)]) (σ' := (zN L X (zhi s) R G nc ns)) (fun n => rfl) ?_
  refine zW.callV rfl (by decide) rfl rfl rfl rfl rfl (Nat.le_of_ble_eq_true rfl) ?_
  refine t_Ground_bodyOverTop_e S V (x := x) (by omega) (fun v_5 f6 => ?_)
  show zW ro 59 10 [some (.ref 8), some (.int (Int32.ofInt x))] [.int (Int32.ofInt v_5), .int (Int32.ofInt v_2)] (zN L X (zhi s) R G nc ns) Q
  refine zW.jadd rfl ?_
  exact zW.jret rfl rfl (hQ0 v_2 (v_2 + v_5) (by omega) (by omega))
set_option maxHeartbeats 4000000 in
theorem t_Ground_far (S : zSR R) (A : zA g s) {a : Int} {b : Int} (p0 : -2147483648 ≤ a ∧ a < 2147483648) (p1 : -2147483648 ≤ b ∧ b < 2147483648) (hQ0 : ∀ (v : Int), 0 ≤ v ∧ v ≤ 144 → Q (.inl (some (.int (Int32.ofInt v)))) (zN L X (zhi s) R G nc ns)) : zW ro 63 0 (zfst [.ref 8, .int (Int32.ofInt a), .int (Int32.ofInt b)] 5) [] (zN L X (zhi s) R G nc ns) Q := by
  show zW ro 63 0 [some (.ref 8), some (.int (Int32.ofInt a)), some (.int (Int32.ofInt b)), none, none] [] (zN L X (zhi s) R G nc ns) Q
  have f1 := zA_geo A
  refine zW.run 2 (pc' := 2) (ls' := [some (.ref 8), some (.int (Int32.ofInt a)), some (.int (Int32.ofInt b)), none, none]) (st' := [.int (Int32.ofInt a), .ref 8]) (σ' := (zN L X (zhi s) R G nc ns)) (fun n => rfl) ?_
  refine zW.callV rfl (by decide) rfl rfl rfl rfl rfl (Nat.le_of_ble_eq_true rfl) ?_
  refine t_Ground_isOn S A (x := a) (by omega) (fun f2 f3 => ?_) (fun f4 => ?_)
  · skip
    show zW ro 63 5 [some (.ref 8), some (.int (Int32.ofInt a)), some (.int (Int32.ofInt b)), none, none] [.int (Int32.ofInt 1)] (zN L X (zhi s) R G nc ns) Q
    refine zW.run 3 (pc' := 10) (ls' := [some (.ref 8), some (.int (Int32.ofInt a)), some (.int (Int32.ofInt b)), none, none]) (st' := [.int (Int32.ofInt b), .ref 8]) (σ' := (zN L X (zhi s) R G nc ns)) (fun n => rfl) ?_
    refine zW.callV rfl (by decide) rfl rfl rfl rfl rfl (Nat.le_of_ble_eq_true rfl) ?_
    refine t_Ground_isOn S A (x := b) (by omega) (fun f5 f6 => ?_) (fun f7 => ?_)
    · skip
      show zW ro 63 13 [some (.ref 8), some (.int (Int32.ofInt a)), some (.int (Int32.ofInt b)), none, none] [.int (Int32.ofInt 1)] (zN L X (zhi s) R G nc ns) Q
      refine zW.run 2 (pc' := 21) (ls' := [some (.ref 8), some (.int (Int32.ofInt a)), some (.int (Int32.ofInt b)), none, none]) (st' := [.ref 8]) (σ' := (zN L X (zhi s) R G nc ns)) (fun n => rfl) ?_
      refine zW.getf (v := .ref 14) rfl rfl (zr_8 S (f := 5) (by decide)) ?_
      refine zW.run 1 (pc' := 25) (ls' := [some (.ref 8), some (.int (Int32.ofInt a)), some (.int (Int32.ofInt b)), none, none]) (st' := [.int (Int32.ofInt a), .ref 14]) (σ' := (zN L X (zhi s) R G nc ns)) (fun n => rfl) ?_
      refine zW.jald (n := 144) (v := (s 14 a.toNat)) rfl rfl (by decide) (by omega) rfl ?_
      have f8 := zA_cl A (k := a.toNat) (by omega)
      refine zW.run 1 (pc' := 27) (ls' := [some (.ref 8), some (.int (Int32.ofInt a)), some (.int (Int32.ofInt b)), none, none]) (st' := [.ref 8, .int (Int32.ofInt (s 14 a.toNat))]) (σ' := (zN L X (zhi s) R G nc ns)) (fun n => rfl) ?_
      refine zW.getf (v := .ref 14) rfl rfl (zr_8 S (f := 5) (by decide)) ?_
      refine zW.run 1 (pc' := 31) (ls' := [some (.ref 8), some (.int (Int32.ofInt a)), some (.int (Int32.ofInt b)), none, none]) (st' := [.int (Int32.ofInt b), .ref 14, .int (Int32.ofInt (s 14 a.toNat))]) (σ' := (zN L X (zhi s) R G nc ns)) (fun n => rfl) ?_
      refine zW.jald (n := 144) (v := (s 14 b.toNat)) rfl rfl (by decide) (by omega) rfl ?_
      have f9 := zA_cl A (k := b.toNat) (by omega)
      refine zW.jsub rfl ?_
      refine zW.callS rfl rfl rfl rfl rfl (Nat.le_of_ble_eq_true rfl) ?_
      refine t_Math_abs S (x := ((s 14 a.toNat) - (s 14 b.toNat))) (by omega) (fun v_10 f11 => ?_)
      show zW ro 63 36 [some (.ref 8), some (.int (Int32.ofInt a)), some (.int (Int32.ofInt b)), none, none] [.int (Int32.ofInt v_10)] (zN L X (zhi s) R G nc ns) Q
      refine zW.run 2 (pc' := 38) (ls' := [some (.ref 8), some (.int (Int32.ofInt a)), some (.int (Int32.ofInt b)), some (.int (Int32.ofInt v_10)), none]) (st' := [.ref 8]) (σ' := (zN L X (zhi s) R G nc ns)) (fun n => rfl) ?_
      refine zW.getf (v := .ref 15) rfl rfl (zr_8 S (f := 6) (by decide)) ?_
      refine zW.run 1 (pc' := 42) (ls' := [some (.ref 8), some (.int (Int32.ofInt a)), some (.int (Int32.ofInt b)), some (.int (Int32.ofInt v_10)), none]) (st' := [.int (Int32.ofInt a), .ref 15]) (σ' := (zN L X (zhi s) R G nc ns)) (fun n => rfl) ?_
      refine zW.jald (n := 144) (v := (s 15 a.toNat)) rfl rfl (by decide) (by omega) rfl ?_
      refine zW.run 1 (pc' := 44) (ls' := [some (.ref 8), some (.int (Int32.ofInt a)), some (.int (Int32.ofInt b)), some (.int (Int32.ofInt v_10)), none]) (st' := [.ref 8, .int (Int32.ofInt (s 15 a.toNat))]) (σ' := (zN L X (zhi s) R G nc ns)) (fun n => rfl) ?_
      refine zW.getf (v := .ref 15) rfl rfl (zr_8 S (f := 6) (by decide)) ?_
      refine zW.run 1 (pc' := 48) (ls' := [some (.ref 8), some (.int (Int32.ofInt a)), some (.int (Int32.ofInt b)), some (.int (Int32.ofInt v_10)), none]) (st' := [.int (Int32.ofInt b), .ref 15, .int (Int32.ofInt (s 15 a.toNat))]) (σ' := (zN L X (zhi s) R G nc ns)) (fun n => rfl) ?_
      refine zW.jald (n := 144) (v := (s 15 b.toNat)) rfl rfl (by decide) (by omega) rfl ?_
      refine zW.jsub rfl ?_
      refine zW.callS rfl rfl rfl rfl rfl (Nat.le_of_ble_eq_true rfl) ?_
      refine t_Math_abs S (x := ((s 15 a.toNat) - (s 15 b.toNat))) (by omega) (fun v_12 f13 => ?_)
      show zW ro 63 53 [some (.ref 8), some (.int (Int32.ofInt a)), some (.int (Int32.ofInt b)), some (.int (Int32.ofInt v_10)), none] [.int (Int32.ofInt v_12)] (zN L X (zhi s) R G nc ns) Q
      refine zW.run 3 (pc' := 58) (ls' := [some (.ref 8), some (.int (Int32.ofInt a)), some (.int (Int32.ofInt b)), some (.int (Int32.ofInt v_10)), some (.int (Int32.ofInt v_12))]) (st' := [.int (Int32.ofInt v_12), .int (Int32.ofInt v_10)]) (σ' := (zN L X (zhi s) R G nc ns)) (fun n => rfl) ?_
      refine zW.jcmp_le rfl (by omega) (fun c14 => ?_) (fun c14 => ?_)
      · skip
        refine zW.run 1 (pc' := 67) (ls' := [some (.ref 8), some (.int (Int32.ofInt a)), some (.int (Int32.ofInt b)), some (.int (Int32.ofInt v_10)), some (.int (Int32.ofInt v_12))]) (st' := [.int (Int32.ofInt v_12)]) (σ' := (zN L X (zhi s) R G nc ns)) (fun n => rfl) ?_
        exact zW.jret rfl rfl (hQ0 v_12 (by omega))
      · skip
        refine zW.run 2 (pc' := 67) (ls' := [some (.ref 8), some (.int (Int32.ofInt a)), some (.int (Int32.ofInt b)), some (.int (Int32.ofInt v_10)), some (.int (Int32.ofInt v_12))]) (st' := [.int (Int32.ofInt v_10)]) (σ' := (zN L X (zhi s) R G nc ns)) (fun n => rfl) ?_
        exact zW.jret rfl rfl (hQ0 v_10 (by omega))
    · skip
      show zW ro 63 13 [some (.ref 8), some (.int (Int32.ofInt a)), some (.int (Int32.ofInt b)), none, none] [.int (Int32.ofInt 0)] (zN L X (zhi s) R G nc ns) Q
      refine zW.run 2 (pc' := 19) (ls' := [some (.ref 8), some (.int (Int32.ofInt a)), some (.int (Int32.ofInt b)), none, none]) (st' := [.int (Int32.ofInt 144)]) (σ' := (zN L X (zhi s) R G nc ns)) (fun n => rfl) ?_
      exact zW.jret rfl rfl (hQ0 144 (by omega))
  · skip
    show zW ro 63 5 [some (.ref 8), some (.int (Int32.ofInt a)), some (.int (Int32.ofInt b)), none, none] [.int (Int32.ofInt 0)] (zN L X (zhi s) R G nc ns) Q
    refine zW.run 2 (pc' := 19) (ls' := [some (.ref 8), some (.int (Int32.ofInt a)), some (.int (Int32.ofInt b)), none, none]) (st' := [.int (Int32.ofInt 144)]) (σ' := (zN L X (zhi s) R G nc ns)) (fun n => rfl) ?_
    exact zW.jret rfl rfl (hQ0 144 (by omega))
set_option maxHeartbeats 4000000 in
theorem t_Ground_touches (S : zSR R) (A : zA g s) {a : Int} {b : Int} (p0 : -2147483648 ≤ a ∧ a < 2147483648) (p1 : -2147483648 ≤ b ∧ b < 2147483648) (hQ0 : 0 ≤ a ∧ a < g 2 → 0 ≤ b ∧ b < g 2 → Q (.inl (some (.int (Int32.ofInt 1)))) (zN L X (zhi s) R G nc ns)) (hQ1 : Q (.inl (some (.int (Int32.ofInt 0)))) (zN L X (zhi s) R G nc ns)) : zW ro 79 0 (zfst [.ref 8, .int (Int32.ofInt a), .int (Int32.ofInt b)] 3) [] (zN L X (zhi s) R G nc ns) Q := by
  show zW ro 79 0 [some (.ref 8), some (.int (Int32.ofInt a)), some (.int (Int32.ofInt b))] [] (zN L X (zhi s) R G nc ns) Q
  have f1 := zA_geo A
  refine zW.run 2 (pc' := 2) (ls' := [some (.ref 8), some (.int (Int32.ofInt a)), some (.int (Int32.ofInt b))]) (st' := [.int (Int32.ofInt a), .ref 8]) (σ' := (zN L X (zhi s) R G nc ns)) (fun n => rfl) ?_
  refine zW.callV rfl (by decide) rfl rfl rfl rfl rfl (Nat.le_of_ble_eq_true rfl) ?_
  refine t_Ground_isOn S A (x := a) (by omega) (fun f2 f3 => ?_) (fun f4 => ?_)
  · skip
    show zW ro 79 5 [some (.ref 8), some (.int (Int32.ofInt a)), some (.int (Int32.ofInt b))] [.int (Int32.ofInt 1)] (zN L X (zhi s) R G nc ns) Q
    refine zW.run 3 (pc' := 10) (ls' := [some (.ref 8), some (.int (Int32.ofInt a)), some (.int (Int32.ofInt b))]) (st' := [.int (Int32.ofInt b), .ref 8]) (σ' := (zN L X (zhi s) R G nc ns)) (fun n => rfl) ?_
    refine zW.callV rfl (by decide) rfl rfl rfl rfl rfl (Nat.le_of_ble_eq_true rfl) ?_
    refine t_Ground_isOn S A (x := b) (by omega) (fun f5 f6 => ?_) (fun f7 => ?_)
    · skip
      show zW ro 79 13 [some (.ref 8), some (.int (Int32.ofInt a)), some (.int (Int32.ofInt b))] [.int (Int32.ofInt 1)] (zN L X (zhi s) R G nc ns) Q
      refine zW.run 2 (pc' := 17) (ls' := [some (.ref 8), some (.int (Int32.ofInt a)), some (.int (Int32.ofInt b))]) (st' := [.ref 8]) (σ' := (zN L X (zhi s) R G nc ns)) (fun n => rfl) ?_
      refine zW.getf (v := .ref 14) rfl rfl (zr_8 S (f := 5) (by decide)) ?_
      refine zW.run 1 (pc' := 21) (ls' := [some (.ref 8), some (.int (Int32.ofInt a)), some (.int (Int32.ofInt b))]) (st' := [.int (Int32.ofInt a), .ref 14]) (σ' := (zN L X (zhi s) R G nc ns)) (fun n => rfl) ?_
      refine zW.jald (n := 144) (v := (s 14 a.toNat)) rfl rfl (by decide) (by omega) rfl ?_
      have f8 := zA_cl A (k := a.toNat) (by omega)
      refine zW.run 1 (pc' := 23) (ls' := [some (.ref 8), some (.int (Int32.ofInt a)), some (.int (Int32.ofInt b))]) (st' := [.ref 8, .int (Int32.ofInt (s 14 a.toNat))]) (σ' := (zN L X (zhi s) R G nc ns)) (fun n => rfl) ?_
      refine zW.getf (v := .ref 14) rfl rfl (zr_8 S (f := 5) (by decide)) ?_
      refine zW.run 1 (pc' := 27) (ls' := [some (.ref 8), some (.int (Int32.ofInt a)), some (.int (Int32.ofInt b))]) (st' := [.int (Int32.ofInt b), .ref 14, .int (Int32.ofInt (s 14 a.toNat))]) (σ' := (zN L X (zhi s) R G nc ns)) (fun n => rfl) ?_
      refine zW.jald (n := 144) (v := (s 14 b.toNat)) rfl rfl (by decide) (by omega) rfl ?_
      have f9 := zA_cl A (k := b.toNat) (by omega)
      refine zW.jsub rfl ?_
      refine zW.callS rfl rfl rfl rfl rfl (Nat.le_of_ble_eq_true rfl) ?_
      refine t_Math_abs S (x := ((s 14 a.toNat) - (s 14 b.toNat))) (by omega) (fun v_10 f11 => ?_)
      show zW ro 79 32 [some (.ref 8), some (.int (Int32.ofInt a)), some (.int (Int32.ofInt b))] [.int (Int32.ofInt v_10)] (zN L X (zhi s) R G nc ns) Q
      refine zW.run 1 (pc' := 33) (ls' := [some (.ref 8), some (.int (Int32.ofInt a)), some (.int (Int32.ofInt b))]) (st' := [.ref 8, .int (Int32.ofInt v_10)]) (σ' := (zN L X (zhi s) R G nc ns)) (fun n => rfl) ?_
      refine zW.getf (v := .ref 15) rfl rfl (zr_8 S (f := 6) (by decide)) ?_
      refine zW.run 1 (pc' := 37) (ls' := [some (.ref 8), some (.int (Int32.ofInt a)), some (.int (Int32.ofInt b))]) (st' := [.int (Int32.ofInt a), .ref 15, .int (Int32.ofInt v_10)]) (σ' := (zN L X (zhi s) R G nc ns)) (fun n => rfl) ?_
      refine zW.jald (n := 144) (v := (s 15 a.toNat)) rfl rfl (by decide) (by omega) rfl ?_
      refine zW.run 1 (pc' := 39) (ls' := [some (.ref 8), some (.int (Int32.ofInt a)), some (.int (Int32.ofInt b))]) (st' := [.ref 8, .int (Int32.ofInt (s 15 a.toNat)), .int (Int32.ofInt v_10)]) (σ' := (zN L X (zhi s) R G nc ns)) (fun n => rfl) ?_
      refine zW.getf (v := .ref 15) rfl rfl (zr_8 S (f := 6) (by decide)) ?_
      refine zW.run 1 (pc' := 43) (ls' := [some (.ref 8), some (.int (Int32.ofInt a)), some (.int (Int32.ofInt b))]) (st' := [.int (Int32.ofInt b), .ref 15, .int (Int32.ofInt (s 15 a.toNat)), .int (Int32.ofInt v_10)]) (σ' := (zN L X (zhi s) R G nc ns)) (fun n => rfl) ?_
      refine zW.jald (n := 144) (v := (s 15 b.toNat)) rfl rfl (by decide) (by omega) rfl ?_
      refine zW.jsub rfl ?_
      refine zW.callS rfl rfl rfl rfl rfl (Nat.le_of_ble_eq_true rfl) ?_
      refine t_Math_abs S (x := ((s 15 a.toNat) - (s 15 b.toNat))) (by omega) (fun v_12 f13 => ?_)
      show zW ro 79 48 [some (.ref 8), some (.int (Int32.ofInt a)), some (.int (Int32.ofInt b))] [.int (Int32.ofInt v_12), .int (Int32.ofInt v_10)] (zN L X (zhi s) R G nc ns) Q
      refine zW.jadd rfl ?_
      refine zW.run 1 (pc' := 50) (ls' := [some (.ref 8), some (.int (Int32.ofInt a)), some (.int (Int32.ofInt b))]) (st' := [.int (Int32.ofInt 1), .int (Int32.ofInt (v_10 + v_12))]) (σ' := (zN L X (zhi s) R G nc ns)) (fun n => rfl) ?_
      refine zW.jcmp_ne rfl (by omega) (fun c14 => ?_) (fun c14 => ?_)
      · skip
        refine zW.run 1 (pc' := 58) (ls' := [some (.ref 8), some (.int (Int32.ofInt a)), some (.int (Int32.ofInt b))]) (st' := [.int (Int32.ofInt 0)]) (σ' := (zN L X (zhi s) R G nc ns)) (fun n => rfl) ?_
        exact zW.jretb rfl rfl (by decide) hQ1
      · skip
        refine zW.run 2 (pc' := 58) (ls' := [some (.ref 8), some (.int (Int32.ofInt a)), some (.int (Int32.ofInt b))]) (st' := [.int (Int32.ofInt 1)]) (σ' := (zN L X (zhi s) R G nc ns)) (fun n => rfl) ?_
        exact zW.jretb rfl rfl (by decide) (hQ0 (by omega) (by omega))
    · skip
      show zW ro 79 13 [some (.ref 8), some (.int (Int32.ofInt a)), some (.int (Int32.ofInt b))] [.int (Int32.ofInt 0)] (zN L X (zhi s) R G nc ns) Q
      refine zW.run 2 (pc' := 58) (ls' := [some (.ref 8), some (.int (Int32.ofInt a)), some (.int (Int32.ofInt b))]) (st' := [.int (Int32.ofInt 0)]) (σ' := (zN L X (zhi s) R G nc ns)) (fun n => rfl) ?_
      exact zW.jretb rfl rfl (by decide) hQ1
  · skip
    show zW ro 79 5 [some (.ref 8), some (.int (Int32.ofInt a)), some (.int (Int32.ofInt b))] [.int (Int32.ofInt 0)] (zN L X (zhi s) R G nc ns) Q
    refine zW.run 2 (pc' := 58) (ls' := [some (.ref 8), some (.int (Int32.ofInt a)), some (.int (Int32.ofInt b))]) (st' := [.int (Int32.ofInt 0)]) (σ' := (zN L X (zhi s) R G nc ns)) (fun n => rfl) ?_
    exact zW.jretb rfl rfl (by decide) hQ1
set_option maxHeartbeats 4000000 in
theorem t_Ground_touchesWork (S : zSR R) (A : zA g s) {x : Int} {kind : Int32} (p0 : -2147483648 ≤ x ∧ x < 2147483648) (hQ0 : Q (.inl (some (.int (Int32.ofInt 1)))) (zN L X (zhi s) R G nc ns)) (hQ1 : Q (.inl (some (.int (Int32.ofInt 0)))) (zN L X (zhi s) R G nc ns)) : zW ro 80 0 (zfst [.ref 8, .int (Int32.ofInt x), .int kind] 5) [] (zN L X (zhi s) R G nc ns) Q := by
  show zW ro 80 0 [some (.ref 8), some (.int (Int32.ofInt x)), some (.int kind), none, none] [] (zN L X (zhi s) R G nc ns) Q
  have f1 := zA_geo A
  refine zW.run 2 (pc' := 2) (ls' := [some (.ref 8), some (.int (Int32.ofInt x)), some (.int kind), some (.int (Int32.ofInt 0)), none]) (st' := []) (σ' := (zN L X (zhi s) R G nc ns)) (fun n => rfl) ?_
  have J5 : ∀ m : Nat, ∀ (i_2 : Nat) (w3 : Option Value), i_2 ≤ 4 → 4 - i_2 < m → zW ro 80 2 [some (.ref 8), some (.int (Int32.ofInt x)), some (.int kind), some (.int (Int32.ofInt (i_2 : Int))), w3] [] (zN L X (zhi s) R G nc ns) Q := by
    intro m
    induction m with
    | zero => intros; omega
    | succ m ih6 =>
      intro i_2 w3 c4 hm7
      refine zW.run 2 (pc' := 4) (ls' := [some (.ref 8), some (.int (Int32.ofInt x)), some (.int kind), some (.int (Int32.ofInt (i_2 : Int))), w3]) (st' := [.int (Int32.ofInt 4), .int (Int32.ofInt (i_2 : Int))]) (σ' := (zN L X (zhi s) R G nc ns)) (fun n => rfl) ?_
      refine zW.jcmp_ge rfl (by omega) (fun c8 => ?_) (fun c8 => ?_)
      · skip
        refine zW.run 1 (pc' := 40) (ls' := [some (.ref 8), some (.int (Int32.ofInt x)), some (.int kind), some (.int (Int32.ofInt (i_2 : Int))), w3]) (st' := [.int (Int32.ofInt 0)]) (σ' := (zN L X (zhi s) R G nc ns)) (fun n => rfl) ?_
        exact zW.jretb rfl rfl (by decide) hQ1
      · skip
        refine zW.run 3 (pc' := 10) (ls' := [some (.ref 8), some (.int (Int32.ofInt x)), some (.int kind), some (.int (Int32.ofInt (i_2 : Int))), w3]) (st' := [.int (Int32.ofInt (i_2 : Int)), .int (Int32.ofInt x), .ref 8]) (σ' := (zN L X (zhi s) R G nc ns)) (fun n => rfl) ?_
        refine zW.callV rfl (by decide) rfl rfl rfl rfl rfl (Nat.le_of_ble_eq_true rfl) ?_
        refine t_Ground_next S A (x := x) (d := (i_2 : Int)) (by omega) (by omega) (fun v_9 f10 => ?_)
        show zW ro 80 13 [some (.ref 8), some (.int (Int32.ofInt x)), some (.int kind), some (.int (Int32.ofInt (i_2 : Int))), w3] [.int (Int32.ofInt v_9)] (zN L X (zhi s) R G nc ns) Q
        refine zW.run 3 (pc' := 18) (ls' := [some (.ref 8), some (.int (Int32.ofInt x)), some (.int kind), some (.int (Int32.ofInt (i_2 : Int))), some (.int (Int32.ofInt v_9))]) (st' := [.int (Int32.ofInt (-1)), .int (Int32.ofInt v_9)]) (σ' := (zN L X (zhi s) R G nc ns)) (fun n => rfl) ?_
        refine zW.jcmp_eq rfl (by omega) (fun c11 => ?_) (fun c11 => ?_)
        · skip
          refine zW.jinc (ls' := [some (.ref 8), some (.int (Int32.ofInt x)), some (.int kind), some (.int (Int32.ofInt ((i_2 : Int) + 1))), some (.int (Int32.ofInt v_9))]) rfl (Nat.le_of_ble_eq_true rfl) rfl rfl ?_
          refine zW.run 1 (pc' := 2) (ls' := [some (.ref 8), some (.int (Int32.ofInt x)), some (.int kind), some (.int (Int32.ofInt ((i_2 : Int) + 1))), some (.int (Int32.ofInt v_9))]) (st' := []) (σ' := (zN L X (zhi s) R G nc ns)) (fun n => rfl) ?_
          exact ih6 (i_2 + 1) (some (.int (Int32.ofInt v_9))) (by omega) (by omega)
        · skip
          refine zW.run 2 (pc' := 24) (ls' := [some (.ref 8), some (.int (Int32.ofInt x)), some (.int kind), some (.int (Int32.ofInt (i_2 : Int))), some (.int (Int32.ofInt v_9))]) (st' := [.int (Int32.ofInt v_9), .ref 8]) (σ' := (zN L X (zhi s) R G nc ns)) (fun n => rfl) ?_
          refine zW.callV rfl (by decide) rfl rfl rfl rfl rfl (Nat.le_of_ble_eq_true rfl) ?_
          refine t_Ground_workOf_w S A (x := v_9) (by omega) (fun v_12 => ?_)
          show zW ro 80 27 [some (.ref 8), some (.int (Int32.ofInt x)), some (.int kind), some (.int (Int32.ofInt (i_2 : Int))), some (.int (Int32.ofInt v_9))] [.int (Int32.ofInt v_12)] (zN L X (zhi s) R G nc ns) Q
          refine zW.run 1 (pc' := 28) (ls' := [some (.ref 8), some (.int (Int32.ofInt x)), some (.int kind), some (.int (Int32.ofInt (i_2 : Int))), some (.int (Int32.ofInt v_9))]) (st' := [.int kind, .int (Int32.ofInt v_12)]) (σ' := (zN L X (zhi s) R G nc ns)) (fun n => rfl) ?_
          refine zW.icmp_ne rfl (fun _ => ?_) (fun _ => ?_)
          · skip
            refine zW.jinc (ls' := [some (.ref 8), some (.int (Int32.ofInt x)), some (.int kind), some (.int (Int32.ofInt ((i_2 : Int) + 1))), some (.int (Int32.ofInt v_9))]) rfl (Nat.le_of_ble_eq_true rfl) rfl rfl ?_
            refine zW.run 1 (pc' := 2) (ls' := [some (.ref 8), some (.int (Int32.ofInt x)), some (.int kind), some (.int (Int32.ofInt ((i_2 : Int) + 1))), some (.int (Int32.ofInt v_9))]) (st' := []) (σ' := (zN L X (zhi s) R G nc ns)) (fun n => rfl) ?_
            exact ih6 (i_2 + 1) (some (.int (Int32.ofInt v_9))) (by omega) (by omega)
          · skip
            refine zW.run 1 (pc' := 32) (ls' := [some (.ref 8), some (.int (Int32.ofInt x)), some (.int kind), some (.int (Int32.ofInt (i_2 : Int))), some (.int (Int32.ofInt v_9))]) (st' := [.int (Int32.ofInt 1)]) (σ' := (zN L X (zhi s) R G nc ns)) (fun n => rfl) ?_
            exact zW.jretb rfl rfl (by decide) hQ0
  exact J5 _ 0 none (by omega) (Nat.lt_succ_self _)
set_option maxHeartbeats 4000000 in
theorem t_Ground_countOf (S : zSR R) (V : zV g U F T B ph s) {x : Int} (p0 : -2147483648 ≤ x ∧ x < 2147483648) (hQ0 : ∀ (v : Int), 0 ≤ v ∧ v ≤ 144 → v = zcn s x (g 2).toNat → Q (.inl (some (.int (Int32.ofInt v)))) (zN L X (zhi s) R G nc ns)) : zW ro 61 0 (zfst [.ref 8, .int (Int32.ofInt x)] 4) [] (zN L X (zhi s) R G nc ns) Q := by
  show zW ro 61 0 [some (.ref 8), some (.int (Int32.ofInt x)), none, none] [] (zN L X (zhi s) R G nc ns) Q
  have f1 := zA_geo (zV_zA V)
  have hB0 := zV_B V
  refine zW.run 4 (pc' := 4) (ls' := [some (.ref 8), some (.int (Int32.ofInt x)), some (.int (Int32.ofInt 0)), some (.int (Int32.ofInt 0))]) (st' := []) (σ' := (zN L X (zhi s) R G nc ns)) (fun n => rfl) ?_
  have J7 : ∀ m : Nat, ∀ (k_2 : Nat) (a_3 : Int), (k_2 : Int) ≤ g 2 → 0 ≤ a_3 ∧ a_3 ≤ k_2 → a_3 = zcn s x k_2 → 145 - k_2 < m → zW ro 61 4 [some (.ref 8), some (.int (Int32.ofInt x)), some (.int (Int32.ofInt a_3)), some (.int (Int32.ofInt (k_2 : Int)))] [] (zN L X (zhi s) R G nc ns) Q := by
    intro m
    induction m with
    | zero => intros; omega
    | succ m ih8 =>
      intro k_2 a_3 c4 c5 c6 hm9
      have hz : zcn s x (k_2 + 1) = zcn s x k_2 + (if s 11 k_2 = x then 1 else 0) := rfl
      refine zW.run 2 (pc' := 6) (ls' := [some (.ref 8), some (.int (Int32.ofInt x)), some (.int (Int32.ofInt a_3)), some (.int (Int32.ofInt (k_2 : Int)))]) (st' := [.ref 8, .int (Int32.ofInt (k_2 : Int))]) (σ' := (zN L X (zhi s) R G nc ns)) (fun n => rfl) ?_
      refine zW.run 1 (pc' := 9) (ls' := [some (.ref 8), some (.int (Int32.ofInt x)), some (.int (Int32.ofInt a_3)), some (.int (Int32.ofInt (k_2 : Int)))]) (st' := [.int (Int32.ofInt (s 8 11)), .int (Int32.ofInt (k_2 : Int))]) (σ' := (zN L X (zhi s) R G nc ns)) (fun n => rfl) ?_
      refine zW.jcmp_ge rfl (by omega) (fun c10 => ?_) (fun c10 => ?_)
      · skip
        refine zW.run 1 (pc' := 39) (ls' := [some (.ref 8), some (.int (Int32.ofInt x)), some (.int (Int32.ofInt a_3)), some (.int (Int32.ofInt (k_2 : Int)))]) (st' := [.int (Int32.ofInt a_3)]) (σ' := (zN L X (zhi s) R G nc ns)) (fun n => rfl) ?_
        exact zW.jret rfl rfl (hQ0 a_3 (by omega) (by rw [show (g 2).toNat = k_2 by omega]; omega))
      · skip
        refine zW.run 2 (pc' := 16) (ls' := [some (.ref 8), some (.int (Int32.ofInt x)), some (.int (Int32.ofInt a_3)), some (.int (Int32.ofInt (k_2 : Int)))]) (st' := [.int (Int32.ofInt 144), .int (Int32.ofInt (k_2 : Int))]) (σ' := (zN L X (zhi s) R G nc ns)) (fun n => rfl) ?_
        refine zW.jcmp_ge rfl (by omega) (fun c11 => ?_) (fun c11 => ?_)
        · skip
          refine zW.run 1 (pc' := 39) (ls' := [some (.ref 8), some (.int (Int32.ofInt x)), some (.int (Int32.ofInt a_3)), some (.int (Int32.ofInt (k_2 : Int)))]) (st' := [.int (Int32.ofInt a_3)]) (σ' := (zN L X (zhi s) R G nc ns)) (fun n => rfl) ?_
          exact zW.jret rfl rfl (hQ0 a_3 (by omega) (by rw [show (g 2).toNat = k_2 by omega]; omega))
        · skip
          refine zW.run 1 (pc' := 20) (ls' := [some (.ref 8), some (.int (Int32.ofInt x)), some (.int (Int32.ofInt a_3)), some (.int (Int32.ofInt (k_2 : Int)))]) (st' := [.ref 8]) (σ' := (zN L X (zhi s) R G nc ns)) (fun n => rfl) ?_
          refine zW.getf (v := .ref 11) rfl rfl (zr_8 S (f := 2) (by decide)) ?_
          refine zW.run 1 (pc' := 24) (ls' := [some (.ref 8), some (.int (Int32.ofInt x)), some (.int (Int32.ofInt a_3)), some (.int (Int32.ofInt (k_2 : Int)))]) (st' := [.int (Int32.ofInt (k_2 : Int)), .ref 11]) (σ' := (zN L X (zhi s) R G nc ns)) (fun n => rfl) ?_
          refine zW.jald (n := 144) (v := (s 11 k_2)) rfl rfl (by decide) (by omega) rfl ?_
          have f12 := zV_sq V (k := k_2) (by omega)
          refine zW.run 1 (pc' := 26) (ls' := [some (.ref 8), some (.int (Int32.ofInt x)), some (.int (Int32.ofInt a_3)), some (.int (Int32.ofInt (k_2 : Int)))]) (st' := [.int (Int32.ofInt x), .int (Int32.ofInt (s 11 k_2))]) (σ' := (zN L X (zhi s) R G nc ns)) (fun n => rfl) ?_
          have J14 : ∀ (v13 : Int), (¬ (s 11 k_2) = x ∧ v13 = a_3) ∨ ((s 11 k_2) = x ∧ v13 = (a_3 + 1)) → zW ro 61 32 [some (.ref 8), some (.int (Int32.ofInt x)), some (.int (Int32.ofInt v13)), some (.int (Int32.ofInt (k_2 : Int)))] [] (zN L X (zhi s) R G nc ns) Q := by
            intro v13 c15
            refine zW.jinc (ls' := [some (.ref 8), some (.int (Int32.ofInt x)), some (.int (Int32.ofInt v13)), some (.int (Int32.ofInt ((k_2 : Int) + 1)))]) rfl (Nat.le_of_ble_eq_true rfl) rfl rfl ?_
            refine zW.run 1 (pc' := 4) (ls' := [some (.ref 8), some (.int (Int32.ofInt x)), some (.int (Int32.ofInt v13)), some (.int (Int32.ofInt ((k_2 : Int) + 1)))]) (st' := []) (σ' := (zN L X (zhi s) R G nc ns)) (fun n => rfl) ?_
            exact ih8 (k_2 + 1) v13 (by omega) (by omega) (by omega) (by omega)
          refine zW.jcmp_ne rfl (by omega) (fun c16 => ?_) (fun c16 => ?_)
          · skip
            exact J14 a_3 (by omega)
          · skip
            refine zW.jinc (ls' := [some (.ref 8), some (.int (Int32.ofInt x)), some (.int (Int32.ofInt (a_3 + 1))), some (.int (Int32.ofInt (k_2 : Int)))]) rfl (Nat.le_of_ble_eq_true rfl) rfl rfl ?_
            exact J14 (a_3 + 1) (by omega)
  exact J7 _ 0 0 (by omega) (by omega) (rfl) (Nat.lt_succ_self _)
set_option maxHeartbeats 4000000 in
theorem t_Ground_countOf_w (S : zSR R) (A : zA g s) {x : Int32}  (hQ0 : ∀ (v : Int), Q (.inl (some (.int (Int32.ofInt v)))) (zN L X (zhi s) R G nc ns)) : zW ro 61 0 (zfst [.ref 8, .int x] 4) [] (zN L X (zhi s) R G nc ns) Q := by
  show zW ro 61 0 [some (.ref 8), some (.int x), none, none] [] (zN L X (zhi s) R G nc ns) Q
  have f1 := zA_geo A
  refine zW.run 4 (pc' := 4) (ls' := [some (.ref 8), some (.int x), some (.int (Int32.ofInt 0)), some (.int (Int32.ofInt 0))]) (st' := []) (σ' := (zN L X (zhi s) R G nc ns)) (fun n => rfl) ?_
  have J5 : ∀ m : Nat, ∀ (k_2 : Nat) (a_3 : Int), k_2 ≤ 144 → 145 - k_2 < m → zW ro 61 4 [some (.ref 8), some (.int x), some (.int (Int32.ofInt a_3)), some (.int (Int32.ofInt (k_2 : Int)))] [] (zN L X (zhi s) R G nc ns) Q := by
    intro m
    induction m with
    | zero => intros; omega
    | succ m ih6 =>
      intro k_2 a_3 c4 hm7
      refine zW.run 2 (pc' := 6) (ls' := [some (.ref 8), some (.int x), some (.int (Int32.ofInt a_3)), some (.int (Int32.ofInt (k_2 : Int)))]) (st' := [.ref 8, .int (Int32.ofInt (k_2 : Int))]) (σ' := (zN L X (zhi s) R G nc ns)) (fun n => rfl) ?_
      refine zW.run 1 (pc' := 9) (ls' := [some (.ref 8), some (.int x), some (.int (Int32.ofInt a_3)), some (.int (Int32.ofInt (k_2 : Int)))]) (st' := [.int (Int32.ofInt (s 8 11)), .int (Int32.ofInt (k_2 : Int))]) (σ' := (zN L X (zhi s) R G nc ns)) (fun n => rfl) ?_
      refine zW.jcmp_ge rfl (by omega) (fun c8 => ?_) (fun c8 => ?_)
      · skip
        refine zW.run 1 (pc' := 39) (ls' := [some (.ref 8), some (.int x), some (.int (Int32.ofInt a_3)), some (.int (Int32.ofInt (k_2 : Int)))]) (st' := [.int (Int32.ofInt a_3)]) (σ' := (zN L X (zhi s) R G nc ns)) (fun n => rfl) ?_
        exact zW.jret rfl rfl (hQ0 a_3)
      · skip
        refine zW.run 2 (pc' := 16) (ls' := [some (.ref 8), some (.int x), some (.int (Int32.ofInt a_3)), some (.int (Int32.ofInt (k_2 : Int)))]) (st' := [.int (Int32.ofInt 144), .int (Int32.ofInt (k_2 : Int))]) (σ' := (zN L X (zhi s) R G nc ns)) (fun n => rfl) ?_
        refine zW.jcmp_ge rfl (by omega) (fun c9 => ?_) (fun c9 => ?_)
        · skip
          refine zW.run 1 (pc' := 39) (ls' := [some (.ref 8), some (.int x), some (.int (Int32.ofInt a_3)), some (.int (Int32.ofInt (k_2 : Int)))]) (st' := [.int (Int32.ofInt a_3)]) (σ' := (zN L X (zhi s) R G nc ns)) (fun n => rfl) ?_
          exact zW.jret rfl rfl (hQ0 a_3)
        · skip
          refine zW.run 1 (pc' := 20) (ls' := [some (.ref 8), some (.int x), some (.int (Int32.ofInt a_3)), some (.int (Int32.ofInt (k_2 : Int)))]) (st' := [.ref 8]) (σ' := (zN L X (zhi s) R G nc ns)) (fun n => rfl) ?_
          refine zW.getf (v := .ref 11) rfl rfl (zr_8 S (f := 2) (by decide)) ?_
          refine zW.run 1 (pc' := 24) (ls' := [some (.ref 8), some (.int x), some (.int (Int32.ofInt a_3)), some (.int (Int32.ofInt (k_2 : Int)))]) (st' := [.int (Int32.ofInt (k_2 : Int)), .ref 11]) (σ' := (zN L X (zhi s) R G nc ns)) (fun n => rfl) ?_
          refine zW.jald (n := 144) (v := (s 11 k_2)) rfl rfl (by decide) (by omega) rfl ?_
          refine zW.run 1 (pc' := 26) (ls' := [some (.ref 8), some (.int x), some (.int (Int32.ofInt a_3)), some (.int (Int32.ofInt (k_2 : Int)))]) (st' := [.int x, .int (Int32.ofInt (s 11 k_2))]) (σ' := (zN L X (zhi s) R G nc ns)) (fun n => rfl) ?_
          have J11 : ∀ (v10 : Int), (v10 = a_3) ∨ (v10 = (a_3 + 1)) → zW ro 61 32 [some (.ref 8), some (.int x), some (.int (Int32.ofInt v10)), some (.int (Int32.ofInt (k_2 : Int)))] [] (zN L X (zhi s) R G nc ns) Q := by
            intro v10 c12
            refine zW.jinc (ls' := [some (.ref 8), some (.int x), some (.int (Int32.ofInt v10)), some (.int (Int32.ofInt ((k_2 : Int) + 1)))]) rfl (Nat.le_of_ble_eq_true rfl) rfl rfl ?_
            refine zW.run 1 (pc' := 4) (ls' := [some (.ref 8), some (.int x), some (.int (Int32.ofInt v10)), some (.int (Int32.ofInt ((k_2 : Int) + 1)))]) (st' := []) (σ' := (zN L X (zhi s) R G nc ns)) (fun n => rfl) ?_
            exact ih6 (k_2 + 1) v10 (by omega) (by omega)
          refine zW.icmp_ne rfl (fun _ => ?_) (fun _ => ?_)
          · skip
            exact J11 a_3 (by omega)
          · skip
            refine zW.jinc (ls' := [some (.ref 8), some (.int x), some (.int (Int32.ofInt (a_3 + 1))), some (.int (Int32.ofInt (k_2 : Int)))]) rfl (Nat.le_of_ble_eq_true rfl) rfl rfl ?_
            exact J11 (a_3 + 1) (by omega)
  exact J5 _ 0 0 (by omega) (Nat.lt_succ_self _)
set_option maxHeartbeats 4000000 in
theorem t_Ground_isNear (S : zSR R) (V : zV g U F T B ph s) {x : Int} {y : Int} {d : Int} (p0 : -2147483648 ≤ x ∧ x < 2147483648) (p1 : -2147483648 ≤ y ∧ y < 2147483648) (p2 : -2147483648 ≤ d ∧ d < 2147483648) (hQ0 : Q (.inl (some (.int (Int32.ofInt 1)))) (zN L X (zhi s) R G nc ns)) (hQ1 : Q (.inl (some (.int (Int32.ofInt 0)))) (zN L X (zhi s) R G nc ns)) : zW ro 66 0 (zfst [.ref 8, .int (Int32.ofInt x), .int (Int32.ofInt y), .int (Int32.ofInt d)] 5) [] (zN L X (zhi s) R G nc ns) Q := by
  show zW ro 66 0 [some (.ref 8), some (.int (Int32.ofInt x)), some (.int (Int32.ofInt y)), some (.int (Int32.ofInt d)), none] [] (zN L X (zhi s) R G nc ns) Q
  have f1 := zA_geo (zV_zA V)
  have hB0 := zV_B V
  refine zW.run 2 (pc' := 3) (ls' := [some (.ref 8), some (.int (Int32.ofInt x)), some (.int (Int32.ofInt y)), some (.int (Int32.ofInt d)), some (.int (Int32.ofInt 0))]) (st' := []) (σ' := (zN L X (zhi s) R G nc ns)) (fun n => rfl) ?_
  have J4 : ∀ m : Nat, ∀ (k_2 : Nat), k_2 ≤ 144 → 145 - k_2 < m → zW ro 66 3 [some (.ref 8), some (.int (Int32.ofInt x)), some (.int (Int32.ofInt y)), some (.int (Int32.ofInt d)), some (.int (Int32.ofInt (k_2 : Int)))] [] (zN L X (zhi s) R G nc ns) Q := by
    intro m
    induction m with
    | zero => intros; omega
    | succ m ih5 =>
      intro k_2 c3 hm6
      refine zW.run 2 (pc' := 6) (ls' := [some (.ref 8), some (.int (Int32.ofInt x)), some (.int (Int32.ofInt y)), some (.int (Int32.ofInt d)), some (.int (Int32.ofInt (k_2 : Int)))]) (st' := [.ref 8, .int (Int32.ofInt (k_2 : Int))]) (σ' := (zN L X (zhi s) R G nc ns)) (fun n => rfl) ?_
      refine zW.run 1 (pc' := 9) (ls' := [some (.ref 8), some (.int (Int32.ofInt x)), some (.int (Int32.ofInt y)), some (.int (Int32.ofInt d)), some (.int (Int32.ofInt (k_2 : Int)))]) (st' := [.int (Int32.ofInt (s 8 11)), .int (Int32.ofInt (k_2 : Int))]) (σ' := (zN L X (zhi s) R G nc ns)) (fun n => rfl) ?_
      refine zW.jcmp_ge rfl (by omega) (fun c7 => ?_) (fun c7 => ?_)
      · skip
        refine zW.run 1 (pc' := 51) (ls' := [some (.ref 8), some (.int (Int32.ofInt x)), some (.int (Int32.ofInt y)), some (.int (Int32.ofInt d)), some (.int (Int32.ofInt (k_2 : Int)))]) (st' := [.int (Int32.ofInt 0)]) (σ' := (zN L X (zhi s) R G nc ns)) (fun n => rfl) ?_
        exact zW.jretb rfl rfl (by decide) hQ1
      · skip
        refine zW.run 2 (pc' := 17) (ls' := [some (.ref 8), some (.int (Int32.ofInt x)), some (.int (Int32.ofInt y)), some (.int (Int32.ofInt d)), some (.int (Int32.ofInt (k_2 : Int)))]) (st' := [.int (Int32.ofInt 144), .int (Int32.ofInt (k_2 : Int))]) (σ' := (zN L X (zhi s) R G nc ns)) (fun n => rfl) ?_
        refine zW.jcmp_ge rfl (by omega) (fun c8 => ?_) (fun c8 => ?_)
        · skip
          refine zW.run 1 (pc' := 51) (ls' := [some (.ref 8), some (.int (Int32.ofInt x)), some (.int (Int32.ofInt y)), some (.int (Int32.ofInt d)), some (.int (Int32.ofInt (k_2 : Int)))]) (st' := [.int (Int32.ofInt 0)]) (σ' := (zN L X (zhi s) R G nc ns)) (fun n => rfl) ?_
          exact zW.jretb rfl rfl (by decide) hQ1
        · skip
          refine zW.run 1 (pc' := 21) (ls' := [some (.ref 8), some (.int (Int32.ofInt x)), some (.int (Int32.ofInt y)), some (.int (Int32.ofInt d)), some (.int (Int32.ofInt (k_2 : Int)))]) (st' := [.ref 8]) (σ' := (zN L X (zhi s) R G nc ns)) (fun n => rfl) ?_
          refine zW.getf (v := .ref 11) rfl rfl (zr_8 S (f := 2) (by decide)) ?_
          refine zW.run 1 (pc' := 26) (ls' := [some (.ref 8), some (.int (Int32.ofInt x)), some (.int (Int32.ofInt y)), some (.int (Int32.ofInt d)), some (.int (Int32.ofInt (k_2 : Int)))]) (st' := [.int (Int32.ofInt (k_2 : Int)), .ref 11]) (σ' := (zN L X (zhi s) R G nc ns)) (fun n => rfl) ?_
          refine zW.jald (n := 144) (v := (s 11 k_2)) rfl rfl (by decide) (by omega) rfl ?_
          have f9 := zV_sq V (k := k_2) (by omega)
          refine zW.run 1 (pc' := 28) (ls' := [some (.ref 8), some (.int (Int32.ofInt x)), some (.int (Int32.ofInt y)), some (.int (Int32.ofInt d)), some (.int (Int32.ofInt (k_2 : Int)))]) (st' := [.int (Int32.ofInt y), .int (Int32.ofInt (s 11 k_2))]) (σ' := (zN L X (zhi s) R G nc ns)) (fun n => rfl) ?_
          refine zW.jcmp_ne rfl (by omega) (fun c10 => ?_) (fun c10 => ?_)
          · skip
            refine zW.jinc (ls' := [some (.ref 8), some (.int (Int32.ofInt x)), some (.int (Int32.ofInt y)), some (.int (Int32.ofInt d)), some (.int (Int32.ofInt ((k_2 : Int) + 1)))]) rfl (Nat.le_of_ble_eq_true rfl) rfl rfl ?_
            refine zW.run 1 (pc' := 3) (ls' := [some (.ref 8), some (.int (Int32.ofInt x)), some (.int (Int32.ofInt y)), some (.int (Int32.ofInt d)), some (.int (Int32.ofInt ((k_2 : Int) + 1)))]) (st' := []) (σ' := (zN L X (zhi s) R G nc ns)) (fun n => rfl) ?_
            exact ih5 (k_2 + 1) (by omega) (by omega)
          · skip
            refine zW.run 3 (pc' := 35) (ls' := [some (.ref 8), some (.int (Int32.ofInt x)), some (.int (Int32.ofInt y)), some (.int (Int32.ofInt d)), some (.int (Int32.ofInt (k_2 : Int)))]) (st' := [.int (Int32.ofInt (k_2 : Int)), .int (Int32.ofInt x), .ref 8]) (σ' := (zN L X (zhi s) R G nc ns)) (fun n => rfl) ?_
            refine zW.callV rfl (by decide) rfl rfl rfl rfl rfl (Nat.le_of_ble_eq_true rfl) ?_
            refine t_Ground_far S (zV_zA V) (a := x) (b := (k_2 : Int)) (by omega) (by omega) (fun v_11 f12 => ?_)
            show zW ro 66 38 [some (.ref 8), some (.int (Int32.ofInt x)), some (.int (Int32.ofInt y)), some (.int (Int32.ofInt d)), some (.int (Int32.ofInt (k_2 : Int)))] [.int (Int32.ofInt v_11)] (zN L X (zhi s) R G nc ns) Q
            refine zW.run 1 (pc' := 39) (ls' := [some (.ref 8), some (.int (Int32.ofInt x)), some (.int (Int32.ofInt y)), some (.int (Int32.ofInt d)), some (.int (Int32.ofInt (k_2 : Int)))]) (st' := [.int (Int32.ofInt d), .int (Int32.ofInt v_11)]) (σ' := (zN L X (zhi s) R G nc ns)) (fun n => rfl) ?_
            refine zW.jcmp_gt rfl (by omega) (fun c13 => ?_) (fun c13 => ?_)
            · skip
              refine zW.jinc (ls' := [some (.ref 8), some (.int (Int32.ofInt x)), some (.int (Int32.ofInt y)), some (.int (Int32.ofInt d)), some (.int (Int32.ofInt ((k_2 : Int) + 1)))]) rfl (Nat.le_of_ble_eq_true rfl) rfl rfl ?_
              refine zW.run 1 (pc' := 3) (ls' := [some (.ref 8), some (.int (Int32.ofInt x)), some (.int (Int32.ofInt y)), some (.int (Int32.ofInt d)), some (.int (Int32.ofInt ((k_2 : Int) + 1)))]) (st' := []) (σ' := (zN L X (zhi s) R G nc ns)) (fun n => rfl) ?_
              exact ih5 (k_2 + 1) (by omega) (by omega)
            · skip
              refine zW.run 1 (pc' := 43) (ls' := [some (.ref 8), some (.int (Int32.ofInt x)), some (.int (Int32.ofInt y)), some (.int (Int32.ofInt d)), some (.int (Int32.ofInt (k_2 : Int)))]) (st' := [.int (Int32.ofInt 1)]) (σ' := (zN L X (zhi s) R G nc ns)) (fun n => rfl) ?_
              exact zW.jretb rfl rfl (by decide) hQ0
  exact J4 _ 0 (by omega) (Nat.lt_succ_self _)
set_option maxHeartbeats 4000000 in
theorem t_Ground_isSeen (S : zSR R) (V : zV g U F T B ph s) {a : Int} {b : Int} {d : Int} (p0 : -2147483648 ≤ a ∧ a < 2147483648) (p1 : -2147483648 ≤ b ∧ b < 2147483648) (p2 : 0 ≤ d ∧ d ≤ 100) (hQ0 : Q (.inl (some (.int (Int32.ofInt 1)))) (zN L X (zhi s) R G nc ns)) (hQ1 : ¬ (a = b ∧ 0 ≤ a ∧ a < g 2) → Q (.inl (some (.int (Int32.ofInt 0)))) (zN L X (zhi s) R G nc ns)) : zW ro 69 0 (zfst [.ref 8, .int (Int32.ofInt a), .int (Int32.ofInt b), .int (Int32.ofInt d)] 11) [] (zN L X (zhi s) R G nc ns) Q := by
  show zW ro 69 0 [some (.ref 8), some (.int (Int32.ofInt a)), some (.int (Int32.ofInt b)), some (.int (Int32.ofInt d)), none, none, none, none, none, none, none] [] (zN L X (zhi s) R G nc ns) Q
  have f1 := zA_geo (zV_zA V)
  have hB0 := zV_B V
  refine zW.run 2 (pc' := 2) (ls' := [some (.ref 8), some (.int (Int32.ofInt a)), some (.int (Int32.ofInt b)), some (.int (Int32.ofInt d)), none, none, none, none, none, none, none]) (st' := [.int (Int32.ofInt a), .ref 8]) (σ' := (zN L X (zhi s) R G nc ns)) (fun n => rfl) ?_
  refine zW.callV rfl (by decide) rfl rfl rfl rfl rfl (Nat.le_of_ble_eq_true rfl) ?_
  refine t_Ground_isOn S (zV_zA V) (x := a) (by omega) (fun f2 f3 => ?_) (fun f4 => ?_)
  · skip
    show zW ro 69 5 [some (.ref 8), some (.int (Int32.ofInt a)), some (.int (Int32.ofInt b)), some (.int (Int32.ofInt d)), none, none, none, none, none, none, none] [.int (Int32.ofInt 1)] (zN L X (zhi s) R G nc ns) Q
    refine zW.run 3 (pc' := 10) (ls' := [some (.ref 8), some (.int (Int32.ofInt a)), some (.int (Int32.ofInt b)), some (.int (Int32.ofInt d)), none, none, none, none, none, none, none]) (st' := [.int (Int32.ofInt b), .ref 8]) (σ' := (zN L X (zhi s) R G nc ns)) (fun n => rfl) ?_
    refine zW.callV rfl (by decide) rfl rfl rfl rfl rfl (Nat.le_of_ble_eq_true rfl) ?_
    refine t_Ground_isOn S (zV_zA V) (x := b) (by omega) (fun f5 f6 => ?_) (fun f7 => ?_)
    · skip
      show zW ro 69 13 [some (.ref 8), some (.int (Int32.ofInt a)), some (.int (Int32.ofInt b)), some (.int (Int32.ofInt d)), none, none, none, none, none, none, none] [.int (Int32.ofInt 1)] (zN L X (zhi s) R G nc ns) Q
      refine zW.run 2 (pc' := 19) (ls' := [some (.ref 8), some (.int (Int32.ofInt a)), some (.int (Int32.ofInt b)), some (.int (Int32.ofInt d)), none, none, none, none, none, none, none]) (st' := [.ref 8]) (σ' := (zN L X (zhi s) R G nc ns)) (fun n => rfl) ?_
      refine zW.getf (v := .ref 14) rfl rfl (zr_8 S (f := 5) (by decide)) ?_
      refine zW.run 1 (pc' := 23) (ls' := [some (.ref 8), some (.int (Int32.ofInt a)), some (.int (Int32.ofInt b)), some (.int (Int32.ofInt d)), none, none, none, none, none, none, none]) (st' := [.int (Int32.ofInt b), .ref 14]) (σ' := (zN L X (zhi s) R G nc ns)) (fun n => rfl) ?_
      refine zW.jald (n := 144) (v := (s 14 b.toNat)) rfl rfl (by decide) (by omega) rfl ?_
      have f8 := zA_cl (zV_zA V) (k := b.toNat) (by omega)
      refine zW.run 1 (pc' := 25) (ls' := [some (.ref 8), some (.int (Int32.ofInt a)), some (.int (Int32.ofInt b)), some (.int (Int32.ofInt d)), none, none, none, none, none, none, none]) (st' := [.ref 8, .int (Int32.ofInt (s 14 b.toNat))]) (σ' := (zN L X (zhi s) R G nc ns)) (fun n => rfl) ?_
      refine zW.getf (v := .ref 14) rfl rfl (zr_8 S (f := 5) (by decide)) ?_
      refine zW.run 1 (pc' := 29) (ls' := [some (.ref 8), some (.int (Int32.ofInt a)), some (.int (Int32.ofInt b)), some (.int (Int32.ofInt d)), none, none, none, none, none, none, none]) (st' := [.int (Int32.ofInt a), .ref 14, .int (Int32.ofInt (s 14 b.toNat))]) (σ' := (zN L X (zhi s) R G nc ns)) (fun n => rfl) ?_
      refine zW.jald (n := 144) (v := (s 14 a.toNat)) rfl rfl (by decide) (by omega) rfl ?_
      have f9 := zA_cl (zV_zA V) (k := a.toNat) (by omega)
      refine zW.jsub rfl ?_
      refine zW.run 2 (pc' := 34) (ls' := [some (.ref 8), some (.int (Int32.ofInt a)), some (.int (Int32.ofInt b)), some (.int (Int32.ofInt d)), some (.int (Int32.ofInt ((s 14 b.toNat) - (s 14 a.toNat)))), none, none, none, none, none, none]) (st' := [.ref 8]) (σ' := (zN L X (zhi s) R G nc ns)) (fun n => rfl) ?_
      refine zW.getf (v := .ref 15) rfl rfl (zr_8 S (f := 6) (by decide)) ?_
      refine zW.run 1 (pc' := 38) (ls' := [some (.ref 8), some (.int (Int32.ofInt a)), some (.int (Int32.ofInt b)), some (.int (Int32.ofInt d)), some (.int (Int32.ofInt ((s 14 b.toNat) - (s 14 a.toNat)))), none, none, none, none, none, none]) (st' := [.int (Int32.ofInt b), .ref 15]) (σ' := (zN L X (zhi s) R G nc ns)) (fun n => rfl) ?_
      refine zW.jald (n := 144) (v := (s 15 b.toNat)) rfl rfl (by decide) (by omega) rfl ?_
      refine zW.run 1 (pc' := 40) (ls' := [some (.ref 8), some (.int (Int32.ofInt a)), some (.int (Int32.ofInt b)), some (.int (Int32.ofInt d)), some (.int (Int32.ofInt ((s 14 b.toNat) - (s 14 a.toNat)))), none, none, none, none, none, none]) (st' := [.ref 8, .int (Int32.ofInt (s 15 b.toNat))]) (σ' := (zN L X (zhi s) R G nc ns)) (fun n => rfl) ?_
      refine zW.getf (v := .ref 15) rfl rfl (zr_8 S (f := 6) (by decide)) ?_
      refine zW.run 1 (pc' := 44) (ls' := [some (.ref 8), some (.int (Int32.ofInt a)), some (.int (Int32.ofInt b)), some (.int (Int32.ofInt d)), some (.int (Int32.ofInt ((s 14 b.toNat) - (s 14 a.toNat)))), none, none, none, none, none, none]) (st' := [.int (Int32.ofInt a), .ref 15, .int (Int32.ofInt (s 15 b.toNat))]) (σ' := (zN L X (zhi s) R G nc ns)) (fun n => rfl) ?_
      refine zW.jald (n := 144) (v := (s 15 a.toNat)) rfl rfl (by decide) (by omega) rfl ?_
      refine zW.jsub rfl ?_
      refine zW.run 2 (pc' := 50) (ls' := [some (.ref 8), some (.int (Int32.ofInt a)), some (.int (Int32.ofInt b)), some (.int (Int32.ofInt d)), some (.int (Int32.ofInt ((s 14 b.toNat) - (s 14 a.toNat)))), some (.int (Int32.ofInt ((s 15 b.toNat) - (s 15 a.toNat)))), none, none, none, none, none]) (st' := [.int (Int32.ofInt ((s 14 b.toNat) - (s 14 a.toNat)))]) (σ' := (zN L X (zhi s) R G nc ns)) (fun n => rfl) ?_
      refine zW.callS rfl rfl rfl rfl rfl (Nat.le_of_ble_eq_true rfl) ?_
      refine t_Math_abs S (x := ((s 14 b.toNat) - (s 14 a.toNat))) (by omega) (fun v_10 f11 => ?_)
      show zW ro 69 53 [some (.ref 8), some (.int (Int32.ofInt a)), some (.int (Int32.ofInt b)), some (.int (Int32.ofInt d)), some (.int (Int32.ofInt ((s 14 b.toNat) - (s 14 a.toNat)))), some (.int (Int32.ofInt ((s 15 b.toNat) - (s 15 a.toNat)))), none, none, none, none, none] [.int (Int32.ofInt v_10)] (zN L X (zhi s) R G nc ns) Q
      refine zW.run 1 (pc' := 55) (ls' := [some (.ref 8), some (.int (Int32.ofInt a)), some (.int (Int32.ofInt b)), some (.int (Int32.ofInt d)), some (.int (Int32.ofInt ((s 14 b.toNat) - (s 14 a.toNat)))), some (.int (Int32.ofInt ((s 15 b.toNat) - (s 15 a.toNat)))), none, none, none, none, none]) (st' := [.int (Int32.ofInt ((s 15 b.toNat) - (s 15 a.toNat))), .int (Int32.ofInt v_10)]) (σ' := (zN L X (zhi s) R G nc ns)) (fun n => rfl) ?_
      refine zW.callS rfl rfl rfl rfl rfl (Nat.le_of_ble_eq_true rfl) ?_
      refine t_Math_abs S (x := ((s 15 b.toNat) - (s 15 a.toNat))) (by omega) (fun v_12 f13 => ?_)
      show zW ro 69 58 [some (.ref 8), some (.int (Int32.ofInt a)), some (.int (Int32.ofInt b)), some (.int (Int32.ofInt d)), some (.int (Int32.ofInt ((s 14 b.toNat) - (s 14 a.toNat)))), some (.int (Int32.ofInt ((s 15 b.toNat) - (s 15 a.toNat)))), none, none, none, none, none] [.int (Int32.ofInt v_12), .int (Int32.ofInt v_10)] (zN L X (zhi s) R G nc ns) Q
      refine zW.callS rfl rfl rfl rfl rfl (Nat.le_of_ble_eq_true rfl) ?_
      refine t_Math_max S (x := v_10) (y := v_12) (by omega) (by omega) (fun v_14 f15 => ?_)
      show zW ro 69 61 [some (.ref 8), some (.int (Int32.ofInt a)), some (.int (Int32.ofInt b)), some (.int (Int32.ofInt d)), some (.int (Int32.ofInt ((s 14 b.toNat) - (s 14 a.toNat)))), some (.int (Int32.ofInt ((s 15 b.toNat) - (s 15 a.toNat)))), none, none, none, none, none] [.int (Int32.ofInt v_14)] (zN L X (zhi s) R G nc ns) Q
      refine zW.run 3 (pc' := 66) (ls' := [some (.ref 8), some (.int (Int32.ofInt a)), some (.int (Int32.ofInt b)), some (.int (Int32.ofInt d)), some (.int (Int32.ofInt ((s 14 b.toNat) - (s 14 a.toNat)))), some (.int (Int32.ofInt ((s 15 b.toNat) - (s 15 a.toNat)))), some (.int (Int32.ofInt v_14)), none, none, none, none]) (st' := [.int (Int32.ofInt d), .int (Int32.ofInt v_14)]) (σ' := (zN L X (zhi s) R G nc ns)) (fun n => rfl) ?_
      refine zW.jcmp_le rfl (by omega) (fun c16 => ?_) (fun c16 => ?_)
      · skip
        refine zW.run 2 (pc' := 73) (ls' := [some (.ref 8), some (.int (Int32.ofInt a)), some (.int (Int32.ofInt b)), some (.int (Int32.ofInt d)), some (.int (Int32.ofInt ((s 14 b.toNat) - (s 14 a.toNat)))), some (.int (Int32.ofInt ((s 15 b.toNat) - (s 15 a.toNat)))), some (.int (Int32.ofInt v_14)), none, none, none, none]) (st' := [.int (Int32.ofInt a), .ref 8]) (σ' := (zN L X (zhi s) R G nc ns)) (fun n => rfl) ?_
        refine zW.callV rfl (by decide) rfl rfl rfl rfl rfl (Nat.le_of_ble_eq_true rfl) ?_
        refine t_Ground_topOf S V (x := a) (by omega) (fun v_17 f18 => ?_)
        show zW ro 69 76 [some (.ref 8), some (.int (Int32.ofInt a)), some (.int (Int32.ofInt b)), some (.int (Int32.ofInt d)), some (.int (Int32.ofInt ((s 14 b.toNat) - (s 14 a.toNat)))), some (.int (Int32.ofInt ((s 15 b.toNat) - (s 15 a.toNat)))), some (.int (Int32.ofInt v_14)), none, none, none, none] [.int (Int32.ofInt v_17)] (zN L X (zhi s) R G nc ns) Q
        refine zW.run 1 (pc' := 77) (ls' := [some (.ref 8), some (.int (Int32.ofInt a)), some (.int (Int32.ofInt b)), some (.int (Int32.ofInt d)), some (.int (Int32.ofInt ((s 14 b.toNat) - (s 14 a.toNat)))), some (.int (Int32.ofInt ((s 15 b.toNat) - (s 15 a.toNat)))), some (.int (Int32.ofInt v_14)), none, none, none, none]) (st' := [.int (Int32.ofInt 2), .int (Int32.ofInt v_17)]) (σ' := (zN L X (zhi s) R G nc ns)) (fun n => rfl) ?_
        refine zW.jadd rfl ?_
        refine zW.run 3 (pc' := 82) (ls' := [some (.ref 8), some (.int (Int32.ofInt a)), some (.int (Int32.ofInt b)), some (.int (Int32.ofInt d)), some (.int (Int32.ofInt ((s 14 b.toNat) - (s 14 a.toNat)))), some (.int (Int32.ofInt ((s 15 b.toNat) - (s 15 a.toNat)))), some (.int (Int32.ofInt v_14)), some (.int (Int32.ofInt (v_17 + 2))), none, none, none]) (st' := [.int (Int32.ofInt b), .ref 8]) (σ' := (zN L X (zhi s) R G nc ns)) (fun n => rfl) ?_
        refine zW.callV rfl (by decide) rfl rfl rfl rfl rfl (Nat.le_of_ble_eq_true rfl) ?_
        refine t_Ground_topOf S V (x := b) (by omega) (fun v_19 f20 => ?_)
        show zW ro 69 85 [some (.ref 8), some (.int (Int32.ofInt a)), some (.int (Int32.ofInt b)), some (.int (Int32.ofInt d)), some (.int (Int32.ofInt ((s 14 b.toNat) - (s 14 a.toNat)))), some (.int (Int32.ofInt ((s 15 b.toNat) - (s 15 a.toNat)))), some (.int (Int32.ofInt v_14)), some (.int (Int32.ofInt (v_17 + 2))), none, none, none] [.int (Int32.ofInt v_19)] (zN L X (zhi s) R G nc ns) Q
        refine zW.run 2 (pc' := 87) (ls' := [some (.ref 8), some (.int (Int32.ofInt a)), some (.int (Int32.ofInt b)), some (.int (Int32.ofInt d)), some (.int (Int32.ofInt ((s 14 b.toNat) - (s 14 a.toNat)))), some (.int (Int32.ofInt ((s 15 b.toNat) - (s 15 a.toNat)))), some (.int (Int32.ofInt v_14)), some (.int (Int32.ofInt (v_17 + 2))), none, none, none]) (st' := [.int (Int32.ofInt b), .ref 8, .int (Int32.ofInt v_19)]) (σ' := (zN L X (zhi s) R G nc ns)) (fun n => rfl) ?_
        refine zW.callV rfl (by decide) rfl rfl rfl rfl rfl (Nat.le_of_ble_eq_true rfl) ?_
        refine t_Ground_bodyOverTop S V (x := b) (by omega) (fun v_21 f22 => ?_)
        show zW ro 69 90 [some (.ref 8), some (.int (Int32.ofInt a)), some (.int (Int32.ofInt b)), some (.int (Int32.ofInt d)), some (.int (Int32.ofInt ((s 14 b.toNat) - (s 14 a.toNat)))), some (.int (Int32.ofInt ((s 15 b.toNat) - (s 15 a.toNat)))), some (.int (Int32.ofInt v_14)), some (.int (Int32.ofInt (v_17 + 2))), none, none, none] [.int (Int32.ofInt v_21), .int (Int32.ofInt v_19)] (zN L X (zhi s) R G nc ns) Q
        refine zW.jadd rfl ?_
        refine zW.run 3 (pc' := 96) (ls' := [some (.ref 8), some (.int (Int32.ofInt a)), some (.int (Int32.ofInt b)), some (.int (Int32.ofInt d)), some (.int (Int32.ofInt ((s 14 b.toNat) - (s 14 a.toNat)))), some (.int (Int32.ofInt ((s 15 b.toNat) - (s 15 a.toNat)))), some (.int (Int32.ofInt v_14)), some (.int (Int32.ofInt (v_17 + 2))), some (.int (Int32.ofInt (v_19 + v_21))), some (.int (Int32.ofInt 1)), none]) (st' := []) (σ' := (zN L X (zhi s) R G nc ns)) (fun n => rfl) ?_
        have J27 : ∀ m : Nat, ∀ (k_23 : Nat) (w24 : Option Value), 1 ≤ k_23 → k_23 ≤ 200 → 201 - k_23 < m → zW ro 69 96 [some (.ref 8), some (.int (Int32.ofInt a)), some (.int (Int32.ofInt b)), some (.int (Int32.ofInt d)), some (.int (Int32.ofInt ((s 14 b.toNat) - (s 14 a.toNat)))), some (.int (Int32.ofInt ((s 15 b.toNat) - (s 15 a.toNat)))), some (.int (Int32.ofInt v_14)), some (.int (Int32.ofInt (v_17 + 2))), some (.int (Int32.ofInt (v_19 + v_21))), some (.int (Int32.ofInt (k_23 : Int))), w24] [] (zN L X (zhi s) R G nc ns) Q := by
          intro m
          induction m with
          | zero => intros; omega
          | succ m ih28 =>
            intro k_23 w24 c25 c26 hm29
            refine zW.run 2 (pc' := 100) (ls' := [some (.ref 8), some (.int (Int32.ofInt a)), some (.int (Int32.ofInt b)), some (.int (Int32.ofInt d)), some (.int (Int32.ofInt ((s 14 b.toNat) - (s 14 a.toNat)))), some (.int (Int32.ofInt ((s 15 b.toNat) - (s 15 a.toNat)))), some (.int (Int32.ofInt v_14)), some (.int (Int32.ofInt (v_17 + 2))), some (.int (Int32.ofInt (v_19 + v_21))), some (.int (Int32.ofInt (k_23 : Int))), w24]) (st' := [.int (Int32.ofInt v_14), .int (Int32.ofInt (k_23 : Int))]) (σ' := (zN L X (zhi s) R G nc ns)) (fun n => rfl) ?_
            refine zW.jcmp_ge rfl (by omega) (fun c30 => ?_) (fun c30 => ?_)
            · skip
              refine zW.run 1 (pc' := 166) (ls' := [some (.ref 8), some (.int (Int32.ofInt a)), some (.int (Int32.ofInt b)), some (.int (Int32.ofInt d)), some (.int (Int32.ofInt ((s 14 b.toNat) - (s 14 a.toNat)))), some (.int (Int32.ofInt ((s 15 b.toNat) - (s 15 a.toNat)))), some (.int (Int32.ofInt v_14)), some (.int (Int32.ofInt (v_17 + 2))), some (.int (Int32.ofInt (v_19 + v_21))), some (.int (Int32.ofInt (k_23 : Int))), w24]) (st' := [.int (Int32.ofInt 1)]) (σ' := (zN L X (zhi s) R G nc ns)) (fun n => rfl) ?_
              exact zW.jretb rfl rfl (by decide) hQ0
            · skip
              refine zW.run 4 (pc' := 110) (ls' := [some (.ref 8), some (.int (Int32.ofInt a)), some (.int (Int32.ofInt b)), some (.int (Int32.ofInt d)), some (.int (Int32.ofInt ((s 14 b.toNat) - (s 14 a.toNat)))), some (.int (Int32.ofInt ((s 15 b.toNat) - (s 15 a.toNat)))), some (.int (Int32.ofInt v_14)), some (.int (Int32.ofInt (v_17 + 2))), some (.int (Int32.ofInt (v_19 + v_21))), some (.int (Int32.ofInt (k_23 : Int))), w24]) (st' := [.int (Int32.ofInt (k_23 : Int)), .int (Int32.ofInt v_14), .int (Int32.ofInt ((s 15 b.toNat) - (s 15 a.toNat))), .int (Int32.ofInt a)]) (σ' := (zN L X (zhi s) R G nc ns)) (fun n => rfl) ?_
              refine zW.callS rfl rfl rfl rfl rfl (Nat.le_of_ble_eq_true rfl) ?_
              refine t_Ground_alongLine S (x := ((s 15 b.toNat) - (s 15 a.toNat))) (n := v_14) (k := (k_23 : Int)) (by omega) (fun v_31 => ?_)
              show zW ro 69 113 [some (.ref 8), some (.int (Int32.ofInt a)), some (.int (Int32.ofInt b)), some (.int (Int32.ofInt d)), some (.int (Int32.ofInt ((s 14 b.toNat) - (s 14 a.toNat)))), some (.int (Int32.ofInt ((s 15 b.toNat) - (s 15 a.toNat)))), some (.int (Int32.ofInt v_14)), some (.int (Int32.ofInt (v_17 + 2))), some (.int (Int32.ofInt (v_19 + v_21))), some (.int (Int32.ofInt (k_23 : Int))), w24] [.int v_31, .int (Int32.ofInt a)] (zN L X (zhi s) R G nc ns) Q
              refine zW.run 1 (pc' := 114) (ls' := [some (.ref 8), some (.int (Int32.ofInt a)), some (.int (Int32.ofInt b)), some (.int (Int32.ofInt d)), some (.int (Int32.ofInt ((s 14 b.toNat) - (s 14 a.toNat)))), some (.int (Int32.ofInt ((s 15 b.toNat) - (s 15 a.toNat)))), some (.int (Int32.ofInt v_14)), some (.int (Int32.ofInt (v_17 + 2))), some (.int (Int32.ofInt (v_19 + v_21))), some (.int (Int32.ofInt (k_23 : Int))), w24]) (st' := [.ref 8, .int v_31, .int (Int32.ofInt a)]) (σ' := (zN L X (zhi s) R G nc ns)) (fun n => rfl) ?_
              refine zW.run 6 (pc' := 125) (ls' := [some (.ref 8), some (.int (Int32.ofInt a)), some (.int (Int32.ofInt b)), some (.int (Int32.ofInt d)), some (.int (Int32.ofInt ((s 14 b.toNat) - (s 14 a.toNat)))), some (.int (Int32.ofInt ((s 15 b.toNat) - (s 15 a.toNat)))), some (.int (Int32.ofInt v_14)), some (.int (Int32.ofInt (v_17 + 2))), some (.int (Int32.ofInt (v_19 + v_21))), some (.int (Int32.ofInt (k_23 : Int))), w24]) (st' := [.int (Int32.ofInt (k_23 : Int)), .int (Int32.ofInt v_14), .int (Int32.ofInt ((s 14 b.toNat) - (s 14 a.toNat))), .int ((Int32.ofInt a) + (v_31 * (Int32.ofInt (s 8 9))))]) (σ' := (zN L X (zhi s) R G nc ns)) (fun n => rfl) ?_
              refine zW.callS rfl rfl rfl rfl rfl (Nat.le_of_ble_eq_true rfl) ?_
              refine t_Ground_alongLine S (x := ((s 14 b.toNat) - (s 14 a.toNat))) (n := v_14) (k := (k_23 : Int)) (by omega) (fun v_32 => ?_)
              show zW ro 69 128 [some (.ref 8), some (.int (Int32.ofInt a)), some (.int (Int32.ofInt b)), some (.int (Int32.ofInt d)), some (.int (Int32.ofInt ((s 14 b.toNat) - (s 14 a.toNat)))), some (.int (Int32.ofInt ((s 15 b.toNat) - (s 15 a.toNat)))), some (.int (Int32.ofInt v_14)), some (.int (Int32.ofInt (v_17 + 2))), some (.int (Int32.ofInt (v_19 + v_21))), some (.int (Int32.ofInt (k_23 : Int))), w24] [.int v_32, .int ((Int32.ofInt a) + (v_31 * (Int32.ofInt (s 8 9))))] (zN L X (zhi s) R G nc ns) Q
              refine zW.run 4 (pc' := 134) (ls' := [some (.ref 8), some (.int (Int32.ofInt a)), some (.int (Int32.ofInt b)), some (.int (Int32.ofInt d)), some (.int (Int32.ofInt ((s 14 b.toNat) - (s 14 a.toNat)))), some (.int (Int32.ofInt ((s 15 b.toNat) - (s 15 a.toNat)))), some (.int (Int32.ofInt v_14)), some (.int (Int32.ofInt (v_17 + 2))), some (.int (Int32.ofInt (v_19 + v_21))), some (.int (Int32.ofInt (k_23 : Int))), some (.int (((Int32.ofInt a) + (v_31 * (Int32.ofInt (s 8 9)))) + v_32))]) (st' := [.int (((Int32.ofInt a) + (v_31 * (Int32.ofInt (s 8 9)))) + v_32), .ref 8]) (σ' := (zN L X (zhi s) R G nc ns)) (fun n => rfl) ?_
              obtain ⟨u33, ru33, eu33⟩ := zj_w (((Int32.ofInt a) + (v_31 * (Int32.ofInt (s 8 9)))) + v_32)
              rw [eu33]
              refine zW.callV rfl (by decide) rfl rfl rfl rfl rfl (Nat.le_of_ble_eq_true rfl) ?_
              refine t_Ground_topOf S V (x := u33) (by omega) (fun v_34 f35 => ?_)
              show zW ro 69 137 [some (.ref 8), some (.int (Int32.ofInt a)), some (.int (Int32.ofInt b)), some (.int (Int32.ofInt d)), some (.int (Int32.ofInt ((s 14 b.toNat) - (s 14 a.toNat)))), some (.int (Int32.ofInt ((s 15 b.toNat) - (s 15 a.toNat)))), some (.int (Int32.ofInt v_14)), some (.int (Int32.ofInt (v_17 + 2))), some (.int (Int32.ofInt (v_19 + v_21))), some (.int (Int32.ofInt (k_23 : Int))), some (.int (Int32.ofInt u33))] [.int (Int32.ofInt v_34)] (zN L X (zhi s) R G nc ns) Q
              refine zW.run 1 (pc' := 139) (ls' := [some (.ref 8), some (.int (Int32.ofInt a)), some (.int (Int32.ofInt b)), some (.int (Int32.ofInt d)), some (.int (Int32.ofInt ((s 14 b.toNat) - (s 14 a.toNat)))), some (.int (Int32.ofInt ((s 15 b.toNat) - (s 15 a.toNat)))), some (.int (Int32.ofInt v_14)), some (.int (Int32.ofInt (v_17 + 2))), some (.int (Int32.ofInt (v_19 + v_21))), some (.int (Int32.ofInt (k_23 : Int))), some (.int (Int32.ofInt u33))]) (st' := [.int (Int32.ofInt v_14), .int (Int32.ofInt v_34)]) (σ' := (zN L X (zhi s) R G nc ns)) (fun n => rfl) ?_
              refine zW.jmul rfl ?_
              refine zW.run 3 (pc' := 146) (ls' := [some (.ref 8), some (.int (Int32.ofInt a)), some (.int (Int32.ofInt b)), some (.int (Int32.ofInt d)), some (.int (Int32.ofInt ((s 14 b.toNat) - (s 14 a.toNat)))), some (.int (Int32.ofInt ((s 15 b.toNat) - (s 15 a.toNat)))), some (.int (Int32.ofInt v_14)), some (.int (Int32.ofInt (v_17 + 2))), some (.int (Int32.ofInt (v_19 + v_21))), some (.int (Int32.ofInt (k_23 : Int))), some (.int (Int32.ofInt u33))]) (st' := [.int (Int32.ofInt (k_23 : Int)), .int (Int32.ofInt v_14), .int (Int32.ofInt (v_17 + 2)), .int (Int32.ofInt (v_34 * v_14))]) (σ' := (zN L X (zhi s) R G nc ns)) (fun n => rfl) ?_
              refine zW.jsub rfl ?_
              refine zW.jmul rfl ?_
              refine zW.run 2 (pc' := 152) (ls' := [some (.ref 8), some (.int (Int32.ofInt a)), some (.int (Int32.ofInt b)), some (.int (Int32.ofInt d)), some (.int (Int32.ofInt ((s 14 b.toNat) - (s 14 a.toNat)))), some (.int (Int32.ofInt ((s 15 b.toNat) - (s 15 a.toNat)))), some (.int (Int32.ofInt v_14)), some (.int (Int32.ofInt (v_17 + 2))), some (.int (Int32.ofInt (v_19 + v_21))), some (.int (Int32.ofInt (k_23 : Int))), some (.int (Int32.ofInt u33))]) (st' := [.int (Int32.ofInt (k_23 : Int)), .int (Int32.ofInt (v_19 + v_21)), .int (Int32.ofInt ((v_17 + 2) * (v_14 - (k_23 : Int)))), .int (Int32.ofInt (v_34 * v_14))]) (σ' := (zN L X (zhi s) R G nc ns)) (fun n => rfl) ?_
              refine zW.jmul rfl ?_
              refine zW.jadd rfl ?_
              refine zW.icmp_le rfl (fun _ => ?_) (fun _ => ?_)
              · skip
                refine zW.jinc (ls' := [some (.ref 8), some (.int (Int32.ofInt a)), some (.int (Int32.ofInt b)), some (.int (Int32.ofInt d)), some (.int (Int32.ofInt ((s 14 b.toNat) - (s 14 a.toNat)))), some (.int (Int32.ofInt ((s 15 b.toNat) - (s 15 a.toNat)))), some (.int (Int32.ofInt v_14)), some (.int (Int32.ofInt (v_17 + 2))), some (.int (Int32.ofInt (v_19 + v_21))), some (.int (Int32.ofInt ((k_23 : Int) + 1))), some (.int (Int32.ofInt u33))]) rfl (Nat.le_of_ble_eq_true rfl) rfl rfl ?_
                refine zW.run 1 (pc' := 96) (ls' := [some (.ref 8), some (.int (Int32.ofInt a)), some (.int (Int32.ofInt b)), some (.int (Int32.ofInt d)), some (.int (Int32.ofInt ((s 14 b.toNat) - (s 14 a.toNat)))), some (.int (Int32.ofInt ((s 15 b.toNat) - (s 15 a.toNat)))), some (.int (Int32.ofInt v_14)), some (.int (Int32.ofInt (v_17 + 2))), some (.int (Int32.ofInt (v_19 + v_21))), some (.int (Int32.ofInt ((k_23 : Int) + 1))), some (.int (Int32.ofInt u33))]) (st' := []) (σ' := (zN L X (zhi s) R G nc ns)) (fun n => rfl) ?_
                exact ih28 (k_23 + 1) (some (.int (Int32.ofInt u33))) (by omega) (by omega) (by omega)
              · skip
                refine zW.run 1 (pc' := 158) (ls' := [some (.ref 8), some (.int (Int32.ofInt a)), some (.int (Int32.ofInt b)), some (.int (Int32.ofInt d)), some (.int (Int32.ofInt ((s 14 b.toNat) - (s 14 a.toNat)))), some (.int (Int32.ofInt ((s 15 b.toNat) - (s 15 a.toNat)))), some (.int (Int32.ofInt v_14)), some (.int (Int32.ofInt (v_17 + 2))), some (.int (Int32.ofInt (v_19 + v_21))), some (.int (Int32.ofInt (k_23 : Int))), some (.int (Int32.ofInt u33))]) (st' := [.int (Int32.ofInt 0)]) (σ' := (zN L X (zhi s) R G nc ns)) (fun n => rfl) ?_
                exact zW.jretb rfl rfl (by decide) (hQ1 (by rintro ⟨h1, _⟩; subst h1; omega))
        exact J27 _ 1 none (by omega) (by omega) (Nat.lt_succ_self _)
      · skip
        refine zW.run 1 (pc' := 70) (ls' := [some (.ref 8), some (.int (Int32.ofInt a)), some (.int (Int32.ofInt b)), some (.int (Int32.ofInt d)), some (.int (Int32.ofInt ((s 14 b.toNat) - (s 14 a.toNat)))), some (.int (Int32.ofInt ((s 15 b.toNat) - (s 15 a.toNat)))), some (.int (Int32.ofInt v_14)), none, none, none, none]) (st' := [.int (Int32.ofInt 0)]) (σ' := (zN L X (zhi s) R G nc ns)) (fun n => rfl) ?_
        exact zW.jretb rfl rfl (by decide) (hQ1 (by rintro ⟨h1, _⟩; subst h1; omega))
    · skip
      show zW ro 69 13 [some (.ref 8), some (.int (Int32.ofInt a)), some (.int (Int32.ofInt b)), some (.int (Int32.ofInt d)), none, none, none, none, none, none, none] [.int (Int32.ofInt 0)] (zN L X (zhi s) R G nc ns) Q
      refine zW.run 2 (pc' := 17) (ls' := [some (.ref 8), some (.int (Int32.ofInt a)), some (.int (Int32.ofInt b)), some (.int (Int32.ofInt d)), none, none, none, none, none, none, none]) (st' := [.int (Int32.ofInt 0)]) (σ' := (zN L X (zhi s) R G nc ns)) (fun n => rfl) ?_
      exact zW.jretb rfl rfl (by decide) (hQ1 (by omega))
  · skip
    show zW ro 69 5 [some (.ref 8), some (.int (Int32.ofInt a)), some (.int (Int32.ofInt b)), some (.int (Int32.ofInt d)), none, none, none, none, none, none, none] [.int (Int32.ofInt 0)] (zN L X (zhi s) R G nc ns) Q
    refine zW.run 2 (pc' := 17) (ls' := [some (.ref 8), some (.int (Int32.ofInt a)), some (.int (Int32.ofInt b)), some (.int (Int32.ofInt d)), none, none, none, none, none, none, none]) (st' := [.int (Int32.ofInt 0)]) (σ' := (zN L X (zhi s) R G nc ns)) (fun n => rfl) ?_
    exact zW.jretb rfl rfl (by decide) (hQ1 (by omega))
set_option maxHeartbeats 4000000 in
theorem t_Ground_isRaked (S : zSR R) (V : zV g U F T B ph s) {a : Int} {b : Int} {d : Int} (p0 : -2147483648 ≤ a ∧ a < 2147483648) (p1 : -2147483648 ≤ b ∧ b < 2147483648) (p2 : 0 ≤ d ∧ d ≤ 100) (hQ0 : Q (.inl (some (.int (Int32.ofInt 1)))) (zN L X (zhi s) R G nc ns)) (hQ1 : Q (.inl (some (.int (Int32.ofInt 0)))) (zN L X (zhi s) R G nc ns)) : zW ro 68 0 (zfst [.ref 8, .int (Int32.ofInt a), .int (Int32.ofInt b), .int (Int32.ofInt d)] 9) [] (zN L X (zhi s) R G nc ns) Q := by
  show zW ro 68 0 [some (.ref 8), some (.int (Int32.ofInt a)), some (.int (Int32.ofInt b)), some (.int (Int32.ofInt d)), none, none, none, none, none] [] (zN L X (zhi s) R G nc ns) Q
  have f1 := zA_geo (zV_zA V)
  have hB0 := zV_B V
  refine zW.run 2 (pc' := 2) (ls' := [some (.ref 8), some (.int (Int32.ofInt a)), some (.int (Int32.ofInt b)), some (.int (Int32.ofInt d)), none, none, none, none, none]) (st' := [.int (Int32.ofInt b), .int (Int32.ofInt a)]) (σ' := (zN L X (zhi s) R G nc ns)) (fun n => rfl) ?_
  refine zW.jcmp_eq rfl (by omega) (fun c2 => ?_) (fun c2 => ?_)
  · skip
    refine zW.run 1 (pc' := 42) (ls' := [some (.ref 8), some (.int (Int32.ofInt a)), some (.int (Int32.ofInt b)), some (.int (Int32.ofInt d)), none, none, none, none, none]) (st' := [.int (Int32.ofInt 0)]) (σ' := (zN L X (zhi s) R G nc ns)) (fun n => rfl) ?_
    exact zW.jretb rfl rfl (by decide) hQ1
  · skip
    refine zW.run 2 (pc' := 7) (ls' := [some (.ref 8), some (.int (Int32.ofInt a)), some (.int (Int32.ofInt b)), some (.int (Int32.ofInt d)), none, none, none, none, none]) (st' := [.int (Int32.ofInt a), .ref 8]) (σ' := (zN L X (zhi s) R G nc ns)) (fun n => rfl) ?_
    refine zW.callV rfl (by decide) rfl rfl rfl rfl rfl (Nat.le_of_ble_eq_true rfl) ?_
    refine t_Ground_isOn S (zV_zA V) (x := a) (by omega) (fun f3 f4 => ?_) (fun f5 => ?_)
    · skip
      show zW ro 68 10 [some (.ref 8), some (.int (Int32.ofInt a)), some (.int (Int32.ofInt b)), some (.int (Int32.ofInt d)), none, none, none, none, none] [.int (Int32.ofInt 1)] (zN L X (zhi s) R G nc ns) Q
      refine zW.run 3 (pc' := 15) (ls' := [some (.ref 8), some (.int (Int32.ofInt a)), some (.int (Int32.ofInt b)), some (.int (Int32.ofInt d)), none, none, none, none, none]) (st' := [.int (Int32.ofInt b), .ref 8]) (σ' := (zN L X (zhi s) R G nc ns)) (fun n => rfl) ?_
      refine zW.callV rfl (by decide) rfl rfl rfl rfl rfl (Nat.le_of_ble_eq_true rfl) ?_
      refine t_Ground_isOn S (zV_zA V) (x := b) (by omega) (fun f6 f7 => ?_) (fun f8 => ?_)
      · skip
        show zW ro 68 18 [some (.ref 8), some (.int (Int32.ofInt a)), some (.int (Int32.ofInt b)), some (.int (Int32.ofInt d)), none, none, none, none, none] [.int (Int32.ofInt 1)] (zN L X (zhi s) R G nc ns) Q
        refine zW.run 2 (pc' := 22) (ls' := [some (.ref 8), some (.int (Int32.ofInt a)), some (.int (Int32.ofInt b)), some (.int (Int32.ofInt d)), none, none, none, none, none]) (st' := [.ref 8]) (σ' := (zN L X (zhi s) R G nc ns)) (fun n => rfl) ?_
        refine zW.getf (v := .ref 11) rfl rfl (zr_8 S (f := 2) (by decide)) ?_
        refine zW.run 1 (pc' := 26) (ls' := [some (.ref 8), some (.int (Int32.ofInt a)), some (.int (Int32.ofInt b)), some (.int (Int32.ofInt d)), none, none, none, none, none]) (st' := [.int (Int32.ofInt b), .ref 11]) (σ' := (zN L X (zhi s) R G nc ns)) (fun n => rfl) ?_
        refine zW.jald (n := 144) (v := (s 11 b.toNat)) rfl rfl (by decide) (by omega) rfl ?_
        have f9 := zV_sq V (k := b.toNat) (by omega)
        refine zW.run 1 (pc' := 28) (ls' := [some (.ref 8), some (.int (Int32.ofInt a)), some (.int (Int32.ofInt b)), some (.int (Int32.ofInt d)), none, none, none, none, none]) (st' := [.int (Int32.ofInt 5), .int (Int32.ofInt (s 11 b.toNat))]) (σ' := (zN L X (zhi s) R G nc ns)) (fun n => rfl) ?_
        refine zW.jcmp_ne rfl (by omega) (fun c10 => ?_) (fun c10 => ?_)
        · skip
          refine zW.run 1 (pc' := 42) (ls' := [some (.ref 8), some (.int (Int32.ofInt a)), some (.int (Int32.ofInt b)), some (.int (Int32.ofInt d)), none, none, none, none, none]) (st' := [.int (Int32.ofInt 0)]) (σ' := (zN L X (zhi s) R G nc ns)) (fun n => rfl) ?_
          exact zW.jretb rfl rfl (by decide) hQ1
        · skip
          refine zW.run 4 (pc' := 35) (ls' := [some (.ref 8), some (.int (Int32.ofInt a)), some (.int (Int32.ofInt b)), some (.int (Int32.ofInt d)), none, none, none, none, none]) (st' := [.int (Int32.ofInt d), .int (Int32.ofInt b), .int (Int32.ofInt a), .ref 8]) (σ' := (zN L X (zhi s) R G nc ns)) (fun n => rfl) ?_
          refine zW.callV rfl (by decide) rfl rfl rfl rfl rfl (Nat.le_of_ble_eq_true rfl) ?_
          refine t_Ground_isSeen S V (a := a) (b := b) (d := d) (by omega) (by omega) (by omega) ?_ (fun f11 => ?_)
          · skip
            show zW ro 68 38 [some (.ref 8), some (.int (Int32.ofInt a)), some (.int (Int32.ofInt b)), some (.int (Int32.ofInt d)), none, none, none, none, none] [.int (Int32.ofInt 1)] (zN L X (zhi s) R G nc ns) Q
            refine zW.run 2 (pc' := 44) (ls' := [some (.ref 8), some (.int (Int32.ofInt a)), some (.int (Int32.ofInt b)), some (.int (Int32.ofInt d)), none, none, none, none, none]) (st' := [.ref 8]) (σ' := (zN L X (zhi s) R G nc ns)) (fun n => rfl) ?_
            refine zW.getf (v := .ref 14) rfl rfl (zr_8 S (f := 5) (by decide)) ?_
            refine zW.run 1 (pc' := 48) (ls' := [some (.ref 8), some (.int (Int32.ofInt a)), some (.int (Int32.ofInt b)), some (.int (Int32.ofInt d)), none, none, none, none, none]) (st' := [.int (Int32.ofInt b), .ref 14]) (σ' := (zN L X (zhi s) R G nc ns)) (fun n => rfl) ?_
            refine zW.jald (n := 144) (v := (s 14 b.toNat)) rfl rfl (by decide) (by omega) rfl ?_
            have f12 := zA_cl (zV_zA V) (k := b.toNat) (by omega)
            refine zW.run 1 (pc' := 50) (ls' := [some (.ref 8), some (.int (Int32.ofInt a)), some (.int (Int32.ofInt b)), some (.int (Int32.ofInt d)), none, none, none, none, none]) (st' := [.ref 8, .int (Int32.ofInt (s 14 b.toNat))]) (σ' := (zN L X (zhi s) R G nc ns)) (fun n => rfl) ?_
            refine zW.getf (v := .ref 14) rfl rfl (zr_8 S (f := 5) (by decide)) ?_
            refine zW.run 1 (pc' := 54) (ls' := [some (.ref 8), some (.int (Int32.ofInt a)), some (.int (Int32.ofInt b)), some (.int (Int32.ofInt d)), none, none, none, none, none]) (st' := [.int (Int32.ofInt a), .ref 14, .int (Int32.ofInt (s 14 b.toNat))]) (σ' := (zN L X (zhi s) R G nc ns)) (fun n => rfl) ?_
            refine zW.jald (n := 144) (v := (s 14 a.toNat)) rfl rfl (by decide) (by omega) rfl ?_
            have f13 := zA_cl (zV_zA V) (k := a.toNat) (by omega)
            refine zW.jsub rfl ?_
            refine zW.run 2 (pc' := 59) (ls' := [some (.ref 8), some (.int (Int32.ofInt a)), some (.int (Int32.ofInt b)), some (.int (Int32.ofInt d)), some (.int (Int32.ofInt ((s 14 b.toNat) - (s 14 a.toNat)))), none, none, none, none]) (st' := [.ref 8]) (σ' := (zN L X (zhi s) R G nc ns)) (fun n => rfl) ?_
            refine zW.getf (v := .ref 15) rfl rfl (zr_8 S (f := 6) (by decide)) ?_
            refine zW.run 1 (pc' := 63) (ls' := [some (.ref 8), some (.int (Int32.ofInt a)), some (.int (Int32.ofInt b)), some (.int (Int32.ofInt d)), some (.int (Int32.ofInt ((s 14 b.toNat) - (s 14 a.toNat)))), none, none, none, none]) (st' := [.int (Int32.ofInt b), .ref 15]) (σ' := (zN L X (zhi s) R G nc ns)) (fun n => rfl) ?_
            refine zW.jald (n := 144) (v := (s 15 b.toNat)) rfl rfl (by decide) (by omega) rfl ?_
            refine zW.run 1 (pc' := 65) (ls' := [some (.ref 8), some (.int (Int32.ofInt a)), some (.int (Int32.ofInt b)), some (.int (Int32.ofInt d)), some (.int (Int32.ofInt ((s 14 b.toNat) - (s 14 a.toNat)))), none, none, none, none]) (st' := [.ref 8, .int (Int32.ofInt (s 15 b.toNat))]) (σ' := (zN L X (zhi s) R G nc ns)) (fun n => rfl) ?_
            refine zW.getf (v := .ref 15) rfl rfl (zr_8 S (f := 6) (by decide)) ?_
            refine zW.run 1 (pc' := 69) (ls' := [some (.ref 8), some (.int (Int32.ofInt a)), some (.int (Int32.ofInt b)), some (.int (Int32.ofInt d)), some (.int (Int32.ofInt ((s 14 b.toNat) - (s 14 a.toNat)))), none, none, none, none]) (st' := [.int (Int32.ofInt a), .ref 15, .int (Int32.ofInt (s 15 b.toNat))]) (σ' := (zN L X (zhi s) R G nc ns)) (fun n => rfl) ?_
            refine zW.jald (n := 144) (v := (s 15 a.toNat)) rfl rfl (by decide) (by omega) rfl ?_
            refine zW.jsub rfl ?_
            refine zW.run 2 (pc' := 75) (ls' := [some (.ref 8), some (.int (Int32.ofInt a)), some (.int (Int32.ofInt b)), some (.int (Int32.ofInt d)), some (.int (Int32.ofInt ((s 14 b.toNat) - (s 14 a.toNat)))), some (.int (Int32.ofInt ((s 15 b.toNat) - (s 15 a.toNat)))), none, none, none]) (st' := [.int (Int32.ofInt ((s 14 b.toNat) - (s 14 a.toNat)))]) (σ' := (zN L X (zhi s) R G nc ns)) (fun n => rfl) ?_
            refine zW.callS rfl rfl rfl rfl rfl (Nat.le_of_ble_eq_true rfl) ?_
            refine t_Math_abs S (x := ((s 14 b.toNat) - (s 14 a.toNat))) (by omega) (fun v_14 f15 => ?_)
            show zW ro 68 78 [some (.ref 8), some (.int (Int32.ofInt a)), some (.int (Int32.ofInt b)), some (.int (Int32.ofInt d)), some (.int (Int32.ofInt ((s 14 b.toNat) - (s 14 a.toNat)))), some (.int (Int32.ofInt ((s 15 b.toNat) - (s 15 a.toNat)))), none, none, none] [.int (Int32.ofInt v_14)] (zN L X (zhi s) R G nc ns) Q
            refine zW.run 1 (pc' := 80) (ls' := [some (.ref 8), some (.int (Int32.ofInt a)), some (.int (Int32.ofInt b)), some (.int (Int32.ofInt d)), some (.int (Int32.ofInt ((s 14 b.toNat) - (s 14 a.toNat)))), some (.int (Int32.ofInt ((s 15 b.toNat) - (s 15 a.toNat)))), none, none, none]) (st' := [.int (Int32.ofInt ((s 15 b.toNat) - (s 15 a.toNat))), .int (Int32.ofInt v_14)]) (σ' := (zN L X (zhi s) R G nc ns)) (fun n => rfl) ?_
            refine zW.callS rfl rfl rfl rfl rfl (Nat.le_of_ble_eq_true rfl) ?_
            refine t_Math_abs S (x := ((s 15 b.toNat) - (s 15 a.toNat))) (by omega) (fun v_16 f17 => ?_)
            show zW ro 68 83 [some (.ref 8), some (.int (Int32.ofInt a)), some (.int (Int32.ofInt b)), some (.int (Int32.ofInt d)), some (.int (Int32.ofInt ((s 14 b.toNat) - (s 14 a.toNat)))), some (.int (Int32.ofInt ((s 15 b.toNat) - (s 15 a.toNat)))), none, none, none] [.int (Int32.ofInt v_16), .int (Int32.ofInt v_14)] (zN L X (zhi s) R G nc ns) Q
            refine zW.callS rfl rfl rfl rfl rfl (Nat.le_of_ble_eq_true rfl) ?_
            refine t_Math_max S (x := v_14) (y := v_16) (by omega) (by omega) (fun v_18 f19 => ?_)
            show zW ro 68 86 [some (.ref 8), some (.int (Int32.ofInt a)), some (.int (Int32.ofInt b)), some (.int (Int32.ofInt d)), some (.int (Int32.ofInt ((s 14 b.toNat) - (s 14 a.toNat)))), some (.int (Int32.ofInt ((s 15 b.toNat) - (s 15 a.toNat)))), none, none, none] [.int (Int32.ofInt v_18)] (zN L X (zhi s) R G nc ns) Q
            refine zW.run 2 (pc' := 89) (ls' := [some (.ref 8), some (.int (Int32.ofInt a)), some (.int (Int32.ofInt b)), some (.int (Int32.ofInt d)), some (.int (Int32.ofInt ((s 14 b.toNat) - (s 14 a.toNat)))), some (.int (Int32.ofInt ((s 15 b.toNat) - (s 15 a.toNat)))), some (.int (Int32.ofInt v_18)), none, none]) (st' := [.ref 8]) (σ' := (zN L X (zhi s) R G nc ns)) (fun n => rfl) ?_
            refine zW.getf (v := .ref 14) rfl rfl (zr_8 S (f := 5) (by decide)) ?_
            refine zW.run 1 (pc' := 93) (ls' := [some (.ref 8), some (.int (Int32.ofInt a)), some (.int (Int32.ofInt b)), some (.int (Int32.ofInt d)), some (.int (Int32.ofInt ((s 14 b.toNat) - (s 14 a.toNat)))), some (.int (Int32.ofInt ((s 15 b.toNat) - (s 15 a.toNat)))), some (.int (Int32.ofInt v_18)), none, none]) (st' := [.int (Int32.ofInt a), .ref 14]) (σ' := (zN L X (zhi s) R G nc ns)) (fun n => rfl) ?_
            refine zW.jald (n := 144) (v := (s 14 a.toNat)) rfl rfl (by decide) (by omega) rfl ?_
            refine zW.run 4 (pc' := 101) (ls' := [some (.ref 8), some (.int (Int32.ofInt a)), some (.int (Int32.ofInt b)), some (.int (Int32.ofInt d)), some (.int (Int32.ofInt ((s 14 b.toNat) - (s 14 a.toNat)))), some (.int (Int32.ofInt ((s 15 b.toNat) - (s 15 a.toNat)))), some (.int (Int32.ofInt v_18)), none, none]) (st' := [.int (Int32.ofInt 1), .int (Int32.ofInt v_18), .int (Int32.ofInt v_18), .int (Int32.ofInt ((s 14 b.toNat) - (s 14 a.toNat))), .int (Int32.ofInt (s 14 a.toNat))]) (σ' := (zN L X (zhi s) R G nc ns)) (fun n => rfl) ?_
            refine zW.jadd rfl ?_
            refine zW.callS rfl rfl rfl rfl rfl (Nat.le_of_ble_eq_true rfl) ?_
            refine t_Ground_alongLine S (x := ((s 14 b.toNat) - (s 14 a.toNat))) (n := v_18) (k := (v_18 + 1)) (by omega) (fun v_20 => ?_)
            show zW ro 68 105 [some (.ref 8), some (.int (Int32.ofInt a)), some (.int (Int32.ofInt b)), some (.int (Int32.ofInt d)), some (.int (Int32.ofInt ((s 14 b.toNat) - (s 14 a.toNat)))), some (.int (Int32.ofInt ((s 15 b.toNat) - (s 15 a.toNat)))), some (.int (Int32.ofInt v_18)), none, none] [.int v_20, .int (Int32.ofInt (s 14 a.toNat))] (zN L X (zhi s) R G nc ns) Q
            refine zW.run 3 (pc' := 109) (ls' := [some (.ref 8), some (.int (Int32.ofInt a)), some (.int (Int32.ofInt b)), some (.int (Int32.ofInt d)), some (.int (Int32.ofInt ((s 14 b.toNat) - (s 14 a.toNat)))), some (.int (Int32.ofInt ((s 15 b.toNat) - (s 15 a.toNat)))), some (.int (Int32.ofInt v_18)), some (.int ((Int32.ofInt (s 14 a.toNat)) + v_20)), none]) (st' := [.ref 8]) (σ' := (zN L X (zhi s) R G nc ns)) (fun n => rfl) ?_
            refine zW.getf (v := .ref 15) rfl rfl (zr_8 S (f := 6) (by decide)) ?_
            refine zW.run 1 (pc' := 113) (ls' := [some (.ref 8), some (.int (Int32.ofInt a)), some (.int (Int32.ofInt b)), some (.int (Int32.ofInt d)), some (.int (Int32.ofInt ((s 14 b.toNat) - (s 14 a.toNat)))), some (.int (Int32.ofInt ((s 15 b.toNat) - (s 15 a.toNat)))), some (.int (Int32.ofInt v_18)), some (.int ((Int32.ofInt (s 14 a.toNat)) + v_20)), none]) (st' := [.int (Int32.ofInt a), .ref 15]) (σ' := (zN L X (zhi s) R G nc ns)) (fun n => rfl) ?_
            refine zW.jald (n := 144) (v := (s 15 a.toNat)) rfl rfl (by decide) (by omega) rfl ?_
            refine zW.run 4 (pc' := 121) (ls' := [some (.ref 8), some (.int (Int32.ofInt a)), some (.int (Int32.ofInt b)), some (.int (Int32.ofInt d)), some (.int (Int32.ofInt ((s 14 b.toNat) - (s 14 a.toNat)))), some (.int (Int32.ofInt ((s 15 b.toNat) - (s 15 a.toNat)))), some (.int (Int32.ofInt v_18)), some (.int ((Int32.ofInt (s 14 a.toNat)) + v_20)), none]) (st' := [.int (Int32.ofInt 1), .int (Int32.ofInt v_18), .int (Int32.ofInt v_18), .int (Int32.ofInt ((s 15 b.toNat) - (s 15 a.toNat))), .int (Int32.ofInt (s 15 a.toNat))]) (σ' := (zN L X (zhi s) R G nc ns)) (fun n => rfl) ?_
            refine zW.jadd rfl ?_
            refine zW.callS rfl rfl rfl rfl rfl (Nat.le_of_ble_eq_true rfl) ?_
            refine t_Ground_alongLine S (x := ((s 15 b.toNat) - (s 15 a.toNat))) (n := v_18) (k := (v_18 + 1)) (by omega) (fun v_21 => ?_)
            show zW ro 68 125 [some (.ref 8), some (.int (Int32.ofInt a)), some (.int (Int32.ofInt b)), some (.int (Int32.ofInt d)), some (.int (Int32.ofInt ((s 14 b.toNat) - (s 14 a.toNat)))), some (.int (Int32.ofInt ((s 15 b.toNat) - (s 15 a.toNat)))), some (.int (Int32.ofInt v_18)), some (.int ((Int32.ofInt (s 14 a.toNat)) + v_20)), none] [.int v_21, .int (Int32.ofInt (s 15 a.toNat))] (zN L X (zhi s) R G nc ns) Q
            refine zW.run 3 (pc' := 130) (ls' := [some (.ref 8), some (.int (Int32.ofInt a)), some (.int (Int32.ofInt b)), some (.int (Int32.ofInt d)), some (.int (Int32.ofInt ((s 14 b.toNat) - (s 14 a.toNat)))), some (.int (Int32.ofInt ((s 15 b.toNat) - (s 15 a.toNat)))), some (.int (Int32.ofInt v_18)), some (.int ((Int32.ofInt (s 14 a.toNat)) + v_20)), some (.int ((Int32.ofInt (s 15 a.toNat)) + v_21))]) (st' := [.int ((Int32.ofInt (s 14 a.toNat)) + v_20)]) (σ' := (zN L X (zhi s) R G nc ns)) (fun n => rfl) ?_
            refine zW.if_lt rfl (fun _ => ?_) (fun _ => ?_)
            · skip
              refine zW.run 1 (pc' := 179) (ls' := [some (.ref 8), some (.int (Int32.ofInt a)), some (.int (Int32.ofInt b)), some (.int (Int32.ofInt d)), some (.int (Int32.ofInt ((s 14 b.toNat) - (s 14 a.toNat)))), some (.int (Int32.ofInt ((s 15 b.toNat) - (s 15 a.toNat)))), some (.int (Int32.ofInt v_18)), some (.int ((Int32.ofInt (s 14 a.toNat)) + v_20)), some (.int ((Int32.ofInt (s 15 a.toNat)) + v_21))]) (st' := [.int (Int32.ofInt 0)]) (σ' := (zN L X (zhi s) R G nc ns)) (fun n => rfl) ?_
              exact zW.jretb rfl rfl (by decide) hQ1
            · skip
              refine zW.run 2 (pc' := 136) (ls' := [some (.ref 8), some (.int (Int32.ofInt a)), some (.int (Int32.ofInt b)), some (.int (Int32.ofInt d)), some (.int (Int32.ofInt ((s 14 b.toNat) - (s 14 a.toNat)))), some (.int (Int32.ofInt ((s 15 b.toNat) - (s 15 a.toNat)))), some (.int (Int32.ofInt v_18)), some (.int ((Int32.ofInt (s 14 a.toNat)) + v_20)), some (.int ((Int32.ofInt (s 15 a.toNat)) + v_21))]) (st' := [.ref 8, .int ((Int32.ofInt (s 14 a.toNat)) + v_20)]) (σ' := (zN L X (zhi s) R G nc ns)) (fun n => rfl) ?_
              refine zW.run 1 (pc' := 139) (ls' := [some (.ref 8), some (.int (Int32.ofInt a)), some (.int (Int32.ofInt b)), some (.int (Int32.ofInt d)), some (.int (Int32.ofInt ((s 14 b.toNat) - (s 14 a.toNat)))), some (.int (Int32.ofInt ((s 15 b.toNat) - (s 15 a.toNat)))), some (.int (Int32.ofInt v_18)), some (.int ((Int32.ofInt (s 14 a.toNat)) + v_20)), some (.int ((Int32.ofInt (s 15 a.toNat)) + v_21))]) (st' := [.int (Int32.ofInt (s 8 9)), .int ((Int32.ofInt (s 14 a.toNat)) + v_20)]) (σ' := (zN L X (zhi s) R G nc ns)) (fun n => rfl) ?_
              refine zW.icmp_ge rfl (fun _ => ?_) (fun _ => ?_)
              · skip
                refine zW.run 1 (pc' := 179) (ls' := [some (.ref 8), some (.int (Int32.ofInt a)), some (.int (Int32.ofInt b)), some (.int (Int32.ofInt d)), some (.int (Int32.ofInt ((s 14 b.toNat) - (s 14 a.toNat)))), some (.int (Int32.ofInt ((s 15 b.toNat) - (s 15 a.toNat)))), some (.int (Int32.ofInt v_18)), some (.int ((Int32.ofInt (s 14 a.toNat)) + v_20)), some (.int ((Int32.ofInt (s 15 a.toNat)) + v_21))]) (st' := [.int (Int32.ofInt 0)]) (σ' := (zN L X (zhi s) R G nc ns)) (fun n => rfl) ?_
                exact zW.jretb rfl rfl (by decide) hQ1
              · skip
                refine zW.run 1 (pc' := 144) (ls' := [some (.ref 8), some (.int (Int32.ofInt a)), some (.int (Int32.ofInt b)), some (.int (Int32.ofInt d)), some (.int (Int32.ofInt ((s 14 b.toNat) - (s 14 a.toNat)))), some (.int (Int32.ofInt ((s 15 b.toNat) - (s 15 a.toNat)))), some (.int (Int32.ofInt v_18)), some (.int ((Int32.ofInt (s 14 a.toNat)) + v_20)), some (.int ((Int32.ofInt (s 15 a.toNat)) + v_21))]) (st' := [.int ((Int32.ofInt (s 15 a.toNat)) + v_21)]) (σ' := (zN L X (zhi s) R G nc ns)) (fun n => rfl) ?_
                refine zW.if_lt rfl (fun _ => ?_) (fun _ => ?_)
                · skip
                  refine zW.run 1 (pc' := 179) (ls' := [some (.ref 8), some (.int (Int32.ofInt a)), some (.int (Int32.ofInt b)), some (.int (Int32.ofInt d)), some (.int (Int32.ofInt ((s 14 b.toNat) - (s 14 a.toNat)))), some (.int (Int32.ofInt ((s 15 b.toNat) - (s 15 a.toNat)))), some (.int (Int32.ofInt v_18)), some (.int ((Int32.ofInt (s 14 a.toNat)) + v_20)), some (.int ((Int32.ofInt (s 15 a.toNat)) + v_21))]) (st' := [.int (Int32.ofInt 0)]) (σ' := (zN L X (zhi s) R G nc ns)) (fun n => rfl) ?_
                  exact zW.jretb rfl rfl (by decide) hQ1
                · skip
                  refine zW.run 2 (pc' := 150) (ls' := [some (.ref 8), some (.int (Int32.ofInt a)), some (.int (Int32.ofInt b)), some (.int (Int32.ofInt d)), some (.int (Int32.ofInt ((s 14 b.toNat) - (s 14 a.toNat)))), some (.int (Int32.ofInt ((s 15 b.toNat) - (s 15 a.toNat)))), some (.int (Int32.ofInt v_18)), some (.int ((Int32.ofInt (s 14 a.toNat)) + v_20)), some (.int ((Int32.ofInt (s 15 a.toNat)) + v_21))]) (st' := [.ref 8, .int ((Int32.ofInt (s 15 a.toNat)) + v_21)]) (σ' := (zN L X (zhi s) R G nc ns)) (fun n => rfl) ?_
                  refine zW.run 1 (pc' := 153) (ls' := [some (.ref 8), some (.int (Int32.ofInt a)), some (.int (Int32.ofInt b)), some (.int (Int32.ofInt d)), some (.int (Int32.ofInt ((s 14 b.toNat) - (s 14 a.toNat)))), some (.int (Int32.ofInt ((s 15 b.toNat) - (s 15 a.toNat)))), some (.int (Int32.ofInt v_18)), some (.int ((Int32.ofInt (s 14 a.toNat)) + v_20)), some (.int ((Int32.ofInt (s 15 a.toNat)) + v_21))]) (st' := [.int (Int32.ofInt (s 8 10)), .int ((Int32.ofInt (s 15 a.toNat)) + v_21)]) (σ' := (zN L X (zhi s) R G nc ns)) (fun n => rfl) ?_
                  refine zW.icmp_ge rfl (fun _ => ?_) (fun _ => ?_)
                  · skip
                    refine zW.run 1 (pc' := 179) (ls' := [some (.ref 8), some (.int (Int32.ofInt a)), some (.int (Int32.ofInt b)), some (.int (Int32.ofInt d)), some (.int (Int32.ofInt ((s 14 b.toNat) - (s 14 a.toNat)))), some (.int (Int32.ofInt ((s 15 b.toNat) - (s 15 a.toNat)))), some (.int (Int32.ofInt v_18)), some (.int ((Int32.ofInt (s 14 a.toNat)) + v_20)), some (.int ((Int32.ofInt (s 15 a.toNat)) + v_21))]) (st' := [.int (Int32.ofInt 0)]) (σ' := (zN L X (zhi s) R G nc ns)) (fun n => rfl) ?_
                    exact zW.jretb rfl rfl (by decide) hQ1
                  · skip
                    refine zW.run 3 (pc' := 160) (ls' := [some (.ref 8), some (.int (Int32.ofInt a)), some (.int (Int32.ofInt b)), some (.int (Int32.ofInt d)), some (.int (Int32.ofInt ((s 14 b.toNat) - (s 14 a.toNat)))), some (.int (Int32.ofInt ((s 15 b.toNat) - (s 15 a.toNat)))), some (.int (Int32.ofInt v_18)), some (.int ((Int32.ofInt (s 14 a.toNat)) + v_20)), some (.int ((Int32.ofInt (s 15 a.toNat)) + v_21))]) (st' := [.ref 8, .int ((Int32.ofInt (s 15 a.toNat)) + v_21), .ref 8]) (σ' := (zN L X (zhi s) R G nc ns)) (fun n => rfl) ?_
                    refine zW.run 4 (pc' := 167) (ls' := [some (.ref 8), some (.int (Int32.ofInt a)), some (.int (Int32.ofInt b)), some (.int (Int32.ofInt d)), some (.int (Int32.ofInt ((s 14 b.toNat) - (s 14 a.toNat)))), some (.int (Int32.ofInt ((s 15 b.toNat) - (s 15 a.toNat)))), some (.int (Int32.ofInt v_18)), some (.int ((Int32.ofInt (s 14 a.toNat)) + v_20)), some (.int ((Int32.ofInt (s 15 a.toNat)) + v_21))]) (st' := [.int ((((Int32.ofInt (s 15 a.toNat)) + v_21) * (Int32.ofInt (s 8 9))) + ((Int32.ofInt (s 14 a.toNat)) + v_20)), .ref 8]) (σ' := (zN L X (zhi s) R G nc ns)) (fun n => rfl) ?_
                    obtain ⟨u26, ru26, eu26⟩ := zj_w ((((Int32.ofInt (s 15 a.toNat)) + v_21) * (Int32.ofInt (s 8 9))) + ((Int32.ofInt (s 14 a.toNat)) + v_20))
                    rw [eu26]
                    refine zW.callV rfl (by decide) rfl rfl rfl rfl rfl (Nat.le_of_ble_eq_true rfl) ?_
                    refine t_Ground_workOf S V (x := u26) (by omega) (fun v_27 f28 f29 => ?_)
                    show zW ro 68 170 [some (.ref 8), some (.int (Int32.ofInt a)), some (.int (Int32.ofInt b)), some (.int (Int32.ofInt d)), some (.int (Int32.ofInt ((s 14 b.toNat) - (s 14 a.toNat)))), some (.int (Int32.ofInt ((s 15 b.toNat) - (s 15 a.toNat)))), some (.int (Int32.ofInt v_18)), some (.int ((Int32.ofInt (s 14 a.toNat)) + v_20)), some (.int ((Int32.ofInt (s 15 a.toNat)) + v_21))] [.int (Int32.ofInt v_27)] (zN L X (zhi s) R G nc ns) Q
                    refine zW.run 1 (pc' := 171) (ls' := [some (.ref 8), some (.int (Int32.ofInt a)), some (.int (Int32.ofInt b)), some (.int (Int32.ofInt d)), some (.int (Int32.ofInt ((s 14 b.toNat) - (s 14 a.toNat)))), some (.int (Int32.ofInt ((s 15 b.toNat) - (s 15 a.toNat)))), some (.int (Int32.ofInt v_18)), some (.int ((Int32.ofInt (s 14 a.toNat)) + v_20)), some (.int ((Int32.ofInt (s 15 a.toNat)) + v_21))]) (st' := [.int (Int32.ofInt 5), .int (Int32.ofInt v_27)]) (σ' := (zN L X (zhi s) R G nc ns)) (fun n => rfl) ?_
                    refine zW.jcmp_ne rfl (by omega) (fun c30 => ?_) (fun c30 => ?_)
                    · skip
                      refine zW.run 1 (pc' := 179) (ls' := [some (.ref 8), some (.int (Int32.ofInt a)), some (.int (Int32.ofInt b)), some (.int (Int32.ofInt d)), some (.int (Int32.ofInt ((s 14 b.toNat) - (s 14 a.toNat)))), some (.int (Int32.ofInt ((s 15 b.toNat) - (s 15 a.toNat)))), some (.int (Int32.ofInt v_18)), some (.int ((Int32.ofInt (s 14 a.toNat)) + v_20)), some (.int ((Int32.ofInt (s 15 a.toNat)) + v_21))]) (st' := [.int (Int32.ofInt 0)]) (σ' := (zN L X (zhi s) R G nc ns)) (fun n => rfl) ?_
                      exact zW.jretb rfl rfl (by decide) hQ1
                    · skip
                      refine zW.run 2 (pc' := 179) (ls' := [some (.ref 8), some (.int (Int32.ofInt a)), some (.int (Int32.ofInt b)), some (.int (Int32.ofInt d)), some (.int (Int32.ofInt ((s 14 b.toNat) - (s 14 a.toNat)))), some (.int (Int32.ofInt ((s 15 b.toNat) - (s 15 a.toNat)))), some (.int (Int32.ofInt v_18)), some (.int ((Int32.ofInt (s 14 a.toNat)) + v_20)), some (.int ((Int32.ofInt (s 15 a.toNat)) + v_21))]) (st' := [.int (Int32.ofInt 1)]) (σ' := (zN L X (zhi s) R G nc ns)) (fun n => rfl) ?_
                      exact zW.jretb rfl rfl (by decide) hQ0
          · skip
            show zW ro 68 38 [some (.ref 8), some (.int (Int32.ofInt a)), some (.int (Int32.ofInt b)), some (.int (Int32.ofInt d)), none, none, none, none, none] [.int (Int32.ofInt 0)] (zN L X (zhi s) R G nc ns) Q
            refine zW.run 2 (pc' := 42) (ls' := [some (.ref 8), some (.int (Int32.ofInt a)), some (.int (Int32.ofInt b)), some (.int (Int32.ofInt d)), none, none, none, none, none]) (st' := [.int (Int32.ofInt 0)]) (σ' := (zN L X (zhi s) R G nc ns)) (fun n => rfl) ?_
            exact zW.jretb rfl rfl (by decide) hQ1
      · skip
        show zW ro 68 18 [some (.ref 8), some (.int (Int32.ofInt a)), some (.int (Int32.ofInt b)), some (.int (Int32.ofInt d)), none, none, none, none, none] [.int (Int32.ofInt 0)] (zN L X (zhi s) R G nc ns) Q
        refine zW.run 2 (pc' := 42) (ls' := [some (.ref 8), some (.int (Int32.ofInt a)), some (.int (Int32.ofInt b)), some (.int (Int32.ofInt d)), none, none, none, none, none]) (st' := [.int (Int32.ofInt 0)]) (σ' := (zN L X (zhi s) R G nc ns)) (fun n => rfl) ?_
        exact zW.jretb rfl rfl (by decide) hQ1
    · skip
      show zW ro 68 10 [some (.ref 8), some (.int (Int32.ofInt a)), some (.int (Int32.ofInt b)), some (.int (Int32.ofInt d)), none, none, none, none, none] [.int (Int32.ofInt 0)] (zN L X (zhi s) R G nc ns) Q
      refine zW.run 2 (pc' := 42) (ls' := [some (.ref 8), some (.int (Int32.ofInt a)), some (.int (Int32.ofInt b)), some (.int (Int32.ofInt d)), none, none, none, none, none]) (st' := [.int (Int32.ofInt 0)]) (σ' := (zN L X (zhi s) R G nc ns)) (fun n => rfl) ?_
      exact zW.jretb rfl rfl (by decide) hQ1
end ZB
