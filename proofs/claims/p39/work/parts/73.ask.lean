/-! methods that only ask: men, guns, mines (printed by program) -/
section ZB
variable {ro : Nat → Int32 → zS → Option (zO × zS)} {L : Nat} {X : zK} {s : zJ} {R : Nat → Nat → Option Nat} {G : Nat → Nat → Int64} {nc ns : Nat} {Q : zO → zS → Prop} {g : Nat → Int} {U F T B ph : Int}
theorem zsh {v c p : Int} (h : v ≤ p / c) (hc : 0 < c) : v * c ≤ p := Int.le_trans (Int.mul_le_mul_of_nonneg_right h (by omega)) (Int.ediv_mul_le p (by omega))
def zma (s : zJ) (d k : Int) (n : Nat) : Int := zsm (fun i => if 0 < s (42 + i) 2 ∧ s (42 + i) 0 = d ∧ s (42 + i) 1 = k then s (42 + i) 2 else 0) n
def zco (s : zJ) (d : Int) (n : Nat) : Int := zsm (fun i => if s (42 + i) 0 = d ∧ 0 < s (42 + i) 2 then 1 else 0) n
def zrg (s : zJ) (d : Int) (n : Nat) : Int := zsm (fun i => if s (26 + i) 0 = d ∧ s (26 + i) 5 = 0 then 1 else 0) n
theorem zma_s {s : zJ} {d k : Int} {i : Nat} : zma s d k (i + 1) = zma s d k i + (if 0 < s (42 + i) 2 ∧ s (42 + i) 0 = d ∧ s (42 + i) 1 = k then s (42 + i) 2 else 0) := rfl
theorem zmm_s {s : zJ} {d : Int} {i : Nat} : zmm s d (i + 1) = zmm s d i + (if s (42 + i) 0 = d then s (42 + i) 2 else 0) := rfl
theorem zco_s {s : zJ} {d : Int} {i : Nat} : zco s d (i + 1) = zco s d i + (if s (42 + i) 0 = d ∧ 0 < s (42 + i) 2 then 1 else 0) := rfl
theorem zrg_s {s : zJ} {d : Int} {i : Nat} : zrg s d (i + 1) = zrg s d i + (if s (26 + i) 0 = d ∧ s (26 + i) 5 = 0 then 1 else 0) := rfl
theorem zmc_s {s : zJ} {d : Int} {i : Nat} : zmc s d (i + 1) = zmc s d i + (if s (54 + 2 * i) 1 = d ∧ (s (54 + 2 * i) 6 = 0 ∨ s (54 + 2 * i) 6 = 1) then s (54 + 2 * i) 4 else 0) := rfl
theorem zfo_rg {m t o : Int} (h : (0 ≤ m ∧ m ≤ 200) ∧ (0 ≤ t ∧ t ≤ 12) ∧ (0 ≤ o ∧ o ≤ 100)) : 0 ≤ m * (14 - t) * (o + 50) ∧ m * (14 - t) * (o + 50) ≤ 420000 := by
  have h1 : 0 ≤ m * (14 - t) := Int.mul_nonneg h.1.1 (by omega)
  have h2 : m * (14 - t) ≤ 200 * 14 := Int.mul_le_mul h.1.2 (by omega) (by omega) (by omega)
  exact ⟨Int.mul_nonneg h1 (by omega), Int.mul_le_mul (c := 2800) (d := 150) h2 (by omega) (by omega) (by omega)⟩
set_option maxHeartbeats 4000000 in
theorem t_Company_isPlaced (S : zSR R) (V : zV g U F T B ph s) {i : Nat} (p0 : i < 12) (hQ0 : ¬ s (42 + i) 0 = -1 → Q (.inl (some (.int (Int32.ofInt 1)))) (zN L X (zhi s) R G nc ns)) (hQ1 : s (42 + i) 0 = -1 → Q (.inl (some (.int (Int32.ofInt 0)))) (zN L X (zhi s) R G nc ns)) : zW ro 35 0 (zfst [.ref (42 + i)] 1) [] (zN L X (zhi s) R G nc ns) Q := by
  show zW ro 35 0 [some (.ref (42 + i))] [] (zN L X (zhi s) R G nc ns) Q
  have f1 := zA_geo (zV_zA V)
  have hB0 := zV_B V
  refine zW.run 1 (pc' := 1) (ls' := [some (.ref (42 + i))]) (st' := [.ref (42 + i)]) (σ' := (zN L X (zhi s) R G nc ns)) (fun n => rfl) ?_
  have f2 := zV_com V (i := i) (by omega)
  refine zW.jget (v := (s (42 + i) 0)) rfl (zk_com (by omega)) (fun _ _ _ => rfl) rfl ?_
  refine zW.run 1 (pc' := 5) (ls' := [some (.ref (42 + i))]) (st' := [.int (Int32.ofInt (-1)), .int (Int32.ofInt (s (42 + i) 0))]) (σ' := (zN L X (zhi s) R G nc ns)) (fun n => rfl) ?_
  refine zW.jcmp_eq rfl (by omega) (fun c3 => ?_) (fun c3 => ?_)
  · skip
    refine zW.run 1 (pc' := 13) (ls' := [some (.ref (42 + i))]) (st' := [.int (Int32.ofInt 0)]) (σ' := (zN L X (zhi s) R G nc ns)) (fun n => rfl) ?_
    exact zW.jretb rfl rfl (by decide) (hQ1 (by omega))
  · skip
    refine zW.run 2 (pc' := 13) (ls' := [some (.ref (42 + i))]) (st' := [.int (Int32.ofInt 1)]) (σ' := (zN L X (zhi s) R G nc ns)) (fun n => rfl) ?_
    exact zW.jretb rfl rfl (by decide) (hQ0 (by omega))
set_option maxHeartbeats 4000000 in
theorem t_Company_isAt (S : zSR R) (V : zV g U F T B ph s) {i : Nat} {x : Int} {y : Int} (p0 : i < 12) (p1 : -2147483648 ≤ x ∧ x < 2147483648) (p2 : -2147483648 ≤ y ∧ y < 2147483648) (hQ0 : 0 < s (42 + i) 2 → s (42 + i) 0 = x → s (42 + i) 1 = y → Q (.inl (some (.int (Int32.ofInt 1)))) (zN L X (zhi s) R G nc ns)) (hQ1 : ¬ (0 < s (42 + i) 2 ∧ s (42 + i) 0 = x ∧ s (42 + i) 1 = y) → Q (.inl (some (.int (Int32.ofInt 0)))) (zN L X (zhi s) R G nc ns)) : zW ro 33 0 (zfst [.ref (42 + i), .int (Int32.ofInt x), .int (Int32.ofInt y)] 3) [] (zN L X (zhi s) R G nc ns) Q := by
  show zW ro 33 0 [some (.ref (42 + i)), some (.int (Int32.ofInt x)), some (.int (Int32.ofInt y))] [] (zN L X (zhi s) R G nc ns) Q
  have f1 := zA_geo (zV_zA V)
  have hB0 := zV_B V
  refine zW.run 1 (pc' := 1) (ls' := [some (.ref (42 + i)), some (.int (Int32.ofInt x)), some (.int (Int32.ofInt y))]) (st' := [.ref (42 + i)]) (σ' := (zN L X (zhi s) R G nc ns)) (fun n => rfl) ?_
  have f2 := zV_com V (i := i) (by omega)
  refine zW.jget (v := (s (42 + i) 2)) rfl (zk_com (by omega)) (fun _ _ _ => rfl) rfl ?_
  refine zW.jif_le rfl (by omega) (fun c3 => ?_) (fun c3 => ?_)
  · skip
    refine zW.run 1 (pc' := 28) (ls' := [some (.ref (42 + i)), some (.int (Int32.ofInt x)), some (.int (Int32.ofInt y))]) (st' := [.int (Int32.ofInt 0)]) (σ' := (zN L X (zhi s) R G nc ns)) (fun n => rfl) ?_
    exact zW.jretb rfl rfl (by decide) (hQ1 (by omega))
  · skip
    refine zW.run 1 (pc' := 8) (ls' := [some (.ref (42 + i)), some (.int (Int32.ofInt x)), some (.int (Int32.ofInt y))]) (st' := [.ref (42 + i)]) (σ' := (zN L X (zhi s) R G nc ns)) (fun n => rfl) ?_
    refine zW.jget (v := (s (42 + i) 0)) rfl (zk_com (by omega)) (fun _ _ _ => rfl) rfl ?_
    refine zW.run 1 (pc' := 12) (ls' := [some (.ref (42 + i)), some (.int (Int32.ofInt x)), some (.int (Int32.ofInt y))]) (st' := [.int (Int32.ofInt x), .int (Int32.ofInt (s (42 + i) 0))]) (σ' := (zN L X (zhi s) R G nc ns)) (fun n => rfl) ?_
    refine zW.jcmp_ne rfl (by omega) (fun c4 => ?_) (fun c4 => ?_)
    · skip
      refine zW.run 1 (pc' := 28) (ls' := [some (.ref (42 + i)), some (.int (Int32.ofInt x)), some (.int (Int32.ofInt y))]) (st' := [.int (Int32.ofInt 0)]) (σ' := (zN L X (zhi s) R G nc ns)) (fun n => rfl) ?_
      exact zW.jretb rfl rfl (by decide) (hQ1 (by omega))
    · skip
      refine zW.run 1 (pc' := 16) (ls' := [some (.ref (42 + i)), some (.int (Int32.ofInt x)), some (.int (Int32.ofInt y))]) (st' := [.ref (42 + i)]) (σ' := (zN L X (zhi s) R G nc ns)) (fun n => rfl) ?_
      refine zW.jget (v := (s (42 + i) 1)) rfl (zk_com (by omega)) (fun _ _ _ => rfl) rfl ?_
      refine zW.run 1 (pc' := 20) (ls' := [some (.ref (42 + i)), some (.int (Int32.ofInt x)), some (.int (Int32.ofInt y))]) (st' := [.int (Int32.ofInt y), .int (Int32.ofInt (s (42 + i) 1))]) (σ' := (zN L X (zhi s) R G nc ns)) (fun n => rfl) ?_
      refine zW.jcmp_ne rfl (by omega) (fun c5 => ?_) (fun c5 => ?_)
      · skip
        refine zW.run 1 (pc' := 28) (ls' := [some (.ref (42 + i)), some (.int (Int32.ofInt x)), some (.int (Int32.ofInt y))]) (st' := [.int (Int32.ofInt 0)]) (σ' := (zN L X (zhi s) R G nc ns)) (fun n => rfl) ?_
        exact zW.jretb rfl rfl (by decide) (hQ1 (by omega))
      · skip
        refine zW.run 2 (pc' := 28) (ls' := [some (.ref (42 + i)), some (.int (Int32.ofInt x)), some (.int (Int32.ofInt y))]) (st' := [.int (Int32.ofInt 1)]) (σ' := (zN L X (zhi s) R G nc ns)) (fun n => rfl) ?_
        exact zW.jretb rfl rfl (by decide) (hQ0 (by omega) (by omega) (by omega))
set_option maxHeartbeats 4000000 in
theorem t_Company_isAt_w (S : zSR R) (V : zV g U F T B ph s) {i : Nat} {x : Int} {y : Int} (p0 : i < 12) (p1 : -2147483648 ≤ x ∧ x < 2147483648) (p2 : -2147483648 ≤ y ∧ y < 2147483648) (hQ0 : 0 < s (42 + i) 2 → s (42 + i) 0 = x → s (42 + i) 1 = y → Q (.inl (some (.int (Int32.ofInt 1)))) (zN L X (zhi s) R G nc ns)) (hQ1 : Q (.inl (some (.int (Int32.ofInt 0)))) (zN L X (zhi s) R G nc ns)) : zW ro 33 0 (zfst [.ref (42 + i), .int (Int32.ofInt x), .int (Int32.ofInt y)] 3) [] (zN L X (zhi s) R G nc ns) Q := by
  show zW ro 33 0 [some (.ref (42 + i)), some (.int (Int32.ofInt x)), some (.int (Int32.ofInt y))] [] (zN L X (zhi s) R G nc ns) Q
  have f1 := zA_geo (zV_zA V)
  have hB0 := zV_B V
  refine zW.run 1 (pc' := 1) (ls' := [some (.ref (42 + i)), some (.int (Int32.ofInt x)), some (.int (Int32.ofInt y))]) (st' := [.ref (42 + i)]) (σ' := (zN L X (zhi s) R G nc ns)) (fun n => rfl) ?_
  have f2 := zV_com V (i := i) (by omega)
  refine zW.jget (v := (s (42 + i) 2)) rfl (zk_com (by omega)) (fun _ _ _ => rfl) rfl ?_
  refine zW.jif_le rfl (by omega) (fun c3 => ?_) (fun c3 => ?_)
  · skip
    refine zW.run 1 (pc' := 28) (ls' := [some (.ref (42 + i)), some (.int (Int32.ofInt x)), some (.int (Int32.ofInt y))]) (st' := [.int (Int32.ofInt 0)]) (σ' := (zN L X (zhi s) R G nc ns)) (fun n => rfl) ?_
    exact zW.jretb rfl rfl (by decide) hQ1
  · skip
    refine zW.run 1 (pc' := 8) (ls' := [some (.ref (42 + i)), some (.int (Int32.ofInt x)), some (.int (Int32.ofInt y))]) (st' := [.ref (42 + i)]) (σ' := (zN L X (zhi s) R G nc ns)) (fun n => rfl) ?_
    refine zW.jget (v := (s (42 + i) 0)) rfl (zk_com (by omega)) (fun _ _ _ => rfl) rfl ?_
    refine zW.run 1 (pc' := 12) (ls' := [some (.ref (42 + i)), some (.int (Int32.ofInt x)), some (.int (Int32.ofInt y))]) (st' := [.int (Int32.ofInt x), .int (Int32.ofInt (s (42 + i) 0))]) (σ' := (zN L X (zhi s) R G nc ns)) (fun n => rfl) ?_
    refine zW.jcmp_ne rfl (by omega) (fun c4 => ?_) (fun c4 => ?_)
    · skip
      refine zW.run 1 (pc' := 28) (ls' := [some (.ref (42 + i)), some (.int (Int32.ofInt x)), some (.int (Int32.ofInt y))]) (st' := [.int (Int32.ofInt 0)]) (σ' := (zN L X (zhi s) R G nc ns)) (fun n => rfl) ?_
      exact zW.jretb rfl rfl (by decide) hQ1
    · skip
      refine zW.run 1 (pc' := 16) (ls' := [some (.ref (42 + i)), some (.int (Int32.ofInt x)), some (.int (Int32.ofInt y))]) (st' := [.ref (42 + i)]) (σ' := (zN L X (zhi s) R G nc ns)) (fun n => rfl) ?_
      refine zW.jget (v := (s (42 + i) 1)) rfl (zk_com (by omega)) (fun _ _ _ => rfl) rfl ?_
      refine zW.run 1 (pc' := 20) (ls' := [some (.ref (42 + i)), some (.int (Int32.ofInt x)), some (.int (Int32.ofInt y))]) (st' := [.int (Int32.ofInt y), .int (Int32.ofInt (s (42 + i) 1))]) (σ' := (zN L X (zhi s) R G nc ns)) (fun n => rfl) ?_
      refine zW.jcmp_ne rfl (by omega) (fun c5 => ?_) (fun c5 => ?_)
      · skip
        refine zW.run 1 (pc' := 28) (ls' := [some (.ref (42 + i)), some (.int (Int32.ofInt x)), some (.int (Int32.ofInt y))]) (st' := [.int (Int32.ofInt 0)]) (σ' := (zN L X (zhi s) R G nc ns)) (fun n => rfl) ?_
        exact zW.jretb rfl rfl (by decide) hQ1
      · skip
        refine zW.run 2 (pc' := 28) (ls' := [some (.ref (42 + i)), some (.int (Int32.ofInt x)), some (.int (Int32.ofInt y))]) (st' := [.int (Int32.ofInt 1)]) (σ' := (zN L X (zhi s) R G nc ns)) (fun n => rfl) ?_
        exact zW.jretb rfl rfl (by decide) (hQ0 (by omega) (by omega) (by omega))
set_option maxHeartbeats 4000000 in
theorem t_Company_isOnGuard (S : zSR R) (V : zV g U F T B ph s) {i : Nat} (p0 : i < 12) (hQ0 : Q (.inl (some (.int (Int32.ofInt 1)))) (zN L X (zhi s) R G nc ns)) (hQ1 : Q (.inl (some (.int (Int32.ofInt 0)))) (zN L X (zhi s) R G nc ns)) : zW ro 34 0 (zfst [.ref (42 + i)] 1) [] (zN L X (zhi s) R G nc ns) Q := by
  show zW ro 34 0 [some (.ref (42 + i))] [] (zN L X (zhi s) R G nc ns) Q
  have f1 := zA_geo (zV_zA V)
  have hB0 := zV_B V
  refine zW.run 1 (pc' := 1) (ls' := [some (.ref (42 + i))]) (st' := [.ref (42 + i)]) (σ' := (zN L X (zhi s) R G nc ns)) (fun n => rfl) ?_
  have f2 := zV_com V (i := i) (by omega)
  refine zW.jget (v := (s (42 + i) 2)) rfl (zk_com (by omega)) (fun _ _ _ => rfl) rfl ?_
  refine zW.jif_le rfl (by omega) (fun c3 => ?_) (fun c3 => ?_)
  · skip
    refine zW.run 1 (pc' := 29) (ls' := [some (.ref (42 + i))]) (st' := [.int (Int32.ofInt 0)]) (σ' := (zN L X (zhi s) R G nc ns)) (fun n => rfl) ?_
    exact zW.jretb rfl rfl (by decide) hQ1
  · skip
    refine zW.run 1 (pc' := 8) (ls' := [some (.ref (42 + i))]) (st' := [.ref (42 + i)]) (σ' := (zN L X (zhi s) R G nc ns)) (fun n => rfl) ?_
    refine zW.jget (v := (s (42 + i) 4)) rfl (zk_com (by omega)) (fun _ _ _ => rfl) rfl ?_
    refine zW.run 1 (pc' := 12) (ls' := [some (.ref (42 + i))]) (st' := [.int (Int32.ofInt 2), .int (Int32.ofInt (s (42 + i) 4))]) (σ' := (zN L X (zhi s) R G nc ns)) (fun n => rfl) ?_
    refine zW.jcmp_ne rfl (by omega) (fun c4 => ?_) (fun c4 => ?_)
    · skip
      refine zW.run 1 (pc' := 29) (ls' := [some (.ref (42 + i))]) (st' := [.int (Int32.ofInt 0)]) (σ' := (zN L X (zhi s) R G nc ns)) (fun n => rfl) ?_
      exact zW.jretb rfl rfl (by decide) hQ1
    · skip
      refine zW.run 1 (pc' := 16) (ls' := [some (.ref (42 + i))]) (st' := [.ref (42 + i)]) (σ' := (zN L X (zhi s) R G nc ns)) (fun n => rfl) ?_
      refine zW.jget (v := (s (42 + i) 3)) rfl (zk_com (by omega)) (fun _ _ _ => rfl) rfl ?_
      refine zW.run 1 (pc' := 21) (ls' := [some (.ref (42 + i))]) (st' := [.int (Int32.ofInt 10), .int (Int32.ofInt (s (42 + i) 3))]) (σ' := (zN L X (zhi s) R G nc ns)) (fun n => rfl) ?_
      refine zW.jcmp_ge rfl (by omega) (fun c5 => ?_) (fun c5 => ?_)
      · skip
        refine zW.run 1 (pc' := 29) (ls' := [some (.ref (42 + i))]) (st' := [.int (Int32.ofInt 0)]) (σ' := (zN L X (zhi s) R G nc ns)) (fun n => rfl) ?_
        exact zW.jretb rfl rfl (by decide) hQ1
      · skip
        refine zW.run 2 (pc' := 29) (ls' := [some (.ref (42 + i))]) (st' := [.int (Int32.ofInt 1)]) (σ' := (zN L X (zhi s) R G nc ns)) (fun n => rfl) ?_
        exact zW.jretb rfl rfl (by decide) hQ0
set_option maxHeartbeats 4000000 in
theorem t_Gun_isPlaced (S : zSR R) (V : zV g U F T B ph s) {i : Nat} (p0 : i < 16) (hQ0 : ¬ s (26 + i) 0 = -1 → Q (.inl (some (.int (Int32.ofInt 1)))) (zN L X (zhi s) R G nc ns)) (hQ1 : s (26 + i) 0 = -1 → Q (.inl (some (.int (Int32.ofInt 0)))) (zN L X (zhi s) R G nc ns)) : zW ro 83 0 (zfst [.ref (26 + i)] 1) [] (zN L X (zhi s) R G nc ns) Q := by
  show zW ro 83 0 [some (.ref (26 + i))] [] (zN L X (zhi s) R G nc ns) Q
  have f1 := zA_geo (zV_zA V)
  have hB0 := zV_B V
  refine zW.run 1 (pc' := 1) (ls' := [some (.ref (26 + i))]) (st' := [.ref (26 + i)]) (σ' := (zN L X (zhi s) R G nc ns)) (fun n => rfl) ?_
  have f2 := zV_gun V (i := i) (by omega)
  refine zW.jget (v := (s (26 + i) 0)) rfl (zk_gun (by omega)) (fun _ _ _ => rfl) rfl ?_
  refine zW.run 1 (pc' := 5) (ls' := [some (.ref (26 + i))]) (st' := [.int (Int32.ofInt (-1)), .int (Int32.ofInt (s (26 + i) 0))]) (σ' := (zN L X (zhi s) R G nc ns)) (fun n => rfl) ?_
  refine zW.jcmp_eq rfl (by omega) (fun c3 => ?_) (fun c3 => ?_)
  · skip
    refine zW.run 1 (pc' := 13) (ls' := [some (.ref (26 + i))]) (st' := [.int (Int32.ofInt 0)]) (σ' := (zN L X (zhi s) R G nc ns)) (fun n => rfl) ?_
    exact zW.jretb rfl rfl (by decide) (hQ1 (by omega))
  · skip
    refine zW.run 2 (pc' := 13) (ls' := [some (.ref (26 + i))]) (st' := [.int (Int32.ofInt 1)]) (σ' := (zN L X (zhi s) R G nc ns)) (fun n => rfl) ?_
    exact zW.jretb rfl rfl (by decide) (hQ0 (by omega))
set_option maxHeartbeats 4000000 in
theorem t_Gun_isReadyOf (S : zSR R) (V : zV g U F T B ph s) {i : Nat} {x : Int} (p0 : i < 16) (p1 : -2147483648 ≤ x ∧ x < 2147483648) (hQ0 : s (26 + i) 0 = x → s (26 + i) 5 = 0 → Q (.inl (some (.int (Int32.ofInt 1)))) (zN L X (zhi s) R G nc ns)) (hQ1 : ¬ (s (26 + i) 0 = x ∧ s (26 + i) 5 = 0) → Q (.inl (some (.int (Int32.ofInt 0)))) (zN L X (zhi s) R G nc ns)) : zW ro 84 0 (zfst [.ref (26 + i), .int (Int32.ofInt x)] 2) [] (zN L X (zhi s) R G nc ns) Q := by
  show zW ro 84 0 [some (.ref (26 + i)), some (.int (Int32.ofInt x))] [] (zN L X (zhi s) R G nc ns) Q
  have f1 := zA_geo (zV_zA V)
  have hB0 := zV_B V
  refine zW.run 1 (pc' := 1) (ls' := [some (.ref (26 + i)), some (.int (Int32.ofInt x))]) (st' := [.ref (26 + i)]) (σ' := (zN L X (zhi s) R G nc ns)) (fun n => rfl) ?_
  have f2 := zV_gun V (i := i) (by omega)
  refine zW.jget (v := (s (26 + i) 0)) rfl (zk_gun (by omega)) (fun _ _ _ => rfl) rfl ?_
  refine zW.run 1 (pc' := 5) (ls' := [some (.ref (26 + i)), some (.int (Int32.ofInt x))]) (st' := [.int (Int32.ofInt x), .int (Int32.ofInt (s (26 + i) 0))]) (σ' := (zN L X (zhi s) R G nc ns)) (fun n => rfl) ?_
  refine zW.jcmp_ne rfl (by omega) (fun c3 => ?_) (fun c3 => ?_)
  · skip
    refine zW.run 1 (pc' := 20) (ls' := [some (.ref (26 + i)), some (.int (Int32.ofInt x))]) (st' := [.int (Int32.ofInt 0)]) (σ' := (zN L X (zhi s) R G nc ns)) (fun n => rfl) ?_
    exact zW.jretb rfl rfl (by decide) (hQ1 (by omega))
  · skip
    refine zW.run 1 (pc' := 9) (ls' := [some (.ref (26 + i)), some (.int (Int32.ofInt x))]) (st' := [.ref (26 + i)]) (σ' := (zN L X (zhi s) R G nc ns)) (fun n => rfl) ?_
    refine zW.jget (v := (s (26 + i) 5)) rfl (zk_gun (by omega)) (fun _ _ _ => rfl) rfl ?_
    refine zW.jif_ne rfl (by omega) (fun c4 => ?_) (fun c4 => ?_)
    · skip
      refine zW.run 1 (pc' := 20) (ls' := [some (.ref (26 + i)), some (.int (Int32.ofInt x))]) (st' := [.int (Int32.ofInt 0)]) (σ' := (zN L X (zhi s) R G nc ns)) (fun n => rfl) ?_
      exact zW.jretb rfl rfl (by decide) (hQ1 (by omega))
    · skip
      refine zW.run 2 (pc' := 20) (ls' := [some (.ref (26 + i)), some (.int (Int32.ofInt x))]) (st' := [.int (Int32.ofInt 1)]) (σ' := (zN L X (zhi s) R G nc ns)) (fun n => rfl) ?_
      exact zW.jretb rfl rfl (by decide) (hQ0 (by omega) (by omega))
set_option maxHeartbeats 4000000 in
theorem t_Mine_isBegun (S : zSR R) (V : zV g U F T B ph s) {i : Nat} (p0 : i < 6) (hQ0 : ¬ s (54 + 2 * i) 1 = -1 → Q (.inl (some (.int (Int32.ofInt 1)))) (zN L X (zhi s) R G nc ns)) (hQ1 : s (54 + 2 * i) 1 = -1 → Q (.inl (some (.int (Int32.ofInt 0)))) (zN L X (zhi s) R G nc ns)) : zW ro 104 0 (zfst [.ref (54 + 2 * i)] 1) [] (zN L X (zhi s) R G nc ns) Q := by
  show zW ro 104 0 [some (.ref (54 + 2 * i))] [] (zN L X (zhi s) R G nc ns) Q
  have f1 := zA_geo (zV_zA V)
  have hB0 := zV_B V
  refine zW.run 1 (pc' := 1) (ls' := [some (.ref (54 + 2 * i))]) (st' := [.ref (54 + 2 * i)]) (σ' := (zN L X (zhi s) R G nc ns)) (fun n => rfl) ?_
  have f2 := zV_min V (i := i) (by omega)
  refine zW.jget (v := (s (54 + 2 * i) 1)) rfl (zk_min (by omega)) (fun _ _ _ => rfl) rfl ?_
  refine zW.run 1 (pc' := 5) (ls' := [some (.ref (54 + 2 * i))]) (st' := [.int (Int32.ofInt (-1)), .int (Int32.ofInt (s (54 + 2 * i) 1))]) (σ' := (zN L X (zhi s) R G nc ns)) (fun n => rfl) ?_
  refine zW.jcmp_eq rfl (by omega) (fun c3 => ?_) (fun c3 => ?_)
  · skip
    refine zW.run 1 (pc' := 13) (ls' := [some (.ref (54 + 2 * i))]) (st' := [.int (Int32.ofInt 0)]) (σ' := (zN L X (zhi s) R G nc ns)) (fun n => rfl) ?_
    exact zW.jretb rfl rfl (by decide) (hQ1 (by omega))
  · skip
    refine zW.run 2 (pc' := 13) (ls' := [some (.ref (54 + 2 * i))]) (st' := [.int (Int32.ofInt 1)]) (σ' := (zN L X (zhi s) R G nc ns)) (fun n => rfl) ?_
    exact zW.jretb rfl rfl (by decide) (hQ0 (by omega))
set_option maxHeartbeats 4000000 in
theorem t_Mine_isWhole (S : zSR R) (V : zV g U F T B ph s) {i : Nat} (p0 : i < 6) (hQ0 : ¬ s (54 + 2 * i) 1 = -1 → s (54 + 2 * i) 6 = 0 ∨ s (54 + 2 * i) 6 = 1 → Q (.inl (some (.int (Int32.ofInt 1)))) (zN L X (zhi s) R G nc ns)) (hQ1 : s (54 + 2 * i) 1 = -1 ∨ ¬ (s (54 + 2 * i) 6 = 0 ∨ s (54 + 2 * i) 6 = 1) → Q (.inl (some (.int (Int32.ofInt 0)))) (zN L X (zhi s) R G nc ns)) : zW ro 105 0 (zfst [.ref (54 + 2 * i)] 1) [] (zN L X (zhi s) R G nc ns) Q := by
  show zW ro 105 0 [some (.ref (54 + 2 * i))] [] (zN L X (zhi s) R G nc ns) Q
  have f1 := zA_geo (zV_zA V)
  have hB0 := zV_B V
  refine zW.run 1 (pc' := 1) (ls' := [some (.ref (54 + 2 * i))]) (st' := [.ref (54 + 2 * i)]) (σ' := (zN L X (zhi s) R G nc ns)) (fun n => rfl) ?_
  have f2 := zV_min V (i := i) (by omega)
  refine zW.jget (v := (s (54 + 2 * i) 1)) rfl (zk_min (by omega)) (fun _ _ _ => rfl) rfl ?_
  refine zW.run 1 (pc' := 5) (ls' := [some (.ref (54 + 2 * i))]) (st' := [.int (Int32.ofInt (-1)), .int (Int32.ofInt (s (54 + 2 * i) 1))]) (σ' := (zN L X (zhi s) R G nc ns)) (fun n => rfl) ?_
  refine zW.jcmp_eq rfl (by omega) (fun c3 => ?_) (fun c3 => ?_)
  · skip
    refine zW.run 1 (pc' := 28) (ls' := [some (.ref (54 + 2 * i))]) (st' := [.int (Int32.ofInt 0)]) (σ' := (zN L X (zhi s) R G nc ns)) (fun n => rfl) ?_
    exact zW.jretb rfl rfl (by decide) (hQ1 (by omega))
  · skip
    refine zW.run 1 (pc' := 9) (ls' := [some (.ref (54 + 2 * i))]) (st' := [.ref (54 + 2 * i)]) (σ' := (zN L X (zhi s) R G nc ns)) (fun n => rfl) ?_
    refine zW.jget (v := (s (54 + 2 * i) 6)) rfl (zk_min (by omega)) (fun _ _ _ => rfl) rfl ?_
    refine zW.jif_eq rfl (by omega) (fun c4 => ?_) (fun c4 => ?_)
    · skip
      refine zW.run 2 (pc' := 28) (ls' := [some (.ref (54 + 2 * i))]) (st' := [.int (Int32.ofInt 1)]) (σ' := (zN L X (zhi s) R G nc ns)) (fun n => rfl) ?_
      exact zW.jretb rfl rfl (by decide) (hQ0 (by omega) (by omega))
    · skip
      refine zW.run 1 (pc' := 16) (ls' := [some (.ref (54 + 2 * i))]) (st' := [.ref (54 + 2 * i)]) (σ' := (zN L X (zhi s) R G nc ns)) (fun n => rfl) ?_
      refine zW.jget (v := (s (54 + 2 * i) 6)) rfl (zk_min (by omega)) (fun _ _ _ => rfl) rfl ?_
      refine zW.run 1 (pc' := 20) (ls' := [some (.ref (54 + 2 * i))]) (st' := [.int (Int32.ofInt 1), .int (Int32.ofInt (s (54 + 2 * i) 6))]) (σ' := (zN L X (zhi s) R G nc ns)) (fun n => rfl) ?_
      refine zW.jcmp_ne rfl (by omega) (fun c5 => ?_) (fun c5 => ?_)
      · skip
        refine zW.run 1 (pc' := 28) (ls' := [some (.ref (54 + 2 * i))]) (st' := [.int (Int32.ofInt 0)]) (σ' := (zN L X (zhi s) R G nc ns)) (fun n => rfl) ?_
        exact zW.jretb rfl rfl (by decide) (hQ1 (by omega))
      · skip
        refine zW.run 2 (pc' := 28) (ls' := [some (.ref (54 + 2 * i))]) (st' := [.int (Int32.ofInt 1)]) (σ' := (zN L X (zhi s) R G nc ns)) (fun n => rfl) ?_
        exact zW.jretb rfl rfl (by decide) (hQ0 (by omega) (by omega))
set_option maxHeartbeats 4000000 in
theorem t_Mine_mouth (S : zSR R) (V : zV g U F T B ph s) {i : Nat} (p0 : i < 6) (hQ0 : ∀ (v : Int), -1 ≤ v ∧ v < g 2 → Q (.inl (some (.int (Int32.ofInt v)))) (zN L X (zhi s) R G nc ns)) : zW ro 106 0 (zfst [.ref (54 + 2 * i)] 1) [] (zN L X (zhi s) R G nc ns) Q := by
  show zW ro 106 0 [some (.ref (54 + 2 * i))] [] (zN L X (zhi s) R G nc ns) Q
  have f1 := zA_geo (zV_zA V)
  have hB0 := zV_B V
  refine zW.run 1 (pc' := 1) (ls' := [some (.ref (54 + 2 * i))]) (st' := [.ref (54 + 2 * i)]) (σ' := (zN L X (zhi s) R G nc ns)) (fun n => rfl) ?_
  have f2 := zV_min V (i := i) (by omega)
  refine zW.jget (v := (s (54 + 2 * i) 2)) rfl (zk_min (by omega)) (fun _ _ _ => rfl) rfl ?_
  refine zW.jif_le rfl (by omega) (fun c3 => ?_) (fun c3 => ?_)
  · skip
    refine zW.run 1 (pc' := 17) (ls' := [some (.ref (54 + 2 * i))]) (st' := [.int (Int32.ofInt (-1))]) (σ' := (zN L X (zhi s) R G nc ns)) (fun n => rfl) ?_
    exact zW.jret rfl rfl (hQ0 (-1) (by omega))
  · skip
    refine zW.run 1 (pc' := 8) (ls' := [some (.ref (54 + 2 * i))]) (st' := [.ref (54 + 2 * i)]) (σ' := (zN L X (zhi s) R G nc ns)) (fun n => rfl) ?_
    refine zW.getf (v := .ref (55 + 2 * i)) rfl (zk_min (by omega)) (zr_mrow S (by omega)) ?_
    refine zW.run 1 (pc' := 12) (ls' := [some (.ref (54 + 2 * i))]) (st' := [.int (Int32.ofInt 0), .ref (55 + 2 * i)]) (σ' := (zN L X (zhi s) R G nc ns)) (fun n => rfl) ?_
    refine zW.jald (n := 6) (v := (s (55 + 2 * i) 0)) rfl (zk_mrow (by omega)) (by decide) (by omega) rfl ?_
    have f4 := zV_mrw V (i := i) (j := 0) (by omega) (by omega)
    refine zW.run 1 (pc' := 17) (ls' := [some (.ref (54 + 2 * i))]) (st' := [.int (Int32.ofInt (s (55 + 2 * i) 0))]) (σ' := (zN L X (zhi s) R G nc ns)) (fun n => rfl) ?_
    exact zW.jret rfl rfl (hQ0 (s (55 + 2 * i) 0) (by omega))
set_option maxHeartbeats 4000000 in
theorem t_Mine_head (S : zSR R) (V : zV g U F T B ph s) {i : Nat} (p0 : i < 6) (hQ0 : ∀ (v : Int), -1 ≤ v ∧ v < g 2 → Q (.inl (some (.int (Int32.ofInt v)))) (zN L X (zhi s) R G nc ns)) : zW ro 103 0 (zfst [.ref (54 + 2 * i)] 1) [] (zN L X (zhi s) R G nc ns) Q := by
  show zW ro 103 0 [some (.ref (54 + 2 * i))] [] (zN L X (zhi s) R G nc ns) Q
  have f1 := zA_geo (zV_zA V)
  have hB0 := zV_B V
  refine zW.run 1 (pc' := 1) (ls' := [some (.ref (54 + 2 * i))]) (st' := [.ref (54 + 2 * i)]) (σ' := (zN L X (zhi s) R G nc ns)) (fun n => rfl) ?_
  have f2 := zV_min V (i := i) (by omega)
  refine zW.jget (v := (s (54 + 2 * i) 2)) rfl (zk_min (by omega)) (fun _ _ _ => rfl) rfl ?_
  refine zW.jif_le rfl (by omega) (fun c3 => ?_) (fun c3 => ?_)
  · skip
    refine zW.run 1 (pc' := 31) (ls' := [some (.ref (54 + 2 * i))]) (st' := [.int (Int32.ofInt (-1))]) (σ' := (zN L X (zhi s) R G nc ns)) (fun n => rfl) ?_
    exact zW.jret rfl rfl (hQ0 (-1) (by omega))
  · skip
    refine zW.run 1 (pc' := 8) (ls' := [some (.ref (54 + 2 * i))]) (st' := [.ref (54 + 2 * i)]) (σ' := (zN L X (zhi s) R G nc ns)) (fun n => rfl) ?_
    refine zW.jget (v := (s (54 + 2 * i) 2)) rfl (zk_min (by omega)) (fun _ _ _ => rfl) rfl ?_
    refine zW.run 1 (pc' := 13) (ls' := [some (.ref (54 + 2 * i))]) (st' := [.int (Int32.ofInt 6), .int (Int32.ofInt (s (54 + 2 * i) 2))]) (σ' := (zN L X (zhi s) R G nc ns)) (fun n => rfl) ?_
    refine zW.jcmp_gt rfl (by omega) (fun c4 => ?_) (fun c4 => ?_)
    · skip
      refine zW.run 1 (pc' := 31) (ls' := [some (.ref (54 + 2 * i))]) (st' := [.int (Int32.ofInt (-1))]) (σ' := (zN L X (zhi s) R G nc ns)) (fun n => rfl) ?_
      exact zW.jret rfl rfl (hQ0 (-1) (by omega))
    · skip
      refine zW.run 1 (pc' := 17) (ls' := [some (.ref (54 + 2 * i))]) (st' := [.ref (54 + 2 * i)]) (σ' := (zN L X (zhi s) R G nc ns)) (fun n => rfl) ?_
      refine zW.getf (v := .ref (55 + 2 * i)) rfl (zk_min (by omega)) (zr_mrow S (by omega)) ?_
      refine zW.run 1 (pc' := 21) (ls' := [some (.ref (54 + 2 * i))]) (st' := [.ref (54 + 2 * i), .ref (55 + 2 * i)]) (σ' := (zN L X (zhi s) R G nc ns)) (fun n => rfl) ?_
      refine zW.jget (v := (s (54 + 2 * i) 2)) rfl (zk_min (by omega)) (fun _ _ _ => rfl) rfl ?_
      refine zW.run 1 (pc' := 25) (ls' := [some (.ref (54 + 2 * i))]) (st' := [.int (Int32.ofInt 1), .int (Int32.ofInt (s (54 + 2 * i) 2)), .ref (55 + 2 * i)]) (σ' := (zN L X (zhi s) R G nc ns)) (fun n => rfl) ?_
      refine zW.jsub rfl ?_
      refine zW.jald (n := 6) (v := (s (55 + 2 * i) (((s (54 + 2 * i) 2) - 1).toNat))) rfl (zk_mrow (by omega)) (by decide) (by omega) rfl ?_
      have f5 := zV_mrw V (i := i) (j := ((s (54 + 2 * i) 2) - 1).toNat) (by omega) (by omega)
      refine zW.run 1 (pc' := 31) (ls' := [some (.ref (54 + 2 * i))]) (st' := [.int (Int32.ofInt (s (55 + 2 * i) (((s (54 + 2 * i) 2) - 1).toNat)))]) (σ' := (zN L X (zhi s) R G nc ns)) (fun n => rfl) ?_
      exact zW.jret rfl rfl (hQ0 (s (55 + 2 * i) (((s (54 + 2 * i) 2) - 1).toNat)) (by omega))
set_option maxHeartbeats 4000000 in
theorem t_Siege_of_0 (S : zSR R)   (hQ0 : Q (.inl (some (.ref 21))) (zN L X (zhi s) R G nc ns)) : zW ro 150 0 (zfst [.ref 7, .int (Int32.ofInt 0)] 2) [] (zN L X (zhi s) R G nc ns) Q := by
  show zW ro 150 0 [some (.ref 7), some (.int (Int32.ofInt 0))] [] (zN L X (zhi s) R G nc ns) Q
  refine zW.run 4 (pc' := 13) (ls' := [some (.ref 7), some (.int (Int32.ofInt 0))]) (st' := [.ref 7]) (σ' := (zN L X (zhi s) R G nc ns)) (fun n => rfl) ?_
  refine zW.getf (v := .ref 21) rfl rfl (zr_7_4 S) ?_
  exact zW.aret rfl hQ0
set_option maxHeartbeats 4000000 in
theorem t_Siege_of_1 (S : zSR R)   (hQ0 : Q (.inl (some (.ref 22))) (zN L X (zhi s) R G nc ns)) : zW ro 150 0 (zfst [.ref 7, .int (Int32.ofInt 1)] 2) [] (zN L X (zhi s) R G nc ns) Q := by
  show zW ro 150 0 [some (.ref 7), some (.int (Int32.ofInt 1))] [] (zN L X (zhi s) R G nc ns) Q
  refine zW.run 4 (pc' := 6) (ls' := [some (.ref 7), some (.int (Int32.ofInt 1))]) (st' := [.ref 7]) (σ' := (zN L X (zhi s) R G nc ns)) (fun n => rfl) ?_
  refine zW.getf (v := .ref 22) rfl rfl (zr_7_5 S) ?_
  refine zW.run 1 (pc' := 16) (ls' := [some (.ref 7), some (.int (Int32.ofInt 1))]) (st' := [.ref 22]) (σ' := (zN L X (zhi s) R G nc ns)) (fun n => rfl) ?_
  exact zW.aret rfl hQ0
set_option maxHeartbeats 4000000 in
theorem t_Siege_of (S : zSR R) {x : Int} (p0 : -2147483648 ≤ x ∧ x < 2147483648) (hQ0 : ∀ (o : Nat), x = 1 ∧ o = 22 ∨ ¬ x = 1 ∧ o = 21 → Q (.inl (some (.ref o))) (zN L X (zhi s) R G nc ns)) : zW ro 150 0 (zfst [.ref 7, .int (Int32.ofInt x)] 2) [] (zN L X (zhi s) R G nc ns) Q := by
  show zW ro 150 0 [some (.ref 7), some (.int (Int32.ofInt x))] [] (zN L X (zhi s) R G nc ns) Q
  refine zW.run 2 (pc' := 2) (ls' := [some (.ref 7), some (.int (Int32.ofInt x))]) (st' := [.int (Int32.ofInt 1), .int (Int32.ofInt x)]) (σ' := (zN L X (zhi s) R G nc ns)) (fun n => rfl) ?_
  refine zW.jcmp_ne rfl (by omega) (fun c1 => ?_) (fun c1 => ?_)
  · skip
    refine zW.run 1 (pc' := 13) (ls' := [some (.ref 7), some (.int (Int32.ofInt x))]) (st' := [.ref 7]) (σ' := (zN L X (zhi s) R G nc ns)) (fun n => rfl) ?_
    refine zW.getf (v := .ref 21) rfl rfl (zr_7_4 S) ?_
    exact zW.aret rfl (hQ0 21 (by omega))
  · skip
    refine zW.run 1 (pc' := 6) (ls' := [some (.ref 7), some (.int (Int32.ofInt x))]) (st' := [.ref 7]) (σ' := (zN L X (zhi s) R G nc ns)) (fun n => rfl) ?_
    refine zW.getf (v := .ref 22) rfl rfl (zr_7_5 S) ?_
    refine zW.run 1 (pc' := 16) (ls' := [some (.ref 7), some (.int (Int32.ofInt x))]) (st' := [.ref 22]) (σ' := (zN L X (zhi s) R G nc ns)) (fun n => rfl) ?_
    exact zW.aret rfl (hQ0 22 (by omega))
set_option maxHeartbeats 4000000 in
theorem t_Siege_isHeldBy (S : zSR R) (V : zV g U F T B ph s) {x : Int} {y : Int} (p0 : -2147483648 ≤ x ∧ x < 2147483648) (p1 : -2147483648 ≤ y ∧ y < 2147483648) (hQ0 : Q (.inl (some (.int (Int32.ofInt 1)))) (zN L X (zhi s) R G nc ns)) (hQ1 : Q (.inl (some (.int (Int32.ofInt 0)))) (zN L X (zhi s) R G nc ns)) : zW ro 142 0 (zfst [.ref 7, .int (Int32.ofInt x), .int (Int32.ofInt y)] 7) [] (zN L X (zhi s) R G nc ns) Q := by
  show zW ro 142 0 [some (.ref 7), some (.int (Int32.ofInt x)), some (.int (Int32.ofInt y)), none, none, none, none] [] (zN L X (zhi s) R G nc ns) Q
  have f1 := zA_geo (zV_zA V)
  have hB0 := zV_B V
  refine zW.run 1 (pc' := 1) (ls' := [some (.ref 7), some (.int (Int32.ofInt x)), some (.int (Int32.ofInt y)), none, none, none, none]) (st' := [.ref 7]) (σ' := (zN L X (zhi s) R G nc ns)) (fun n => rfl) ?_
  refine zW.getf (v := .ref 19) rfl rfl (zr_7_2 S) ?_
  refine zW.run 2 (pc' := 6) (ls' := [some (.ref 7), some (.int (Int32.ofInt x)), some (.int (Int32.ofInt y)), some (.ref 19), none, none, none]) (st' := [.ref 19]) (σ' := (zN L X (zhi s) R G nc ns)) (fun n => rfl) ?_
  refine zW.alen rfl rfl (by decide) ?_
  show zW ro 142 7 [some (.ref 7), some (.int (Int32.ofInt x)), some (.int (Int32.ofInt y)), some (.ref 19), none, none, none] [.int (Int32.ofInt 12)] (zN L X (zhi s) R G nc ns) Q
  refine zW.run 3 (pc' := 12) (ls' := [some (.ref 7), some (.int (Int32.ofInt x)), some (.int (Int32.ofInt y)), some (.ref 19), some (.int (Int32.ofInt 12)), some (.int (Int32.ofInt 0)), none]) (st' := []) (σ' := (zN L X (zhi s) R G nc ns)) (fun n => rfl) ?_
  have J5 : ∀ m : Nat, ∀ (i_2 : Nat) (w3 : Option Value), i_2 ≤ 12 → 13 - i_2 < m → zW ro 142 12 [some (.ref 7), some (.int (Int32.ofInt x)), some (.int (Int32.ofInt y)), some (.ref 19), some (.int (Int32.ofInt 12)), some (.int (Int32.ofInt (i_2 : Int))), w3] [] (zN L X (zhi s) R G nc ns) Q := by
    intro m
    induction m with
    | zero => intros; omega
    | succ m ih6 =>
      intro i_2 w3 c4 hm7
      refine zW.run 2 (pc' := 16) (ls' := [some (.ref 7), some (.int (Int32.ofInt x)), some (.int (Int32.ofInt y)), some (.ref 19), some (.int (Int32.ofInt 12)), some (.int (Int32.ofInt (i_2 : Int))), w3]) (st' := [.int (Int32.ofInt 12), .int (Int32.ofInt (i_2 : Int))]) (σ' := (zN L X (zhi s) R G nc ns)) (fun n => rfl) ?_
      refine zW.jcmp_ge rfl (by omega) (fun c8 => ?_) (fun c8 => ?_)
      · skip
        refine zW.run 1 (pc' := 44) (ls' := [some (.ref 7), some (.int (Int32.ofInt x)), some (.int (Int32.ofInt y)), some (.ref 19), some (.int (Int32.ofInt 12)), some (.int (Int32.ofInt (i_2 : Int))), w3]) (st' := [.int (Int32.ofInt 0)]) (σ' := (zN L X (zhi s) R G nc ns)) (fun n => rfl) ?_
        exact zW.jretb rfl rfl (by decide) hQ1
      · skip
        refine zW.run 2 (pc' := 22) (ls' := [some (.ref 7), some (.int (Int32.ofInt x)), some (.int (Int32.ofInt y)), some (.ref 19), some (.int (Int32.ofInt 12)), some (.int (Int32.ofInt (i_2 : Int))), w3]) (st' := [.int (Int32.ofInt (i_2 : Int)), .ref 19]) (σ' := (zN L X (zhi s) R G nc ns)) (fun n => rfl) ?_
        refine zW.jaald (n := 12) (v := .ref (42 + i_2)) rfl rfl (by decide) (by decide) (by omega) (zr_com S (by omega)) ?_
        refine zW.run 4 (pc' := 29) (ls' := [some (.ref 7), some (.int (Int32.ofInt x)), some (.int (Int32.ofInt y)), some (.ref 19), some (.int (Int32.ofInt 12)), some (.int (Int32.ofInt (i_2 : Int))), some (.ref (42 + i_2))]) (st' := [.int (Int32.ofInt y), .int (Int32.ofInt x), .ref (42 + i_2)]) (σ' := (zN L X (zhi s) R G nc ns)) (fun n => rfl) ?_
        refine zW.callV rfl (by decide) rfl rfl rfl rfl (zk_com (by omega)) (Nat.le_of_ble_eq_true rfl) ?_
        refine t_Company_isAt_w S V (i := i_2) (x := x) (y := y) (by omega) (by omega) (by omega) (fun f9 f10 f11 => ?_) ?_
        · skip
          show zW ro 142 32 [some (.ref 7), some (.int (Int32.ofInt x)), some (.int (Int32.ofInt y)), some (.ref 19), some (.int (Int32.ofInt 12)), some (.int (Int32.ofInt (i_2 : Int))), some (.ref (42 + i_2))] [.int (Int32.ofInt 1)] (zN L X (zhi s) R G nc ns) Q
          refine zW.run 2 (pc' := 36) (ls' := [some (.ref 7), some (.int (Int32.ofInt x)), some (.int (Int32.ofInt y)), some (.ref 19), some (.int (Int32.ofInt 12)), some (.int (Int32.ofInt (i_2 : Int))), some (.ref (42 + i_2))]) (st' := [.int (Int32.ofInt 1)]) (σ' := (zN L X (zhi s) R G nc ns)) (fun n => rfl) ?_
          exact zW.jretb rfl rfl (by decide) hQ0
        · skip
          show zW ro 142 32 [some (.ref 7), some (.int (Int32.ofInt x)), some (.int (Int32.ofInt y)), some (.ref 19), some (.int (Int32.ofInt 12)), some (.int (Int32.ofInt (i_2 : Int))), some (.ref (42 + i_2))] [.int (Int32.ofInt 0)] (zN L X (zhi s) R G nc ns) Q
          refine zW.run 1 (pc' := 37) (ls' := [some (.ref 7), some (.int (Int32.ofInt x)), some (.int (Int32.ofInt y)), some (.ref 19), some (.int (Int32.ofInt 12)), some (.int (Int32.ofInt (i_2 : Int))), some (.ref (42 + i_2))]) (st' := []) (σ' := (zN L X (zhi s) R G nc ns)) (fun n => rfl) ?_
          refine zW.jinc (ls' := [some (.ref 7), some (.int (Int32.ofInt x)), some (.int (Int32.ofInt y)), some (.ref 19), some (.int (Int32.ofInt 12)), some (.int (Int32.ofInt ((i_2 : Int) + 1))), some (.ref (42 + i_2))]) rfl (Nat.le_of_ble_eq_true rfl) rfl rfl ?_
          refine zW.run 1 (pc' := 12) (ls' := [some (.ref 7), some (.int (Int32.ofInt x)), some (.int (Int32.ofInt y)), some (.ref 19), some (.int (Int32.ofInt 12)), some (.int (Int32.ofInt ((i_2 : Int) + 1))), some (.ref (42 + i_2))]) (st' := []) (σ' := (zN L X (zhi s) R G nc ns)) (fun n => rfl) ?_
          exact ih6 (i_2 + 1) (some (.ref (42 + i_2))) (by omega) (by omega)
  exact J5 _ 0 none (by omega) (Nat.lt_succ_self _)
set_option maxHeartbeats 4000000 in
theorem t_Siege_menAt (S : zSR R) (V : zV g U F T B ph s) {x : Int} {y : Int} (p0 : -2147483648 ≤ x ∧ x < 2147483648) (p1 : -2147483648 ≤ y ∧ y < 2147483648) (hQ0 : ∀ (v : Int), 0 ≤ v ∧ v ≤ 2400 → v = zma s x y 12 → Q (.inl (some (.int (Int32.ofInt v)))) (zN L X (zhi s) R G nc ns)) : zW ro 146 0 (zfst [.ref 7, .int (Int32.ofInt x), .int (Int32.ofInt y)] 8) [] (zN L X (zhi s) R G nc ns) Q := by
  show zW ro 146 0 [some (.ref 7), some (.int (Int32.ofInt x)), some (.int (Int32.ofInt y)), none, none, none, none, none] [] (zN L X (zhi s) R G nc ns) Q
  have f1 := zA_geo (zV_zA V)
  have hB0 := zV_B V
  refine zW.run 3 (pc' := 3) (ls' := [some (.ref 7), some (.int (Int32.ofInt x)), some (.int (Int32.ofInt y)), some (.int (Int32.ofInt 0)), none, none, none, none]) (st' := [.ref 7]) (σ' := (zN L X (zhi s) R G nc ns)) (fun n => rfl) ?_
  refine zW.getf (v := .ref 19) rfl rfl (zr_7_2 S) ?_
  refine zW.run 2 (pc' := 10) (ls' := [some (.ref 7), some (.int (Int32.ofInt x)), some (.int (Int32.ofInt y)), some (.int (Int32.ofInt 0)), some (.ref 19), none, none, none]) (st' := [.ref 19]) (σ' := (zN L X (zhi s) R G nc ns)) (fun n => rfl) ?_
  refine zW.alen rfl rfl (by decide) ?_
  show zW ro 146 11 [some (.ref 7), some (.int (Int32.ofInt x)), some (.int (Int32.ofInt y)), some (.int (Int32.ofInt 0)), some (.ref 19), none, none, none] [.int (Int32.ofInt 12)] (zN L X (zhi s) R G nc ns) Q
  refine zW.run 3 (pc' := 16) (ls' := [some (.ref 7), some (.int (Int32.ofInt x)), some (.int (Int32.ofInt y)), some (.int (Int32.ofInt 0)), some (.ref 19), some (.int (Int32.ofInt 12)), some (.int (Int32.ofInt 0)), none]) (st' := []) (σ' := (zN L X (zhi s) R G nc ns)) (fun n => rfl) ?_
  have J8 : ∀ m : Nat, ∀ (i_2 : Nat) (a_3 : Int) (w4 : Option Value), i_2 ≤ 12 → 0 ≤ a_3 ∧ a_3 ≤ 200 * i_2 → a_3 = zma s x y i_2 → 13 - i_2 < m → zW ro 146 16 [some (.ref 7), some (.int (Int32.ofInt x)), some (.int (Int32.ofInt y)), some (.int (Int32.ofInt a_3)), some (.ref 19), some (.int (Int32.ofInt 12)), some (.int (Int32.ofInt (i_2 : Int))), w4] [] (zN L X (zhi s) R G nc ns) Q := by
    intro m
    induction m with
    | zero => intros; omega
    | succ m ih9 =>
      intro i_2 a_3 w4 c5 c6 c7 hm10
      have hz := @zma_s s x y i_2
      refine zW.run 2 (pc' := 20) (ls' := [some (.ref 7), some (.int (Int32.ofInt x)), some (.int (Int32.ofInt y)), some (.int (Int32.ofInt a_3)), some (.ref 19), some (.int (Int32.ofInt 12)), some (.int (Int32.ofInt (i_2 : Int))), w4]) (st' := [.int (Int32.ofInt 12), .int (Int32.ofInt (i_2 : Int))]) (σ' := (zN L X (zhi s) R G nc ns)) (fun n => rfl) ?_
      refine zW.jcmp_ge rfl (by omega) (fun c11 => ?_) (fun c11 => ?_)
      · skip
        refine zW.run 1 (pc' := 55) (ls' := [some (.ref 7), some (.int (Int32.ofInt x)), some (.int (Int32.ofInt y)), some (.int (Int32.ofInt a_3)), some (.ref 19), some (.int (Int32.ofInt 12)), some (.int (Int32.ofInt (i_2 : Int))), w4]) (st' := [.int (Int32.ofInt a_3)]) (σ' := (zN L X (zhi s) R G nc ns)) (fun n => rfl) ?_
        exact zW.jret rfl rfl (hQ0 a_3 (by omega) (by rw [show 12 = i_2 by omega]; omega))
      · skip
        refine zW.run 2 (pc' := 27) (ls' := [some (.ref 7), some (.int (Int32.ofInt x)), some (.int (Int32.ofInt y)), some (.int (Int32.ofInt a_3)), some (.ref 19), some (.int (Int32.ofInt 12)), some (.int (Int32.ofInt (i_2 : Int))), w4]) (st' := [.int (Int32.ofInt (i_2 : Int)), .ref 19]) (σ' := (zN L X (zhi s) R G nc ns)) (fun n => rfl) ?_
        refine zW.jaald (n := 12) (v := .ref (42 + i_2)) rfl rfl (by decide) (by decide) (by omega) (zr_com S (by omega)) ?_
        refine zW.run 4 (pc' := 34) (ls' := [some (.ref 7), some (.int (Int32.ofInt x)), some (.int (Int32.ofInt y)), some (.int (Int32.ofInt a_3)), some (.ref 19), some (.int (Int32.ofInt 12)), some (.int (Int32.ofInt (i_2 : Int))), some (.ref (42 + i_2))]) (st' := [.int (Int32.ofInt y), .int (Int32.ofInt x), .ref (42 + i_2)]) (σ' := (zN L X (zhi s) R G nc ns)) (fun n => rfl) ?_
        refine zW.callV rfl (by decide) rfl rfl rfl rfl (zk_com (by omega)) (Nat.le_of_ble_eq_true rfl) ?_
        refine t_Company_isAt S V (i := i_2) (x := x) (y := y) (by omega) (by omega) (by omega) (fun f12 f13 f14 => ?_) (fun f15 => ?_)
        · skip
          show zW ro 146 37 [some (.ref 7), some (.int (Int32.ofInt x)), some (.int (Int32.ofInt y)), some (.int (Int32.ofInt a_3)), some (.ref 19), some (.int (Int32.ofInt 12)), some (.int (Int32.ofInt (i_2 : Int))), some (.ref (42 + i_2))] [.int (Int32.ofInt 1)] (zN L X (zhi s) R G nc ns) Q
          refine zW.run 3 (pc' := 43) (ls' := [some (.ref 7), some (.int (Int32.ofInt x)), some (.int (Int32.ofInt y)), some (.int (Int32.ofInt a_3)), some (.ref 19), some (.int (Int32.ofInt 12)), some (.int (Int32.ofInt (i_2 : Int))), some (.ref (42 + i_2))]) (st' := [.ref (42 + i_2), .int (Int32.ofInt a_3)]) (σ' := (zN L X (zhi s) R G nc ns)) (fun n => rfl) ?_
          have f16 := zV_com V (i := i_2) (by omega)
          refine zW.jget (v := (s (42 + i_2) 2)) rfl (zk_com (by omega)) (fun _ _ _ => rfl) rfl ?_
          refine zW.jadd rfl ?_
          refine zW.run 1 (pc' := 48) (ls' := [some (.ref 7), some (.int (Int32.ofInt x)), some (.int (Int32.ofInt y)), some (.int (Int32.ofInt (a_3 + (s (42 + i_2) 2)))), some (.ref 19), some (.int (Int32.ofInt 12)), some (.int (Int32.ofInt (i_2 : Int))), some (.ref (42 + i_2))]) (st' := []) (σ' := (zN L X (zhi s) R G nc ns)) (fun n => rfl) ?_
          refine zW.jinc (ls' := [some (.ref 7), some (.int (Int32.ofInt x)), some (.int (Int32.ofInt y)), some (.int (Int32.ofInt (a_3 + (s (42 + i_2) 2)))), some (.ref 19), some (.int (Int32.ofInt 12)), some (.int (Int32.ofInt ((i_2 : Int) + 1))), some (.ref (42 + i_2))]) rfl (Nat.le_of_ble_eq_true rfl) rfl rfl ?_
          refine zW.run 1 (pc' := 16) (ls' := [some (.ref 7), some (.int (Int32.ofInt x)), some (.int (Int32.ofInt y)), some (.int (Int32.ofInt (a_3 + (s (42 + i_2) 2)))), some (.ref 19), some (.int (Int32.ofInt 12)), some (.int (Int32.ofInt ((i_2 : Int) + 1))), some (.ref (42 + i_2))]) (st' := []) (σ' := (zN L X (zhi s) R G nc ns)) (fun n => rfl) ?_
          exact ih9 (i_2 + 1) (a_3 + (s (42 + i_2) 2)) (some (.ref (42 + i_2))) (by omega) (by omega) (by omega) (by omega)
        · skip
          show zW ro 146 37 [some (.ref 7), some (.int (Int32.ofInt x)), some (.int (Int32.ofInt y)), some (.int (Int32.ofInt a_3)), some (.ref 19), some (.int (Int32.ofInt 12)), some (.int (Int32.ofInt (i_2 : Int))), some (.ref (42 + i_2))] [.int (Int32.ofInt 0)] (zN L X (zhi s) R G nc ns) Q
          refine zW.run 1 (pc' := 48) (ls' := [some (.ref 7), some (.int (Int32.ofInt x)), some (.int (Int32.ofInt y)), some (.int (Int32.ofInt a_3)), some (.ref 19), some (.int (Int32.ofInt 12)), some (.int (Int32.ofInt (i_2 : Int))), some (.ref (42 + i_2))]) (st' := []) (σ' := (zN L X (zhi s) R G nc ns)) (fun n => rfl) ?_
          refine zW.jinc (ls' := [some (.ref 7), some (.int (Int32.ofInt x)), some (.int (Int32.ofInt y)), some (.int (Int32.ofInt a_3)), some (.ref 19), some (.int (Int32.ofInt 12)), some (.int (Int32.ofInt ((i_2 : Int) + 1))), some (.ref (42 + i_2))]) rfl (Nat.le_of_ble_eq_true rfl) rfl rfl ?_
          refine zW.run 1 (pc' := 16) (ls' := [some (.ref 7), some (.int (Int32.ofInt x)), some (.int (Int32.ofInt y)), some (.int (Int32.ofInt a_3)), some (.ref 19), some (.int (Int32.ofInt 12)), some (.int (Int32.ofInt ((i_2 : Int) + 1))), some (.ref (42 + i_2))]) (st' := []) (σ' := (zN L X (zhi s) R G nc ns)) (fun n => rfl) ?_
          exact ih9 (i_2 + 1) a_3 (some (.ref (42 + i_2))) (by omega) (by omega) (by omega) (by omega)
  exact J8 _ 0 0 none (by omega) (by omega) (rfl) (Nat.lt_succ_self _)
set_option maxHeartbeats 4000000 in
theorem t_Siege_menOf (S : zSR R) (V : zV g U F T B ph s) {x : Int} (p0 : -2147483648 ≤ x ∧ x < 2147483648) (hQ0 : ∀ (v : Int), 0 ≤ v ∧ v ≤ 2400 → v = zmm s x 12 → Q (.inl (some (.int (Int32.ofInt v)))) (zN L X (zhi s) R G nc ns)) : zW ro 147 0 (zfst [.ref 7, .int (Int32.ofInt x)] 7) [] (zN L X (zhi s) R G nc ns) Q := by
  show zW ro 147 0 [some (.ref 7), some (.int (Int32.ofInt x)), none, none, none, none, none] [] (zN L X (zhi s) R G nc ns) Q
  have f1 := zA_geo (zV_zA V)
  have hB0 := zV_B V
  refine zW.run 3 (pc' := 3) (ls' := [some (.ref 7), some (.int (Int32.ofInt x)), some (.int (Int32.ofInt 0)), none, none, none, none]) (st' := [.ref 7]) (σ' := (zN L X (zhi s) R G nc ns)) (fun n => rfl) ?_
  refine zW.getf (v := .ref 19) rfl rfl (zr_7_2 S) ?_
  refine zW.run 2 (pc' := 8) (ls' := [some (.ref 7), some (.int (Int32.ofInt x)), some (.int (Int32.ofInt 0)), some (.ref 19), none, none, none]) (st' := [.ref 19]) (σ' := (zN L X (zhi s) R G nc ns)) (fun n => rfl) ?_
  refine zW.alen rfl rfl (by decide) ?_
  show zW ro 147 9 [some (.ref 7), some (.int (Int32.ofInt x)), some (.int (Int32.ofInt 0)), some (.ref 19), none, none, none] [.int (Int32.ofInt 12)] (zN L X (zhi s) R G nc ns) Q
  refine zW.run 3 (pc' := 14) (ls' := [some (.ref 7), some (.int (Int32.ofInt x)), some (.int (Int32.ofInt 0)), some (.ref 19), some (.int (Int32.ofInt 12)), some (.int (Int32.ofInt 0)), none]) (st' := []) (σ' := (zN L X (zhi s) R G nc ns)) (fun n => rfl) ?_
  have J8 : ∀ m : Nat, ∀ (i_2 : Nat) (a_3 : Int) (w4 : Option Value), i_2 ≤ 12 → 0 ≤ a_3 ∧ a_3 ≤ 200 * i_2 → a_3 = zmm s x i_2 → 13 - i_2 < m → zW ro 147 14 [some (.ref 7), some (.int (Int32.ofInt x)), some (.int (Int32.ofInt a_3)), some (.ref 19), some (.int (Int32.ofInt 12)), some (.int (Int32.ofInt (i_2 : Int))), w4] [] (zN L X (zhi s) R G nc ns) Q := by
    intro m
    induction m with
    | zero => intros; omega
    | succ m ih9 =>
      intro i_2 a_3 w4 c5 c6 c7 hm10
      have hz := @zmm_s s x i_2
      refine zW.run 2 (pc' := 18) (ls' := [some (.ref 7), some (.int (Int32.ofInt x)), some (.int (Int32.ofInt a_3)), some (.ref 19), some (.int (Int32.ofInt 12)), some (.int (Int32.ofInt (i_2 : Int))), w4]) (st' := [.int (Int32.ofInt 12), .int (Int32.ofInt (i_2 : Int))]) (σ' := (zN L X (zhi s) R G nc ns)) (fun n => rfl) ?_
      refine zW.jcmp_ge rfl (by omega) (fun c11 => ?_) (fun c11 => ?_)
      · skip
        refine zW.run 1 (pc' := 51) (ls' := [some (.ref 7), some (.int (Int32.ofInt x)), some (.int (Int32.ofInt a_3)), some (.ref 19), some (.int (Int32.ofInt 12)), some (.int (Int32.ofInt (i_2 : Int))), w4]) (st' := [.int (Int32.ofInt a_3)]) (σ' := (zN L X (zhi s) R G nc ns)) (fun n => rfl) ?_
        exact zW.jret rfl rfl (hQ0 a_3 (by omega) (by rw [show 12 = i_2 by omega]; omega))
      · skip
        refine zW.run 2 (pc' := 24) (ls' := [some (.ref 7), some (.int (Int32.ofInt x)), some (.int (Int32.ofInt a_3)), some (.ref 19), some (.int (Int32.ofInt 12)), some (.int (Int32.ofInt (i_2 : Int))), w4]) (st' := [.int (Int32.ofInt (i_2 : Int)), .ref 19]) (σ' := (zN L X (zhi s) R G nc ns)) (fun n => rfl) ?_
        refine zW.jaald (n := 12) (v := .ref (42 + i_2)) rfl rfl (by decide) (by decide) (by omega) (zr_com S (by omega)) ?_
        refine zW.run 2 (pc' := 29) (ls' := [some (.ref 7), some (.int (Int32.ofInt x)), some (.int (Int32.ofInt a_3)), some (.ref 19), some (.int (Int32.ofInt 12)), some (.int (Int32.ofInt (i_2 : Int))), some (.ref (42 + i_2))]) (st' := [.ref (42 + i_2)]) (σ' := (zN L X (zhi s) R G nc ns)) (fun n => rfl) ?_
        have f12 := zV_com V (i := i_2) (by omega)
        refine zW.jget (v := (s (42 + i_2) 0)) rfl (zk_com (by omega)) (fun _ _ _ => rfl) rfl ?_
        refine zW.run 1 (pc' := 33) (ls' := [some (.ref 7), some (.int (Int32.ofInt x)), some (.int (Int32.ofInt a_3)), some (.ref 19), some (.int (Int32.ofInt 12)), some (.int (Int32.ofInt (i_2 : Int))), some (.ref (42 + i_2))]) (st' := [.int (Int32.ofInt x), .int (Int32.ofInt (s (42 + i_2) 0))]) (σ' := (zN L X (zhi s) R G nc ns)) (fun n => rfl) ?_
        have J14 : ∀ (v13 : Int), (¬ (s (42 + i_2) 0) = x ∧ v13 = a_3) ∨ ((s (42 + i_2) 0) = x ∧ v13 = (a_3 + (s (42 + i_2) 2))) → zW ro 147 44 [some (.ref 7), some (.int (Int32.ofInt x)), some (.int (Int32.ofInt v13)), some (.ref 19), some (.int (Int32.ofInt 12)), some (.int (Int32.ofInt (i_2 : Int))), some (.ref (42 + i_2))] [] (zN L X (zhi s) R G nc ns) Q := by
          intro v13 c15
          refine zW.jinc (ls' := [some (.ref 7), some (.int (Int32.ofInt x)), some (.int (Int32.ofInt v13)), some (.ref 19), some (.int (Int32.ofInt 12)), some (.int (Int32.ofInt ((i_2 : Int) + 1))), some (.ref (42 + i_2))]) rfl (Nat.le_of_ble_eq_true rfl) rfl rfl ?_
          refine zW.run 1 (pc' := 14) (ls' := [some (.ref 7), some (.int (Int32.ofInt x)), some (.int (Int32.ofInt v13)), some (.ref 19), some (.int (Int32.ofInt 12)), some (.int (Int32.ofInt ((i_2 : Int) + 1))), some (.ref (42 + i_2))]) (st' := []) (σ' := (zN L X (zhi s) R G nc ns)) (fun n => rfl) ?_
          exact ih9 (i_2 + 1) v13 (some (.ref (42 + i_2))) (by omega) (by omega) (by omega) (by omega)
        refine zW.jcmp_ne rfl (by omega) (fun c16 => ?_) (fun c16 => ?_)
        · skip
          exact J14 a_3 (by omega)
        · skip
          refine zW.run 2 (pc' := 39) (ls' := [some (.ref 7), some (.int (Int32.ofInt x)), some (.int (Int32.ofInt a_3)), some (.ref 19), some (.int (Int32.ofInt 12)), some (.int (Int32.ofInt (i_2 : Int))), some (.ref (42 + i_2))]) (st' := [.ref (42 + i_2), .int (Int32.ofInt a_3)]) (σ' := (zN L X (zhi s) R G nc ns)) (fun n => rfl) ?_
          refine zW.jget (v := (s (42 + i_2) 2)) rfl (zk_com (by omega)) (fun _ _ _ => rfl) rfl ?_
          refine zW.jadd rfl ?_
          refine zW.run 1 (pc' := 44) (ls' := [some (.ref 7), some (.int (Int32.ofInt x)), some (.int (Int32.ofInt (a_3 + (s (42 + i_2) 2)))), some (.ref 19), some (.int (Int32.ofInt 12)), some (.int (Int32.ofInt (i_2 : Int))), some (.ref (42 + i_2))]) (st' := []) (σ' := (zN L X (zhi s) R G nc ns)) (fun n => rfl) ?_
          exact J14 (a_3 + (s (42 + i_2) 2)) (by omega)
  exact J8 _ 0 0 none (by omega) (by omega) (rfl) (Nat.lt_succ_self _)
set_option maxHeartbeats 4000000 in
theorem t_Siege_companiesOf (S : zSR R) (V : zV g U F T B ph s) {x : Int} (p0 : -2147483648 ≤ x ∧ x < 2147483648) (hQ0 : ∀ (v : Int), 0 ≤ v ∧ v ≤ 12 → v = zco s x 12 → Q (.inl (some (.int (Int32.ofInt v)))) (zN L X (zhi s) R G nc ns)) : zW ro 130 0 (zfst [.ref 7, .int (Int32.ofInt x)] 7) [] (zN L X (zhi s) R G nc ns) Q := by
  show zW ro 130 0 [some (.ref 7), some (.int (Int32.ofInt x)), none, none, none, none, none] [] (zN L X (zhi s) R G nc ns) Q
  have f1 := zA_geo (zV_zA V)
  have hB0 := zV_B V
  refine zW.run 3 (pc' := 3) (ls' := [some (.ref 7), some (.int (Int32.ofInt x)), some (.int (Int32.ofInt 0)), none, none, none, none]) (st' := [.ref 7]) (σ' := (zN L X (zhi s) R G nc ns)) (fun n => rfl) ?_
  refine zW.getf (v := .ref 19) rfl rfl (zr_7_2 S) ?_
  refine zW.run 2 (pc' := 8) (ls' := [some (.ref 7), some (.int (Int32.ofInt x)), some (.int (Int32.ofInt 0)), some (.ref 19), none, none, none]) (st' := [.ref 19]) (σ' := (zN L X (zhi s) R G nc ns)) (fun n => rfl) ?_
  refine zW.alen rfl rfl (by decide) ?_
  show zW ro 130 9 [some (.ref 7), some (.int (Int32.ofInt x)), some (.int (Int32.ofInt 0)), some (.ref 19), none, none, none] [.int (Int32.ofInt 12)] (zN L X (zhi s) R G nc ns) Q
  refine zW.run 3 (pc' := 14) (ls' := [some (.ref 7), some (.int (Int32.ofInt x)), some (.int (Int32.ofInt 0)), some (.ref 19), some (.int (Int32.ofInt 12)), some (.int (Int32.ofInt 0)), none]) (st' := []) (σ' := (zN L X (zhi s) R G nc ns)) (fun n => rfl) ?_
  have J8 : ∀ m : Nat, ∀ (i_2 : Nat) (a_3 : Int) (w4 : Option Value), i_2 ≤ 12 → 0 ≤ a_3 ∧ a_3 ≤ i_2 → a_3 = zco s x i_2 → 13 - i_2 < m → zW ro 130 14 [some (.ref 7), some (.int (Int32.ofInt x)), some (.int (Int32.ofInt a_3)), some (.ref 19), some (.int (Int32.ofInt 12)), some (.int (Int32.ofInt (i_2 : Int))), w4] [] (zN L X (zhi s) R G nc ns) Q := by
    intro m
    induction m with
    | zero => intros; omega
    | succ m ih9 =>
      intro i_2 a_3 w4 c5 c6 c7 hm10
      have hz := @zco_s s x i_2
      refine zW.run 2 (pc' := 18) (ls' := [some (.ref 7), some (.int (Int32.ofInt x)), some (.int (Int32.ofInt a_3)), some (.ref 19), some (.int (Int32.ofInt 12)), some (.int (Int32.ofInt (i_2 : Int))), w4]) (st' := [.int (Int32.ofInt 12), .int (Int32.ofInt (i_2 : Int))]) (σ' := (zN L X (zhi s) R G nc ns)) (fun n => rfl) ?_
      refine zW.jcmp_ge rfl (by omega) (fun c11 => ?_) (fun c11 => ?_)
      · skip
        refine zW.run 1 (pc' := 54) (ls' := [some (.ref 7), some (.int (Int32.ofInt x)), some (.int (Int32.ofInt a_3)), some (.ref 19), some (.int (Int32.ofInt 12)), some (.int (Int32.ofInt (i_2 : Int))), w4]) (st' := [.int (Int32.ofInt a_3)]) (σ' := (zN L X (zhi s) R G nc ns)) (fun n => rfl) ?_
        exact zW.jret rfl rfl (hQ0 a_3 (by omega) (by rw [show 12 = i_2 by omega]; omega))
      · skip
        refine zW.run 2 (pc' := 24) (ls' := [some (.ref 7), some (.int (Int32.ofInt x)), some (.int (Int32.ofInt a_3)), some (.ref 19), some (.int (Int32.ofInt 12)), some (.int (Int32.ofInt (i_2 : Int))), w4]) (st' := [.int (Int32.ofInt (i_2 : Int)), .ref 19]) (σ' := (zN L X (zhi s) R G nc ns)) (fun n => rfl) ?_
        refine zW.jaald (n := 12) (v := .ref (42 + i_2)) rfl rfl (by decide) (by decide) (by omega) (zr_com S (by omega)) ?_
        refine zW.run 2 (pc' := 29) (ls' := [some (.ref 7), some (.int (Int32.ofInt x)), some (.int (Int32.ofInt a_3)), some (.ref 19), some (.int (Int32.ofInt 12)), some (.int (Int32.ofInt (i_2 : Int))), some (.ref (42 + i_2))]) (st' := [.ref (42 + i_2)]) (σ' := (zN L X (zhi s) R G nc ns)) (fun n => rfl) ?_
        have f12 := zV_com V (i := i_2) (by omega)
        refine zW.jget (v := (s (42 + i_2) 0)) rfl (zk_com (by omega)) (fun _ _ _ => rfl) rfl ?_
        refine zW.run 1 (pc' := 33) (ls' := [some (.ref 7), some (.int (Int32.ofInt x)), some (.int (Int32.ofInt a_3)), some (.ref 19), some (.int (Int32.ofInt 12)), some (.int (Int32.ofInt (i_2 : Int))), some (.ref (42 + i_2))]) (st' := [.int (Int32.ofInt x), .int (Int32.ofInt (s (42 + i_2) 0))]) (σ' := (zN L X (zhi s) R G nc ns)) (fun n => rfl) ?_
        have J14 : ∀ (v13 : Int), (¬ (s (42 + i_2) 0) = x ∧ v13 = a_3) ∨ ((s (42 + i_2) 0) = x ∧ (s (42 + i_2) 2) ≤ 0 ∧ v13 = a_3) ∨ ((s (42 + i_2) 0) = x ∧ (s (42 + i_2) 2) > 0 ∧ v13 = (a_3 + 1)) → zW ro 130 47 [some (.ref 7), some (.int (Int32.ofInt x)), some (.int (Int32.ofInt v13)), some (.ref 19), some (.int (Int32.ofInt 12)), some (.int (Int32.ofInt (i_2 : Int))), some (.ref (42 + i_2))] [] (zN L X (zhi s) R G nc ns) Q := by
          intro v13 c15
          refine zW.jinc (ls' := [some (.ref 7), some (.int (Int32.ofInt x)), some (.int (Int32.ofInt v13)), some (.ref 19), some (.int (Int32.ofInt 12)), some (.int (Int32.ofInt ((i_2 : Int) + 1))), some (.ref (42 + i_2))]) rfl (Nat.le_of_ble_eq_true rfl) rfl rfl ?_
          refine zW.run 1 (pc' := 14) (ls' := [some (.ref 7), some (.int (Int32.ofInt x)), some (.int (Int32.ofInt v13)), some (.ref 19), some (.int (Int32.ofInt 12)), some (.int (Int32.ofInt ((i_2 : Int) + 1))), some (.ref (42 + i_2))]) (st' := []) (σ' := (zN L X (zhi s) R G nc ns)) (fun n => rfl) ?_
          exact ih9 (i_2 + 1) v13 (some (.ref (42 + i_2))) (by omega) (by omega) (by omega) (by omega)
        refine zW.jcmp_ne rfl (by omega) (fun c16 => ?_) (fun c16 => ?_)
        · skip
          exact J14 a_3 (by omega)
        · skip
          refine zW.run 1 (pc' := 38) (ls' := [some (.ref 7), some (.int (Int32.ofInt x)), some (.int (Int32.ofInt a_3)), some (.ref 19), some (.int (Int32.ofInt 12)), some (.int (Int32.ofInt (i_2 : Int))), some (.ref (42 + i_2))]) (st' := [.ref (42 + i_2)]) (σ' := (zN L X (zhi s) R G nc ns)) (fun n => rfl) ?_
          refine zW.jget (v := (s (42 + i_2) 2)) rfl (zk_com (by omega)) (fun _ _ _ => rfl) rfl ?_
          refine zW.jif_le rfl (by omega) (fun c17 => ?_) (fun c17 => ?_)
          · skip
            exact J14 a_3 (by omega)
          · skip
            refine zW.jinc (ls' := [some (.ref 7), some (.int (Int32.ofInt x)), some (.int (Int32.ofInt (a_3 + 1))), some (.ref 19), some (.int (Int32.ofInt 12)), some (.int (Int32.ofInt (i_2 : Int))), some (.ref (42 + i_2))]) rfl (Nat.le_of_ble_eq_true rfl) rfl rfl ?_
            exact J14 (a_3 + 1) (by omega)
  exact J8 _ 0 0 none (by omega) (by omega) (rfl) (Nat.lt_succ_self _)
set_option maxHeartbeats 4000000 in
theorem t_Siege_readyGunsOf (S : zSR R) (V : zV g U F T B ph s) {x : Int} (p0 : -2147483648 ≤ x ∧ x < 2147483648) (hQ0 : ∀ (v : Int), 0 ≤ v ∧ v ≤ 16 → v = zrg s x 16 → Q (.inl (some (.int (Int32.ofInt v)))) (zN L X (zhi s) R G nc ns)) : zW ro 153 0 (zfst [.ref 7, .int (Int32.ofInt x)] 7) [] (zN L X (zhi s) R G nc ns) Q := by
  show zW ro 153 0 [some (.ref 7), some (.int (Int32.ofInt x)), none, none, none, none, none] [] (zN L X (zhi s) R G nc ns) Q
  have f1 := zA_geo (zV_zA V)
  have hB0 := zV_B V
  refine zW.run 3 (pc' := 3) (ls' := [some (.ref 7), some (.int (Int32.ofInt x)), some (.int (Int32.ofInt 0)), none, none, none, none]) (st' := [.ref 7]) (σ' := (zN L X (zhi s) R G nc ns)) (fun n => rfl) ?_
  refine zW.getf (v := .ref 18) rfl rfl (zr_7_1 S) ?_
  refine zW.run 2 (pc' := 8) (ls' := [some (.ref 7), some (.int (Int32.ofInt x)), some (.int (Int32.ofInt 0)), some (.ref 18), none, none, none]) (st' := [.ref 18]) (σ' := (zN L X (zhi s) R G nc ns)) (fun n => rfl) ?_
  refine zW.alen rfl rfl (by decide) ?_
  show zW ro 153 9 [some (.ref 7), some (.int (Int32.ofInt x)), some (.int (Int32.ofInt 0)), some (.ref 18), none, none, none] [.int (Int32.ofInt 16)] (zN L X (zhi s) R G nc ns) Q
  refine zW.run 3 (pc' := 14) (ls' := [some (.ref 7), some (.int (Int32.ofInt x)), some (.int (Int32.ofInt 0)), some (.ref 18), some (.int (Int32.ofInt 16)), some (.int (Int32.ofInt 0)), none]) (st' := []) (σ' := (zN L X (zhi s) R G nc ns)) (fun n => rfl) ?_
  have J8 : ∀ m : Nat, ∀ (i_2 : Nat) (a_3 : Int) (w4 : Option Value), i_2 ≤ 16 → 0 ≤ a_3 ∧ a_3 ≤ i_2 → a_3 = zrg s x i_2 → 17 - i_2 < m → zW ro 153 14 [some (.ref 7), some (.int (Int32.ofInt x)), some (.int (Int32.ofInt a_3)), some (.ref 18), some (.int (Int32.ofInt 16)), some (.int (Int32.ofInt (i_2 : Int))), w4] [] (zN L X (zhi s) R G nc ns) Q := by
    intro m
    induction m with
    | zero => intros; omega
    | succ m ih9 =>
      intro i_2 a_3 w4 c5 c6 c7 hm10
      have hz := @zrg_s s x i_2
      refine zW.run 2 (pc' := 18) (ls' := [some (.ref 7), some (.int (Int32.ofInt x)), some (.int (Int32.ofInt a_3)), some (.ref 18), some (.int (Int32.ofInt 16)), some (.int (Int32.ofInt (i_2 : Int))), w4]) (st' := [.int (Int32.ofInt 16), .int (Int32.ofInt (i_2 : Int))]) (σ' := (zN L X (zhi s) R G nc ns)) (fun n => rfl) ?_
      refine zW.jcmp_ge rfl (by omega) (fun c11 => ?_) (fun c11 => ?_)
      · skip
        refine zW.run 1 (pc' := 46) (ls' := [some (.ref 7), some (.int (Int32.ofInt x)), some (.int (Int32.ofInt a_3)), some (.ref 18), some (.int (Int32.ofInt 16)), some (.int (Int32.ofInt (i_2 : Int))), w4]) (st' := [.int (Int32.ofInt a_3)]) (σ' := (zN L X (zhi s) R G nc ns)) (fun n => rfl) ?_
        exact zW.jret rfl rfl (hQ0 a_3 (by omega) (by rw [show 16 = i_2 by omega]; omega))
      · skip
        refine zW.run 2 (pc' := 24) (ls' := [some (.ref 7), some (.int (Int32.ofInt x)), some (.int (Int32.ofInt a_3)), some (.ref 18), some (.int (Int32.ofInt 16)), some (.int (Int32.ofInt (i_2 : Int))), w4]) (st' := [.int (Int32.ofInt (i_2 : Int)), .ref 18]) (σ' := (zN L X (zhi s) R G nc ns)) (fun n => rfl) ?_
        refine zW.jaald (n := 16) (v := .ref (26 + i_2)) rfl rfl (by decide) (by decide) (by omega) (zr_gun S (by omega)) ?_
        refine zW.run 3 (pc' := 30) (ls' := [some (.ref 7), some (.int (Int32.ofInt x)), some (.int (Int32.ofInt a_3)), some (.ref 18), some (.int (Int32.ofInt 16)), some (.int (Int32.ofInt (i_2 : Int))), some (.ref (26 + i_2))]) (st' := [.int (Int32.ofInt x), .ref (26 + i_2)]) (σ' := (zN L X (zhi s) R G nc ns)) (fun n => rfl) ?_
        refine zW.callV rfl (by decide) rfl rfl rfl rfl (zk_gun (by omega)) (Nat.le_of_ble_eq_true rfl) ?_
        refine t_Gun_isReadyOf S V (i := i_2) (x := x) (by omega) (by omega) (fun f12 f13 => ?_) (fun f14 => ?_)
        · skip
          show zW ro 153 33 [some (.ref 7), some (.int (Int32.ofInt x)), some (.int (Int32.ofInt a_3)), some (.ref 18), some (.int (Int32.ofInt 16)), some (.int (Int32.ofInt (i_2 : Int))), some (.ref (26 + i_2))] [.int (Int32.ofInt 1)] (zN L X (zhi s) R G nc ns) Q
          refine zW.run 1 (pc' := 36) (ls' := [some (.ref 7), some (.int (Int32.ofInt x)), some (.int (Int32.ofInt a_3)), some (.ref 18), some (.int (Int32.ofInt 16)), some (.int (Int32.ofInt (i_2 : Int))), some (.ref (26 + i_2))]) (st' := []) (σ' := (zN L X (zhi s) R G nc ns)) (fun n => rfl) ?_
          refine zW.jinc (ls' := [some (.ref 7), some (.int (Int32.ofInt x)), some (.int (Int32.ofInt (a_3 + 1))), some (.ref 18), some (.int (Int32.ofInt 16)), some (.int (Int32.ofInt (i_2 : Int))), some (.ref (26 + i_2))]) rfl (Nat.le_of_ble_eq_true rfl) rfl rfl ?_
          refine zW.jinc (ls' := [some (.ref 7), some (.int (Int32.ofInt x)), some (.int (Int32.ofInt (a_3 + 1))), some (.ref 18), some (.int (Int32.ofInt 16)), some (.int (Int32.ofInt ((i_2 : Int) + 1))), some (.ref (26 + i_2))]) rfl (Nat.le_of_ble_eq_true rfl) rfl rfl ?_
          refine zW.run 1 (pc' := 14) (ls' := [some (.ref 7), some (.int (Int32.ofInt x)), some (.int (Int32.ofInt (a_3 + 1))), some (.ref 18), some (.int (Int32.ofInt 16)), some (.int (Int32.ofInt ((i_2 : Int) + 1))), some (.ref (26 + i_2))]) (st' := []) (σ' := (zN L X (zhi s) R G nc ns)) (fun n => rfl) ?_
          exact ih9 (i_2 + 1) (a_3 + 1) (some (.ref (26 + i_2))) (by omega) (by omega) (by omega) (by omega)
        · skip
          show zW ro 153 33 [some (.ref 7), some (.int (Int32.ofInt x)), some (.int (Int32.ofInt a_3)), some (.ref 18), some (.int (Int32.ofInt 16)), some (.int (Int32.ofInt (i_2 : Int))), some (.ref (26 + i_2))] [.int (Int32.ofInt 0)] (zN L X (zhi s) R G nc ns) Q
          refine zW.run 1 (pc' := 39) (ls' := [some (.ref 7), some (.int (Int32.ofInt x)), some (.int (Int32.ofInt a_3)), some (.ref 18), some (.int (Int32.ofInt 16)), some (.int (Int32.ofInt (i_2 : Int))), some (.ref (26 + i_2))]) (st' := []) (σ' := (zN L X (zhi s) R G nc ns)) (fun n => rfl) ?_
          refine zW.jinc (ls' := [some (.ref 7), some (.int (Int32.ofInt x)), some (.int (Int32.ofInt a_3)), some (.ref 18), some (.int (Int32.ofInt 16)), some (.int (Int32.ofInt ((i_2 : Int) + 1))), some (.ref (26 + i_2))]) rfl (Nat.le_of_ble_eq_true rfl) rfl rfl ?_
          refine zW.run 1 (pc' := 14) (ls' := [some (.ref 7), some (.int (Int32.ofInt x)), some (.int (Int32.ofInt a_3)), some (.ref 18), some (.int (Int32.ofInt 16)), some (.int (Int32.ofInt ((i_2 : Int) + 1))), some (.ref (26 + i_2))]) (st' := []) (σ' := (zN L X (zhi s) R G nc ns)) (fun n => rfl) ?_
          exact ih9 (i_2 + 1) a_3 (some (.ref (26 + i_2))) (by omega) (by omega) (by omega) (by omega)
  exact J8 _ 0 0 none (by omega) (by omega) (rfl) (Nat.lt_succ_self _)
set_option maxHeartbeats 4000000 in
theorem t_Siege_freshCompanyAt (S : zSR R) (V : zV g U F T B ph s) {x : Int} {y : Int} (p0 : -2147483648 ≤ x ∧ x < 2147483648) (p1 : -2147483648 ≤ y ∧ y < 2147483648) (hQ0 : ∀ (i : Nat), i < 12 → s (42 + i) 3 < 8 → 0 < s (42 + i) 2 → s (42 + i) 0 = x → Q (.inl (some (.ref (42 + i)))) (zN L X (zhi s) R G nc ns)) (hQ1 : Q (.inl (some .null)) (zN L X (zhi s) R G nc ns)) : zW ro 136 0 (zfst [.ref 7, .int (Int32.ofInt x), .int (Int32.ofInt y)] 7) [] (zN L X (zhi s) R G nc ns) Q := by
  show zW ro 136 0 [some (.ref 7), some (.int (Int32.ofInt x)), some (.int (Int32.ofInt y)), none, none, none, none] [] (zN L X (zhi s) R G nc ns) Q
  have f1 := zA_geo (zV_zA V)
  have hB0 := zV_B V
  refine zW.run 1 (pc' := 1) (ls' := [some (.ref 7), some (.int (Int32.ofInt x)), some (.int (Int32.ofInt y)), none, none, none, none]) (st' := [.ref 7]) (σ' := (zN L X (zhi s) R G nc ns)) (fun n => rfl) ?_
  refine zW.getf (v := .ref 19) rfl rfl (zr_7_2 S) ?_
  refine zW.run 2 (pc' := 6) (ls' := [some (.ref 7), some (.int (Int32.ofInt x)), some (.int (Int32.ofInt y)), some (.ref 19), none, none, none]) (st' := [.ref 19]) (σ' := (zN L X (zhi s) R G nc ns)) (fun n => rfl) ?_
  refine zW.alen rfl rfl (by decide) ?_
  show zW ro 136 7 [some (.ref 7), some (.int (Int32.ofInt x)), some (.int (Int32.ofInt y)), some (.ref 19), none, none, none] [.int (Int32.ofInt 12)] (zN L X (zhi s) R G nc ns) Q
  refine zW.run 3 (pc' := 12) (ls' := [some (.ref 7), some (.int (Int32.ofInt x)), some (.int (Int32.ofInt y)), some (.ref 19), some (.int (Int32.ofInt 12)), some (.int (Int32.ofInt 0)), none]) (st' := []) (σ' := (zN L X (zhi s) R G nc ns)) (fun n => rfl) ?_
  have J5 : ∀ m : Nat, ∀ (i_2 : Nat) (w3 : Option Value), i_2 ≤ 12 → 13 - i_2 < m → zW ro 136 12 [some (.ref 7), some (.int (Int32.ofInt x)), some (.int (Int32.ofInt y)), some (.ref 19), some (.int (Int32.ofInt 12)), some (.int (Int32.ofInt (i_2 : Int))), w3] [] (zN L X (zhi s) R G nc ns) Q := by
    intro m
    induction m with
    | zero => intros; omega
    | succ m ih6 =>
      intro i_2 w3 c4 hm7
      refine zW.run 2 (pc' := 16) (ls' := [some (.ref 7), some (.int (Int32.ofInt x)), some (.int (Int32.ofInt y)), some (.ref 19), some (.int (Int32.ofInt 12)), some (.int (Int32.ofInt (i_2 : Int))), w3]) (st' := [.int (Int32.ofInt 12), .int (Int32.ofInt (i_2 : Int))]) (σ' := (zN L X (zhi s) R G nc ns)) (fun n => rfl) ?_
      refine zW.jcmp_ge rfl (by omega) (fun c8 => ?_) (fun c8 => ?_)
      · skip
        refine zW.run 1 (pc' := 55) (ls' := [some (.ref 7), some (.int (Int32.ofInt x)), some (.int (Int32.ofInt y)), some (.ref 19), some (.int (Int32.ofInt 12)), some (.int (Int32.ofInt (i_2 : Int))), w3]) (st' := [.null]) (σ' := (zN L X (zhi s) R G nc ns)) (fun n => rfl) ?_
        exact zW.nret rfl hQ1
      · skip
        refine zW.run 2 (pc' := 22) (ls' := [some (.ref 7), some (.int (Int32.ofInt x)), some (.int (Int32.ofInt y)), some (.ref 19), some (.int (Int32.ofInt 12)), some (.int (Int32.ofInt (i_2 : Int))), w3]) (st' := [.int (Int32.ofInt (i_2 : Int)), .ref 19]) (σ' := (zN L X (zhi s) R G nc ns)) (fun n => rfl) ?_
        refine zW.jaald (n := 12) (v := .ref (42 + i_2)) rfl rfl (by decide) (by decide) (by omega) (zr_com S (by omega)) ?_
        refine zW.run 4 (pc' := 29) (ls' := [some (.ref 7), some (.int (Int32.ofInt x)), some (.int (Int32.ofInt y)), some (.ref 19), some (.int (Int32.ofInt 12)), some (.int (Int32.ofInt (i_2 : Int))), some (.ref (42 + i_2))]) (st' := [.int (Int32.ofInt y), .int (Int32.ofInt x), .ref (42 + i_2)]) (σ' := (zN L X (zhi s) R G nc ns)) (fun n => rfl) ?_
        refine zW.callV rfl (by decide) rfl rfl rfl rfl (zk_com (by omega)) (Nat.le_of_ble_eq_true rfl) ?_
        refine t_Company_isAt_w S V (i := i_2) (x := x) (y := y) (by omega) (by omega) (by omega) (fun f9 f10 f11 => ?_) ?_
        · skip
          show zW ro 136 32 [some (.ref 7), some (.int (Int32.ofInt x)), some (.int (Int32.ofInt y)), some (.ref 19), some (.int (Int32.ofInt 12)), some (.int (Int32.ofInt (i_2 : Int))), some (.ref (42 + i_2))] [.int (Int32.ofInt 1)] (zN L X (zhi s) R G nc ns) Q
          refine zW.run 2 (pc' := 37) (ls' := [some (.ref 7), some (.int (Int32.ofInt x)), some (.int (Int32.ofInt y)), some (.ref 19), some (.int (Int32.ofInt 12)), some (.int (Int32.ofInt (i_2 : Int))), some (.ref (42 + i_2))]) (st' := [.ref (42 + i_2)]) (σ' := (zN L X (zhi s) R G nc ns)) (fun n => rfl) ?_
          have f12 := zV_com V (i := i_2) (by omega)
          refine zW.jget (v := (s (42 + i_2) 3)) rfl (zk_com (by omega)) (fun _ _ _ => rfl) rfl ?_
          refine zW.run 1 (pc' := 42) (ls' := [some (.ref 7), some (.int (Int32.ofInt x)), some (.int (Int32.ofInt y)), some (.ref 19), some (.int (Int32.ofInt 12)), some (.int (Int32.ofInt (i_2 : Int))), some (.ref (42 + i_2))]) (st' := [.int (Int32.ofInt 8), .int (Int32.ofInt (s (42 + i_2) 3))]) (σ' := (zN L X (zhi s) R G nc ns)) (fun n => rfl) ?_
          refine zW.jcmp_ge rfl (by omega) (fun c13 => ?_) (fun c13 => ?_)
          · skip
            refine zW.jinc (ls' := [some (.ref 7), some (.int (Int32.ofInt x)), some (.int (Int32.ofInt y)), some (.ref 19), some (.int (Int32.ofInt 12)), some (.int (Int32.ofInt ((i_2 : Int) + 1))), some (.ref (42 + i_2))]) rfl (Nat.le_of_ble_eq_true rfl) rfl rfl ?_
            refine zW.run 1 (pc' := 12) (ls' := [some (.ref 7), some (.int (Int32.ofInt x)), some (.int (Int32.ofInt y)), some (.ref 19), some (.int (Int32.ofInt 12)), some (.int (Int32.ofInt ((i_2 : Int) + 1))), some (.ref (42 + i_2))]) (st' := []) (σ' := (zN L X (zhi s) R G nc ns)) (fun n => rfl) ?_
            exact ih6 (i_2 + 1) (some (.ref (42 + i_2))) (by omega) (by omega)
          · skip
            refine zW.run 1 (pc' := 47) (ls' := [some (.ref 7), some (.int (Int32.ofInt x)), some (.int (Int32.ofInt y)), some (.ref 19), some (.int (Int32.ofInt 12)), some (.int (Int32.ofInt (i_2 : Int))), some (.ref (42 + i_2))]) (st' := [.ref (42 + i_2)]) (σ' := (zN L X (zhi s) R G nc ns)) (fun n => rfl) ?_
            exact zW.aret rfl (hQ0 i_2 (by omega) (by omega) (by omega) (by omega))
        · skip
          show zW ro 136 32 [some (.ref 7), some (.int (Int32.ofInt x)), some (.int (Int32.ofInt y)), some (.ref 19), some (.int (Int32.ofInt 12)), some (.int (Int32.ofInt (i_2 : Int))), some (.ref (42 + i_2))] [.int (Int32.ofInt 0)] (zN L X (zhi s) R G nc ns) Q
          refine zW.run 1 (pc' := 48) (ls' := [some (.ref 7), some (.int (Int32.ofInt x)), some (.int (Int32.ofInt y)), some (.ref 19), some (.int (Int32.ofInt 12)), some (.int (Int32.ofInt (i_2 : Int))), some (.ref (42 + i_2))]) (st' := []) (σ' := (zN L X (zhi s) R G nc ns)) (fun n => rfl) ?_
          refine zW.jinc (ls' := [some (.ref 7), some (.int (Int32.ofInt x)), some (.int (Int32.ofInt y)), some (.ref 19), some (.int (Int32.ofInt 12)), some (.int (Int32.ofInt ((i_2 : Int) + 1))), some (.ref (42 + i_2))]) rfl (Nat.le_of_ble_eq_true rfl) rfl rfl ?_
          refine zW.run 1 (pc' := 12) (ls' := [some (.ref 7), some (.int (Int32.ofInt x)), some (.int (Int32.ofInt y)), some (.ref 19), some (.int (Int32.ofInt 12)), some (.int (Int32.ofInt ((i_2 : Int) + 1))), some (.ref (42 + i_2))]) (st' := []) (σ' := (zN L X (zhi s) R G nc ns)) (fun n => rfl) ?_
          exact ih6 (i_2 + 1) (some (.ref (42 + i_2))) (by omega) (by omega)
  exact J5 _ 0 none (by omega) (Nat.lt_succ_self _)
set_option maxHeartbeats 4000000 in
theorem t_Siege_forceOf (S : zSR R) (V : zV g U F T B ph s) {i : Nat} (p0 : i < 12) (hQ0 : ∀ (o : Nat) (v : Int), s (42 + i) 0 = 1 ∧ o = 22 ∨ ¬ s (42 + i) 0 = 1 ∧ o = 21 → v = s (42 + i) 2 * (14 - s (42 + i) 3) * (s o 3 + 50) → 0 ≤ v ∧ v ≤ 420000 → Q (.inl (some (.int (Int32.ofInt v)))) (zN L X (zhi s) R G nc ns)) : zW ro 135 0 (zfst [.ref 7, .ref (42 + i)] 2) [] (zN L X (zhi s) R G nc ns) Q := by
  show zW ro 135 0 [some (.ref 7), some (.ref (42 + i))] [] (zN L X (zhi s) R G nc ns) Q
  have f1 := zA_geo (zV_zA V)
  have hB0 := zV_B V
  refine zW.run 1 (pc' := 1) (ls' := [some (.ref 7), some (.ref (42 + i))]) (st' := [.ref (42 + i)]) (σ' := (zN L X (zhi s) R G nc ns)) (fun n => rfl) ?_
  have f2 := zV_com V (i := i) (by omega)
  refine zW.jget (v := (s (42 + i) 2)) rfl (zk_com (by omega)) (fun _ _ _ => rfl) rfl ?_
  refine zW.run 2 (pc' := 7) (ls' := [some (.ref 7), some (.ref (42 + i))]) (st' := [.ref (42 + i), .int (Int32.ofInt 14), .int (Int32.ofInt (s (42 + i) 2))]) (σ' := (zN L X (zhi s) R G nc ns)) (fun n => rfl) ?_
  refine zW.jget (v := (s (42 + i) 3)) rfl (zk_com (by omega)) (fun _ _ _ => rfl) rfl ?_
  refine zW.jsub rfl ?_
  refine zW.jmul rfl ?_
  refine zW.run 2 (pc' := 14) (ls' := [some (.ref 7), some (.ref (42 + i))]) (st' := [.ref (42 + i), .ref 7, .int (Int32.ofInt ((s (42 + i) 2) * (14 - (s (42 + i) 3))))]) (σ' := (zN L X (zhi s) R G nc ns)) (fun n => rfl) ?_
  refine zW.jget (v := (s (42 + i) 0)) rfl (zk_com (by omega)) (fun _ _ _ => rfl) rfl ?_
  refine zW.callV rfl (by decide) rfl rfl rfl rfl rfl (Nat.le_of_ble_eq_true rfl) ?_
  refine t_Siege_of S (x := (s (42 + i) 0)) (by omega) (fun o_3 f4 => ?_)
  show zW ro 135 20 [some (.ref 7), some (.ref (42 + i))] [.ref o_3, .int (Int32.ofInt ((s (42 + i) 2) * (14 - (s (42 + i) 3))))] (zN L X (zhi s) R G nc ns) Q
  have f5 := zV_sid V (o := o_3) (by omega)
  refine zW.jget (v := (s o_3 3)) rfl (zk_sid (by omega)) (fun _ _ _ => rfl) rfl ?_
  refine zW.run 1 (pc' := 25) (ls' := [some (.ref 7), some (.ref (42 + i))]) (st' := [.int (Int32.ofInt 50), .int (Int32.ofInt (s o_3 3)), .int (Int32.ofInt ((s (42 + i) 2) * (14 - (s (42 + i) 3))))]) (σ' := (zN L X (zhi s) R G nc ns)) (fun n => rfl) ?_
  refine zW.jadd rfl ?_
  refine zW.jmul rfl ?_
  exact zW.jret rfl rfl (hQ0 o_3 (((s (42 + i) 2) * (14 - (s (42 + i) 3))) * ((s o_3 3) + 50)) (by omega) (rfl) (zfo_rg (by omega)))
set_option maxHeartbeats 4000000 in
theorem t_Siege_isNight (S : zSR R) (V : zV g U F T B ph s)   (hQ0 : Q (.inl (some (.int (Int32.ofInt 1)))) (zN L X (zhi s) R G nc ns)) (hQ1 : Q (.inl (some (.int (Int32.ofInt 0)))) (zN L X (zhi s) R G nc ns)) : zW ro 143 0 (zfst [.ref 7] 2) [] (zN L X (zhi s) R G nc ns) Q := by
  show zW ro 143 0 [some (.ref 7), none] [] (zN L X (zhi s) R G nc ns) Q
  have f1 := zA_geo (zV_zA V)
  have hB0 := zV_B V
  refine zW.run 1 (pc' := 1) (ls' := [some (.ref 7), none]) (st' := [.ref 7]) (σ' := (zN L X (zhi s) R G nc ns)) (fun n => rfl) ?_
  have f2 := zV_sie V
  refine zW.run 2 (pc' := 6) (ls' := [some (.ref 7), none]) (st' := [.int (Int32.ofInt 24), .int (Int32.ofInt (s 7 10))]) (σ' := (zN L X (zhi s) R G nc ns)) (fun n => rfl) ?_
  refine zW.jrem rfl (by omega) ?_
  refine zW.run 3 (pc' := 11) (ls' := [some (.ref 7), some (.int (Int32.ofInt ((s 7 10) % 24)))]) (st' := [.int (Int32.ofInt 20), .int (Int32.ofInt ((s 7 10) % 24))]) (σ' := (zN L X (zhi s) R G nc ns)) (fun n => rfl) ?_
  refine zW.jcmp_ge rfl (by omega) (fun c3 => ?_) (fun c3 => ?_)
  · skip
    refine zW.run 2 (pc' := 24) (ls' := [some (.ref 7), some (.int (Int32.ofInt ((s 7 10) % 24)))]) (st' := [.int (Int32.ofInt 1)]) (σ' := (zN L X (zhi s) R G nc ns)) (fun n => rfl) ?_
    exact zW.jretb rfl rfl (by decide) hQ0
  · skip
    refine zW.run 2 (pc' := 16) (ls' := [some (.ref 7), some (.int (Int32.ofInt ((s 7 10) % 24)))]) (st' := [.int (Int32.ofInt 4), .int (Int32.ofInt ((s 7 10) % 24))]) (σ' := (zN L X (zhi s) R G nc ns)) (fun n => rfl) ?_
    refine zW.jcmp_gt rfl (by omega) (fun c4 => ?_) (fun c4 => ?_)
    · skip
      refine zW.run 1 (pc' := 24) (ls' := [some (.ref 7), some (.int (Int32.ofInt ((s 7 10) % 24)))]) (st' := [.int (Int32.ofInt 0)]) (σ' := (zN L X (zhi s) R G nc ns)) (fun n => rfl) ?_
      exact zW.jretb rfl rfl (by decide) hQ1
    · skip
      refine zW.run 2 (pc' := 24) (ls' := [some (.ref 7), some (.int (Int32.ofInt ((s 7 10) % 24)))]) (st' := [.int (Int32.ofInt 1)]) (σ' := (zN L X (zhi s) R G nc ns)) (fun n => rfl) ?_
      exact zW.jretb rfl rfl (by decide) hQ0
set_option maxHeartbeats 4000000 in
theorem t_Siege_sightFar (S : zSR R) (V : zV g U F T B ph s)   (hQ0 : ∀ (v : Int), 0 ≤ v ∧ v ≤ 9 → Q (.inl (some (.int (Int32.ofInt v)))) (zN L X (zhi s) R G nc ns)) : zW ro 154 0 (zfst [.ref 7] 1) [] (zN L X (zhi s) R G nc ns) Q := by
  show zW ro 154 0 [some (.ref 7)] [] (zN L X (zhi s) R G nc ns) Q
  have f1 := zA_geo (zV_zA V)
  have hB0 := zV_B V
  refine zW.run 1 (pc' := 1) (ls' := [some (.ref 7)]) (st' := [.ref 7]) (σ' := (zN L X (zhi s) R G nc ns)) (fun n => rfl) ?_
  refine zW.callV rfl (by decide) rfl rfl rfl rfl rfl (Nat.le_of_ble_eq_true rfl) ?_
  refine t_Siege_isNight S V ?_ ?_
  · skip
    show zW ro 154 4 [some (.ref 7)] [.int (Int32.ofInt 1)] (zN L X (zhi s) R G nc ns) Q
    refine zW.run 3 (pc' := 13) (ls' := [some (.ref 7)]) (st' := [.int (Int32.ofInt 4)]) (σ' := (zN L X (zhi s) R G nc ns)) (fun n => rfl) ?_
    exact zW.jret rfl rfl (hQ0 4 (by omega))
  · skip
    show zW ro 154 4 [some (.ref 7)] [.int (Int32.ofInt 0)] (zN L X (zhi s) R G nc ns) Q
    refine zW.run 2 (pc' := 13) (ls' := [some (.ref 7)]) (st' := [.int (Int32.ofInt 9)]) (σ' := (zN L X (zhi s) R G nc ns)) (fun n => rfl) ?_
    exact zW.jret rfl rfl (hQ0 9 (by omega))
set_option maxHeartbeats 4000000 in
theorem t_Siege_hourOfDay (S : zSR R) (V : zV g U F T B ph s)   (hQ0 : ∀ (v : Int), 0 ≤ v ∧ v ≤ 23 → Q (.inl (some (.int (Int32.ofInt v)))) (zN L X (zhi s) R G nc ns)) : zW ro 139 0 (zfst [.ref 7] 1) [] (zN L X (zhi s) R G nc ns) Q := by
  show zW ro 139 0 [some (.ref 7)] [] (zN L X (zhi s) R G nc ns) Q
  have f1 := zA_geo (zV_zA V)
  have hB0 := zV_B V
  refine zW.run 1 (pc' := 1) (ls' := [some (.ref 7)]) (st' := [.ref 7]) (σ' := (zN L X (zhi s) R G nc ns)) (fun n => rfl) ?_
  have f2 := zV_sie V
  refine zW.run 2 (pc' := 6) (ls' := [some (.ref 7)]) (st' := [.int (Int32.ofInt 24), .int (Int32.ofInt (s 7 10))]) (σ' := (zN L X (zhi s) R G nc ns)) (fun n => rfl) ?_
  refine zW.jrem rfl (by omega) ?_
  exact zW.jret rfl rfl (hQ0 ((s 7 10) % 24) (by omega))
set_option maxHeartbeats 4000000 in
theorem t_Siege_homeOf (S : zSR R) (V : zV g U F T B ph s) {x : Int} (p0 : -2147483648 ≤ x ∧ x < 2147483648) (hQ0 : ∀ (v : Int), 0 ≤ v ∧ v < g 2 → Q (.inl (some (.int (Int32.ofInt v)))) (zN L X (zhi s) R G nc ns)) : zW ro 138 0 (zfst [.ref 7, .int (Int32.ofInt x)] 2) [] (zN L X (zhi s) R G nc ns) Q := by
  show zW ro 138 0 [some (.ref 7), some (.int (Int32.ofInt x))] [] (zN L X (zhi s) R G nc ns) Q
  have f1 := zA_geo (zV_zA V)
  have hB0 := zV_B V
  refine zW.run 2 (pc' := 2) (ls' := [some (.ref 7), some (.int (Int32.ofInt x))]) (st' := [.int (Int32.ofInt 1), .int (Int32.ofInt x)]) (σ' := (zN L X (zhi s) R G nc ns)) (fun n => rfl) ?_
  refine zW.jcmp_ne rfl (by omega) (fun c2 => ?_) (fun c2 => ?_)
  · skip
    refine zW.run 1 (pc' := 16) (ls' := [some (.ref 7), some (.int (Int32.ofInt x))]) (st' := [.ref 7]) (σ' := (zN L X (zhi s) R G nc ns)) (fun n => rfl) ?_
    refine zW.getf (v := .ref 8) rfl rfl (zr_7_0 S) ?_
    refine zW.run 1 (pc' := 22) (ls' := [some (.ref 7), some (.int (Int32.ofInt x))]) (st' := [.int (Int32.ofInt (s 8 12))]) (σ' := (zN L X (zhi s) R G nc ns)) (fun n => rfl) ?_
    exact zW.jret rfl rfl (hQ0 (s 8 12) (by omega))
  · skip
    refine zW.run 1 (pc' := 6) (ls' := [some (.ref 7), some (.int (Int32.ofInt x))]) (st' := [.ref 7]) (σ' := (zN L X (zhi s) R G nc ns)) (fun n => rfl) ?_
    refine zW.getf (v := .ref 8) rfl rfl (zr_7_0 S) ?_
    refine zW.run 2 (pc' := 22) (ls' := [some (.ref 7), some (.int (Int32.ofInt x))]) (st' := [.int (Int32.ofInt (s 8 13))]) (σ' := (zN L X (zhi s) R G nc ns)) (fun n => rfl) ?_
    exact zW.jret rfl rfl (hQ0 (s 8 13) (by omega))
set_option maxHeartbeats 4000000 in
theorem t_Gunnery_canReach (S : zSR R) (V : zV g U F T B ph s) {i : Nat} {y : Int} (p0 : i < 16) (p1 : -2147483648 ≤ y ∧ y < 2147483648) (hQ0 : Q (.inl (some (.int (Int32.ofInt 1)))) (zN L X (zhi s) R G nc ns)) (hQ1 : Q (.inl (some (.int (Int32.ofInt 0)))) (zN L X (zhi s) R G nc ns)) : zW ro 87 0 (zfst [.ref 7, .ref (26 + i), .int (Int32.ofInt y)] 4) [] (zN L X (zhi s) R G nc ns) Q := by
  show zW ro 87 0 [some (.ref 7), some (.ref (26 + i)), some (.int (Int32.ofInt y)), none] [] (zN L X (zhi s) R G nc ns) Q
  have f1 := zA_geo (zV_zA V)
  have hB0 := zV_B V
  refine zW.run 1 (pc' := 1) (ls' := [some (.ref 7), some (.ref (26 + i)), some (.int (Int32.ofInt y)), none]) (st' := [.ref (26 + i)]) (σ' := (zN L X (zhi s) R G nc ns)) (fun n => rfl) ?_
  have f2 := zV_gun V (i := i) (by omega)
  refine zW.jget (v := (s (26 + i) 2)) rfl (zk_gun (by omega)) (fun _ _ _ => rfl) rfl ?_
  refine zW.run 1 (pc' := 5) (ls' := [some (.ref 7), some (.ref (26 + i)), some (.int (Int32.ofInt y)), none]) (st' := [.int (Int32.ofInt 3), .int (Int32.ofInt (s (26 + i) 2))]) (σ' := (zN L X (zhi s) R G nc ns)) (fun n => rfl) ?_
  refine zW.jcmp_eq rfl (by omega) (fun c3 => ?_) (fun c3 => ?_)
  · skip
    refine zW.run 1 (pc' := 26) (ls' := [some (.ref 7), some (.ref (26 + i)), some (.int (Int32.ofInt y)), none]) (st' := [.ref 7]) (σ' := (zN L X (zhi s) R G nc ns)) (fun n => rfl) ?_
    refine zW.getf (v := .ref 8) rfl rfl (zr_7_0 S) ?_
    refine zW.run 1 (pc' := 30) (ls' := [some (.ref 7), some (.ref (26 + i)), some (.int (Int32.ofInt y)), none]) (st' := [.ref (26 + i), .ref 8]) (σ' := (zN L X (zhi s) R G nc ns)) (fun n => rfl) ?_
    refine zW.jget (v := (s (26 + i) 1)) rfl (zk_gun (by omega)) (fun _ _ _ => rfl) rfl ?_
    refine zW.run 1 (pc' := 34) (ls' := [some (.ref 7), some (.ref (26 + i)), some (.int (Int32.ofInt y)), none]) (st' := [.int (Int32.ofInt y), .int (Int32.ofInt (s (26 + i) 1)), .ref 8]) (σ' := (zN L X (zhi s) R G nc ns)) (fun n => rfl) ?_
    refine zW.callV rfl (by decide) rfl rfl rfl rfl rfl (Nat.le_of_ble_eq_true rfl) ?_
    refine t_Ground_far S (zV_zA V) (a := (s (26 + i) 1)) (b := y) (by omega) (by omega) (fun v_4 f5 => ?_)
    show zW ro 87 37 [some (.ref 7), some (.ref (26 + i)), some (.int (Int32.ofInt y)), none] [.int (Int32.ofInt v_4)] (zN L X (zhi s) R G nc ns) Q
    refine zW.run 3 (pc' := 40) (ls' := [some (.ref 7), some (.ref (26 + i)), some (.int (Int32.ofInt y)), some (.int (Int32.ofInt v_4))]) (st' := [.int (Int32.ofInt 3), .int (Int32.ofInt v_4)]) (σ' := (zN L X (zhi s) R G nc ns)) (fun n => rfl) ?_
    refine zW.jcmp_lt rfl (by omega) (fun c6 => ?_) (fun c6 => ?_)
    · skip
      refine zW.run 1 (pc' := 54) (ls' := [some (.ref 7), some (.ref (26 + i)), some (.int (Int32.ofInt y)), some (.int (Int32.ofInt v_4))]) (st' := [.int (Int32.ofInt 0)]) (σ' := (zN L X (zhi s) R G nc ns)) (fun n => rfl) ?_
      exact zW.jretb rfl rfl (by decide) hQ1
    · skip
      refine zW.run 2 (pc' := 46) (ls' := [some (.ref 7), some (.ref (26 + i)), some (.int (Int32.ofInt y)), some (.int (Int32.ofInt v_4))]) (st' := [.int (Int32.ofInt 8), .int (Int32.ofInt v_4)]) (σ' := (zN L X (zhi s) R G nc ns)) (fun n => rfl) ?_
      refine zW.jcmp_gt rfl (by omega) (fun c7 => ?_) (fun c7 => ?_)
      · skip
        refine zW.run 1 (pc' := 54) (ls' := [some (.ref 7), some (.ref (26 + i)), some (.int (Int32.ofInt y)), some (.int (Int32.ofInt v_4))]) (st' := [.int (Int32.ofInt 0)]) (σ' := (zN L X (zhi s) R G nc ns)) (fun n => rfl) ?_
        exact zW.jretb rfl rfl (by decide) hQ1
      · skip
        refine zW.run 2 (pc' := 54) (ls' := [some (.ref 7), some (.ref (26 + i)), some (.int (Int32.ofInt y)), some (.int (Int32.ofInt v_4))]) (st' := [.int (Int32.ofInt 1)]) (σ' := (zN L X (zhi s) R G nc ns)) (fun n => rfl) ?_
        exact zW.jretb rfl rfl (by decide) hQ0
  · skip
    refine zW.run 1 (pc' := 9) (ls' := [some (.ref 7), some (.ref (26 + i)), some (.int (Int32.ofInt y)), none]) (st' := [.ref 7]) (σ' := (zN L X (zhi s) R G nc ns)) (fun n => rfl) ?_
    refine zW.getf (v := .ref 8) rfl rfl (zr_7_0 S) ?_
    refine zW.run 1 (pc' := 13) (ls' := [some (.ref 7), some (.ref (26 + i)), some (.int (Int32.ofInt y)), none]) (st' := [.ref (26 + i), .ref 8]) (σ' := (zN L X (zhi s) R G nc ns)) (fun n => rfl) ?_
    refine zW.jget (v := (s (26 + i) 1)) rfl (zk_gun (by omega)) (fun _ _ _ => rfl) rfl ?_
    refine zW.run 2 (pc' := 18) (ls' := [some (.ref 7), some (.ref (26 + i)), some (.int (Int32.ofInt y)), none]) (st' := [.ref 7, .int (Int32.ofInt y), .int (Int32.ofInt (s (26 + i) 1)), .ref 8]) (σ' := (zN L X (zhi s) R G nc ns)) (fun n => rfl) ?_
    refine zW.callV rfl (by decide) rfl rfl rfl rfl rfl (Nat.le_of_ble_eq_true rfl) ?_
    refine t_Siege_sightFar S V (fun v_8 f9 => ?_)
    show zW ro 87 21 [some (.ref 7), some (.ref (26 + i)), some (.int (Int32.ofInt y)), none] [.int (Int32.ofInt v_8), .int (Int32.ofInt y), .int (Int32.ofInt (s (26 + i) 1)), .ref 8] (zN L X (zhi s) R G nc ns) Q
    refine zW.callV rfl (by decide) rfl rfl rfl rfl rfl (Nat.le_of_ble_eq_true rfl) ?_
    refine t_Ground_isSeen S V (a := (s (26 + i) 1)) (b := y) (d := v_8) (by omega) (by omega) (by omega) ?_ (fun f10 => ?_)
    · skip
      show zW ro 87 24 [some (.ref 7), some (.ref (26 + i)), some (.int (Int32.ofInt y)), none] [.int (Int32.ofInt 1)] (zN L X (zhi s) R G nc ns) Q
      exact zW.jretb rfl rfl (by decide) hQ0
    · skip
      show zW ro 87 24 [some (.ref 7), some (.ref (26 + i)), some (.int (Int32.ofInt y)), none] [.int (Int32.ofInt 0)] (zN L X (zhi s) R G nc ns) Q
      exact zW.jretb rfl rfl (by decide) hQ1
set_option maxHeartbeats 4000000 in
theorem t_Gunnery_shotsOf (S : zSR R) (V : zV g U F T B ph s) {i : Nat} (p0 : i < 16) (hQ0 : ∀ (v : Int), 0 ≤ v ∧ v ≤ 4 - s (26 + i) 3 → (0 < v → s (26 + i) 5 = 0 ∧ 0 ≤ s (26 + i) 6 ∧ ¬ s (26 + i) 0 = -1) → (s (26 + i) 0 = 1 → v * s (26 + i) 2 ≤ s 22 0) → (¬ s (26 + i) 0 = 1 → v * s (26 + i) 2 ≤ s 21 0) → Q (.inl (some (.int (Int32.ofInt v)))) (zN L X (zhi s) R G nc ns)) : zW ro 92 0 (zfst [.ref 7, .ref (26 + i)] 4) [] (zN L X (zhi s) R G nc ns) Q := by
  show zW ro 92 0 [some (.ref 7), some (.ref (26 + i)), none, none] [] (zN L X (zhi s) R G nc ns) Q
  have f1 := zA_geo (zV_zA V)
  have hB0 := zV_B V
  have f2 := zV_sid V (o := 21) (by omega)
  have f3 := zV_sid V (o := 22) (by omega)
  have f4 := zV_gun V (i := i) (by omega)
  refine zW.run 1 (pc' := 1) (ls' := [some (.ref 7), some (.ref (26 + i)), none, none]) (st' := [.ref (26 + i)]) (σ' := (zN L X (zhi s) R G nc ns)) (fun n => rfl) ?_
  refine zW.callV rfl (by decide) rfl rfl rfl rfl (zk_gun (by omega)) (Nat.le_of_ble_eq_true rfl) ?_
  refine t_Gun_isPlaced S V (i := i) (by omega) (fun f5 => ?_) (fun f6 => ?_)
  · skip
    show zW ro 92 4 [some (.ref 7), some (.ref (26 + i)), none, none] [.int (Int32.ofInt 1)] (zN L X (zhi s) R G nc ns) Q
    refine zW.run 2 (pc' := 8) (ls' := [some (.ref 7), some (.ref (26 + i)), none, none]) (st' := [.ref (26 + i)]) (σ' := (zN L X (zhi s) R G nc ns)) (fun n => rfl) ?_
    refine zW.jget (v := (s (26 + i) 5)) rfl (zk_gun (by omega)) (fun _ _ _ => rfl) rfl ?_
    refine zW.jif_ne rfl (by omega) (fun c7 => ?_) (fun c7 => ?_)
    · skip
      refine zW.run 1 (pc' := 43) (ls' := [some (.ref 7), some (.ref (26 + i)), none, none]) (st' := [.int (Int32.ofInt 0)]) (σ' := (zN L X (zhi s) R G nc ns)) (fun n => rfl) ?_
      exact zW.jret rfl rfl (hQ0 0 (by omega) (by omega) (by omega) (by omega))
    · skip
      refine zW.run 1 (pc' := 15) (ls' := [some (.ref 7), some (.ref (26 + i)), none, none]) (st' := [.ref (26 + i)]) (σ' := (zN L X (zhi s) R G nc ns)) (fun n => rfl) ?_
      refine zW.jget (v := (s (26 + i) 6)) rfl (zk_gun (by omega)) (fun _ _ _ => rfl) rfl ?_
      refine zW.run 1 (pc' := 19) (ls' := [some (.ref 7), some (.ref (26 + i)), none, none]) (st' := [.int (Int32.ofInt (-1)), .int (Int32.ofInt (s (26 + i) 6))]) (σ' := (zN L X (zhi s) R G nc ns)) (fun n => rfl) ?_
      refine zW.jcmp_eq rfl (by omega) (fun c8 => ?_) (fun c8 => ?_)
      · skip
        refine zW.run 1 (pc' := 43) (ls' := [some (.ref 7), some (.ref (26 + i)), none, none]) (st' := [.int (Int32.ofInt 0)]) (σ' := (zN L X (zhi s) R G nc ns)) (fun n => rfl) ?_
        exact zW.jret rfl rfl (hQ0 0 (by omega) (by omega) (by omega) (by omega))
      · skip
        refine zW.run 1 (pc' := 23) (ls' := [some (.ref 7), some (.ref (26 + i)), none, none]) (st' := [.ref (26 + i)]) (σ' := (zN L X (zhi s) R G nc ns)) (fun n => rfl) ?_
        refine zW.jget (v := (s (26 + i) 2)) rfl (zk_gun (by omega)) (fun _ _ _ => rfl) rfl ?_
        refine zW.run 1 (pc' := 27) (ls' := [some (.ref 7), some (.ref (26 + i)), none, none]) (st' := [.int (Int32.ofInt 1), .int (Int32.ofInt (s (26 + i) 2))]) (σ' := (zN L X (zhi s) R G nc ns)) (fun n => rfl) ?_
        refine zW.jcmp_lt rfl (by omega) (fun c9 => ?_) (fun c9 => ?_)
        · skip
          refine zW.run 1 (pc' := 43) (ls' := [some (.ref 7), some (.ref (26 + i)), none, none]) (st' := [.int (Int32.ofInt 0)]) (σ' := (zN L X (zhi s) R G nc ns)) (fun n => rfl) ?_
          exact zW.jret rfl rfl (hQ0 0 (by omega) (by omega) (by omega) (by omega))
        · skip
          refine zW.run 3 (pc' := 33) (ls' := [some (.ref 7), some (.ref (26 + i)), none, none]) (st' := [.ref (26 + i), .ref (26 + i), .ref 7]) (σ' := (zN L X (zhi s) R G nc ns)) (fun n => rfl) ?_
          refine zW.jget (v := (s (26 + i) 6)) rfl (zk_gun (by omega)) (fun _ _ _ => rfl) rfl ?_
          refine zW.callS rfl rfl rfl rfl rfl (Nat.le_of_ble_eq_true rfl) ?_
          refine t_Gunnery_canReach S V (i := i) (y := (s (26 + i) 6)) (by omega) (by omega) ?_ ?_
          · skip
            show zW ro 92 39 [some (.ref 7), some (.ref (26 + i)), none, none] [.int (Int32.ofInt 1)] (zN L X (zhi s) R G nc ns) Q
            refine zW.run 3 (pc' := 46) (ls' := [some (.ref 7), some (.ref (26 + i)), none, none]) (st' := [.ref (26 + i), .ref 7]) (σ' := (zN L X (zhi s) R G nc ns)) (fun n => rfl) ?_
            refine zW.jget (v := (s (26 + i) 0)) rfl (zk_gun (by omega)) (fun _ _ _ => rfl) rfl ?_
            refine zW.callV rfl (by decide) rfl rfl rfl rfl rfl (Nat.le_of_ble_eq_true rfl) ?_
            refine t_Siege_of S (x := (s (26 + i) 0)) (by omega) (fun o_10 f11 => ?_)
            show zW ro 92 52 [some (.ref 7), some (.ref (26 + i)), none, none] [.ref o_10] (zN L X (zhi s) R G nc ns) Q
            have f12 := zV_sid V (o := o_10) (by omega)
            refine zW.jget (v := (s o_10 0)) rfl (zk_sid (by omega)) (fun _ _ _ => rfl) rfl ?_
            refine zW.run 1 (pc' := 56) (ls' := [some (.ref 7), some (.ref (26 + i)), none, none]) (st' := [.ref (26 + i), .int (Int32.ofInt (s o_10 0))]) (σ' := (zN L X (zhi s) R G nc ns)) (fun n => rfl) ?_
            refine zW.jget (v := (s (26 + i) 2)) rfl (zk_gun (by omega)) (fun _ _ _ => rfl) rfl ?_
            refine zW.jdiv rfl (by omega) ?_
            have hd0 := Int.ediv_nonneg (a := s o_10 0) (b := s (26 + i) 2) (by omega) (by omega)
            have hd1 := Int.ediv_le_self (a := s o_10 0) (s (26 + i) 2) (by omega)
            refine zW.run 3 (pc' := 63) (ls' := [some (.ref 7), some (.ref (26 + i)), some (.int (Int32.ofInt ((s o_10 0) / (s (26 + i) 2)))), none]) (st' := [.ref (26 + i), .int (Int32.ofInt 4)]) (σ' := (zN L X (zhi s) R G nc ns)) (fun n => rfl) ?_
            refine zW.jget (v := (s (26 + i) 3)) rfl (zk_gun (by omega)) (fun _ _ _ => rfl) rfl ?_
            refine zW.jsub rfl ?_
            refine zW.run 3 (pc' := 70) (ls' := [some (.ref 7), some (.ref (26 + i)), some (.int (Int32.ofInt ((s o_10 0) / (s (26 + i) 2)))), some (.int (Int32.ofInt (4 - (s (26 + i) 3))))]) (st' := [.int (Int32.ofInt ((s o_10 0) / (s (26 + i) 2))), .int (Int32.ofInt (4 - (s (26 + i) 3)))]) (σ' := (zN L X (zhi s) R G nc ns)) (fun n => rfl) ?_
            refine zW.jcmp_ge rfl (by omega) (fun c13 => ?_) (fun c13 => ?_)
            · skip
              refine zW.run 1 (pc' := 78) (ls' := [some (.ref 7), some (.ref (26 + i)), some (.int (Int32.ofInt ((s o_10 0) / (s (26 + i) 2)))), some (.int (Int32.ofInt (4 - (s (26 + i) 3))))]) (st' := [.int (Int32.ofInt ((s o_10 0) / (s (26 + i) 2)))]) (σ' := (zN L X (zhi s) R G nc ns)) (fun n => rfl) ?_
              exact zW.jret rfl rfl (hQ0 ((s o_10 0) / (s (26 + i) 2)) (by omega) (by omega) (fun hs => by have e : o_10 = 22 := (by omega); subst e; exact zsh (by omega) (by omega)) (fun hs => by have e : o_10 = 21 := (by omega); subst e; exact zsh (by omega) (by omega)))
            · skip
              refine zW.run 2 (pc' := 78) (ls' := [some (.ref 7), some (.ref (26 + i)), some (.int (Int32.ofInt ((s o_10 0) / (s (26 + i) 2)))), some (.int (Int32.ofInt (4 - (s (26 + i) 3))))]) (st' := [.int (Int32.ofInt (4 - (s (26 + i) 3)))]) (σ' := (zN L X (zhi s) R G nc ns)) (fun n => rfl) ?_
              exact zW.jret rfl rfl (hQ0 (4 - (s (26 + i) 3)) (by omega) (by omega) (fun hs => by have e : o_10 = 22 := (by omega); subst e; exact zsh (by omega) (by omega)) (fun hs => by have e : o_10 = 21 := (by omega); subst e; exact zsh (by omega) (by omega)))
          · skip
            show zW ro 92 39 [some (.ref 7), some (.ref (26 + i)), none, none] [.int (Int32.ofInt 0)] (zN L X (zhi s) R G nc ns) Q
            refine zW.run 2 (pc' := 43) (ls' := [some (.ref 7), some (.ref (26 + i)), none, none]) (st' := [.int (Int32.ofInt 0)]) (σ' := (zN L X (zhi s) R G nc ns)) (fun n => rfl) ?_
            exact zW.jret rfl rfl (hQ0 0 (by omega) (by omega) (by omega) (by omega))
  · skip
    show zW ro 92 4 [some (.ref 7), some (.ref (26 + i)), none, none] [.int (Int32.ofInt 0)] (zN L X (zhi s) R G nc ns) Q
    refine zW.run 2 (pc' := 43) (ls' := [some (.ref 7), some (.ref (26 + i)), none, none]) (st' := [.int (Int32.ofInt 0)]) (σ' := (zN L X (zhi s) R G nc ns)) (fun n => rfl) ?_
    exact zW.jret rfl rfl (hQ0 0 (by omega) (by omega) (by omega) (by omega))
set_option maxHeartbeats 4000000 in
theorem t_Gunnery_gunsSeeing (S : zSR R) (V : zV g U F T B ph s) {x : Int} {y : Int} (p0 : -2147483648 ≤ x ∧ x < 2147483648) (p1 : -2147483648 ≤ y ∧ y < 2147483648) (hQ0 : ∀ (v : Int), 0 ≤ v ∧ v ≤ 16 → Q (.inl (some (.int (Int32.ofInt v)))) (zN L X (zhi s) R G nc ns)) : zW ro 89 0 (zfst [.ref 7, .int (Int32.ofInt x), .int (Int32.ofInt y)] 8) [] (zN L X (zhi s) R G nc ns) Q := by
  show zW ro 89 0 [some (.ref 7), some (.int (Int32.ofInt x)), some (.int (Int32.ofInt y)), none, none, none, none, none] [] (zN L X (zhi s) R G nc ns) Q
  have f1 := zA_geo (zV_zA V)
  have hB0 := zV_B V
  refine zW.run 3 (pc' := 3) (ls' := [some (.ref 7), some (.int (Int32.ofInt x)), some (.int (Int32.ofInt y)), some (.int (Int32.ofInt 0)), none, none, none, none]) (st' := [.ref 7]) (σ' := (zN L X (zhi s) R G nc ns)) (fun n => rfl) ?_
  refine zW.getf (v := .ref 18) rfl rfl (zr_7_1 S) ?_
  refine zW.run 2 (pc' := 10) (ls' := [some (.ref 7), some (.int (Int32.ofInt x)), some (.int (Int32.ofInt y)), some (.int (Int32.ofInt 0)), some (.ref 18), none, none, none]) (st' := [.ref 18]) (σ' := (zN L X (zhi s) R G nc ns)) (fun n => rfl) ?_
  refine zW.alen rfl rfl (by decide) ?_
  show zW ro 89 11 [some (.ref 7), some (.int (Int32.ofInt x)), some (.int (Int32.ofInt y)), some (.int (Int32.ofInt 0)), some (.ref 18), none, none, none] [.int (Int32.ofInt 16)] (zN L X (zhi s) R G nc ns) Q
  refine zW.run 3 (pc' := 16) (ls' := [some (.ref 7), some (.int (Int32.ofInt x)), some (.int (Int32.ofInt y)), some (.int (Int32.ofInt 0)), some (.ref 18), some (.int (Int32.ofInt 16)), some (.int (Int32.ofInt 0)), none]) (st' := []) (σ' := (zN L X (zhi s) R G nc ns)) (fun n => rfl) ?_
  have J7 : ∀ m : Nat, ∀ (i_2 : Nat) (a_3 : Int) (w4 : Option Value), i_2 ≤ 16 → 0 ≤ a_3 ∧ a_3 ≤ i_2 → 17 - i_2 < m → zW ro 89 16 [some (.ref 7), some (.int (Int32.ofInt x)), some (.int (Int32.ofInt y)), some (.int (Int32.ofInt a_3)), some (.ref 18), some (.int (Int32.ofInt 16)), some (.int (Int32.ofInt (i_2 : Int))), w4] [] (zN L X (zhi s) R G nc ns) Q := by
    intro m
    induction m with
    | zero => intros; omega
    | succ m ih8 =>
      intro i_2 a_3 w4 c5 c6 hm9
      refine zW.run 2 (pc' := 20) (ls' := [some (.ref 7), some (.int (Int32.ofInt x)), some (.int (Int32.ofInt y)), some (.int (Int32.ofInt a_3)), some (.ref 18), some (.int (Int32.ofInt 16)), some (.int (Int32.ofInt (i_2 : Int))), w4]) (st' := [.int (Int32.ofInt 16), .int (Int32.ofInt (i_2 : Int))]) (σ' := (zN L X (zhi s) R G nc ns)) (fun n => rfl) ?_
      refine zW.jcmp_ge rfl (by omega) (fun c10 => ?_) (fun c10 => ?_)
      · skip
        refine zW.run 1 (pc' := 69) (ls' := [some (.ref 7), some (.int (Int32.ofInt x)), some (.int (Int32.ofInt y)), some (.int (Int32.ofInt a_3)), some (.ref 18), some (.int (Int32.ofInt 16)), some (.int (Int32.ofInt (i_2 : Int))), w4]) (st' := [.int (Int32.ofInt a_3)]) (σ' := (zN L X (zhi s) R G nc ns)) (fun n => rfl) ?_
        exact zW.jret rfl rfl (hQ0 a_3 (by omega))
      · skip
        refine zW.run 2 (pc' := 27) (ls' := [some (.ref 7), some (.int (Int32.ofInt x)), some (.int (Int32.ofInt y)), some (.int (Int32.ofInt a_3)), some (.ref 18), some (.int (Int32.ofInt 16)), some (.int (Int32.ofInt (i_2 : Int))), w4]) (st' := [.int (Int32.ofInt (i_2 : Int)), .ref 18]) (σ' := (zN L X (zhi s) R G nc ns)) (fun n => rfl) ?_
        refine zW.jaald (n := 16) (v := .ref (26 + i_2)) rfl rfl (by decide) (by decide) (by omega) (zr_gun S (by omega)) ?_
        refine zW.run 3 (pc' := 33) (ls' := [some (.ref 7), some (.int (Int32.ofInt x)), some (.int (Int32.ofInt y)), some (.int (Int32.ofInt a_3)), some (.ref 18), some (.int (Int32.ofInt 16)), some (.int (Int32.ofInt (i_2 : Int))), some (.ref (26 + i_2))]) (st' := [.int (Int32.ofInt x), .ref (26 + i_2)]) (σ' := (zN L X (zhi s) R G nc ns)) (fun n => rfl) ?_
        refine zW.callV rfl (by decide) rfl rfl rfl rfl (zk_gun (by omega)) (Nat.le_of_ble_eq_true rfl) ?_
        refine t_Gun_isReadyOf S V (i := i_2) (x := x) (by omega) (by omega) (fun f11 f12 => ?_) (fun f13 => ?_)
        · skip
          show zW ro 89 36 [some (.ref 7), some (.int (Int32.ofInt x)), some (.int (Int32.ofInt y)), some (.int (Int32.ofInt a_3)), some (.ref 18), some (.int (Int32.ofInt 16)), some (.int (Int32.ofInt (i_2 : Int))), some (.ref (26 + i_2))] [.int (Int32.ofInt 1)] (zN L X (zhi s) R G nc ns) Q
          refine zW.run 2 (pc' := 40) (ls' := [some (.ref 7), some (.int (Int32.ofInt x)), some (.int (Int32.ofInt y)), some (.int (Int32.ofInt a_3)), some (.ref 18), some (.int (Int32.ofInt 16)), some (.int (Int32.ofInt (i_2 : Int))), some (.ref (26 + i_2))]) (st' := [.ref 7]) (σ' := (zN L X (zhi s) R G nc ns)) (fun n => rfl) ?_
          refine zW.getf (v := .ref 8) rfl rfl (zr_7_0 S) ?_
          refine zW.run 1 (pc' := 45) (ls' := [some (.ref 7), some (.int (Int32.ofInt x)), some (.int (Int32.ofInt y)), some (.int (Int32.ofInt a_3)), some (.ref 18), some (.int (Int32.ofInt 16)), some (.int (Int32.ofInt (i_2 : Int))), some (.ref (26 + i_2))]) (st' := [.ref (26 + i_2), .ref 8]) (σ' := (zN L X (zhi s) R G nc ns)) (fun n => rfl) ?_
          have f14 := zV_gun V (i := i_2) (by omega)
          refine zW.jget (v := (s (26 + i_2) 1)) rfl (zk_gun (by omega)) (fun _ _ _ => rfl) rfl ?_
          refine zW.run 2 (pc' := 50) (ls' := [some (.ref 7), some (.int (Int32.ofInt x)), some (.int (Int32.ofInt y)), some (.int (Int32.ofInt a_3)), some (.ref 18), some (.int (Int32.ofInt 16)), some (.int (Int32.ofInt (i_2 : Int))), some (.ref (26 + i_2))]) (st' := [.ref 7, .int (Int32.ofInt y), .int (Int32.ofInt (s (26 + i_2) 1)), .ref 8]) (σ' := (zN L X (zhi s) R G nc ns)) (fun n => rfl) ?_
          refine zW.callV rfl (by decide) rfl rfl rfl rfl rfl (Nat.le_of_ble_eq_true rfl) ?_
          refine t_Siege_sightFar S V (fun v_15 f16 => ?_)
          show zW ro 89 53 [some (.ref 7), some (.int (Int32.ofInt x)), some (.int (Int32.ofInt y)), some (.int (Int32.ofInt a_3)), some (.ref 18), some (.int (Int32.ofInt 16)), some (.int (Int32.ofInt (i_2 : Int))), some (.ref (26 + i_2))] [.int (Int32.ofInt v_15), .int (Int32.ofInt y), .int (Int32.ofInt (s (26 + i_2) 1)), .ref 8] (zN L X (zhi s) R G nc ns) Q
          refine zW.callV rfl (by decide) rfl rfl rfl rfl rfl (Nat.le_of_ble_eq_true rfl) ?_
          refine t_Ground_isSeen S V (a := (s (26 + i_2) 1)) (b := y) (d := v_15) (by omega) (by omega) (by omega) ?_ (fun f17 => ?_)
          · skip
            show zW ro 89 56 [some (.ref 7), some (.int (Int32.ofInt x)), some (.int (Int32.ofInt y)), some (.int (Int32.ofInt a_3)), some (.ref 18), some (.int (Int32.ofInt 16)), some (.int (Int32.ofInt (i_2 : Int))), some (.ref (26 + i_2))] [.int (Int32.ofInt 1)] (zN L X (zhi s) R G nc ns) Q
            refine zW.run 1 (pc' := 59) (ls' := [some (.ref 7), some (.int (Int32.ofInt x)), some (.int (Int32.ofInt y)), some (.int (Int32.ofInt a_3)), some (.ref 18), some (.int (Int32.ofInt 16)), some (.int (Int32.ofInt (i_2 : Int))), some (.ref (26 + i_2))]) (st' := []) (σ' := (zN L X (zhi s) R G nc ns)) (fun n => rfl) ?_
            refine zW.jinc (ls' := [some (.ref 7), some (.int (Int32.ofInt x)), some (.int (Int32.ofInt y)), some (.int (Int32.ofInt (a_3 + 1))), some (.ref 18), some (.int (Int32.ofInt 16)), some (.int (Int32.ofInt (i_2 : Int))), some (.ref (26 + i_2))]) rfl (Nat.le_of_ble_eq_true rfl) rfl rfl ?_
            refine zW.jinc (ls' := [some (.ref 7), some (.int (Int32.ofInt x)), some (.int (Int32.ofInt y)), some (.int (Int32.ofInt (a_3 + 1))), some (.ref 18), some (.int (Int32.ofInt 16)), some (.int (Int32.ofInt ((i_2 : Int) + 1))), some (.ref (26 + i_2))]) rfl (Nat.le_of_ble_eq_true rfl) rfl rfl ?_
            refine zW.run 1 (pc' := 16) (ls' := [some (.ref 7), some (.int (Int32.ofInt x)), some (.int (Int32.ofInt y)), some (.int (Int32.ofInt (a_3 + 1))), some (.ref 18), some (.int (Int32.ofInt 16)), some (.int (Int32.ofInt ((i_2 : Int) + 1))), some (.ref (26 + i_2))]) (st' := []) (σ' := (zN L X (zhi s) R G nc ns)) (fun n => rfl) ?_
            exact ih8 (i_2 + 1) (a_3 + 1) (some (.ref (26 + i_2))) (by omega) (by omega) (by omega)
          · skip
            show zW ro 89 56 [some (.ref 7), some (.int (Int32.ofInt x)), some (.int (Int32.ofInt y)), some (.int (Int32.ofInt a_3)), some (.ref 18), some (.int (Int32.ofInt 16)), some (.int (Int32.ofInt (i_2 : Int))), some (.ref (26 + i_2))] [.int (Int32.ofInt 0)] (zN L X (zhi s) R G nc ns) Q
            refine zW.run 1 (pc' := 62) (ls' := [some (.ref 7), some (.int (Int32.ofInt x)), some (.int (Int32.ofInt y)), some (.int (Int32.ofInt a_3)), some (.ref 18), some (.int (Int32.ofInt 16)), some (.int (Int32.ofInt (i_2 : Int))), some (.ref (26 + i_2))]) (st' := []) (σ' := (zN L X (zhi s) R G nc ns)) (fun n => rfl) ?_
            refine zW.jinc (ls' := [some (.ref 7), some (.int (Int32.ofInt x)), some (.int (Int32.ofInt y)), some (.int (Int32.ofInt a_3)), some (.ref 18), some (.int (Int32.ofInt 16)), some (.int (Int32.ofInt ((i_2 : Int) + 1))), some (.ref (26 + i_2))]) rfl (Nat.le_of_ble_eq_true rfl) rfl rfl ?_
            refine zW.run 1 (pc' := 16) (ls' := [some (.ref 7), some (.int (Int32.ofInt x)), some (.int (Int32.ofInt y)), some (.int (Int32.ofInt a_3)), some (.ref 18), some (.int (Int32.ofInt 16)), some (.int (Int32.ofInt ((i_2 : Int) + 1))), some (.ref (26 + i_2))]) (st' := []) (σ' := (zN L X (zhi s) R G nc ns)) (fun n => rfl) ?_
            exact ih8 (i_2 + 1) a_3 (some (.ref (26 + i_2))) (by omega) (by omega) (by omega)
        · skip
          show zW ro 89 36 [some (.ref 7), some (.int (Int32.ofInt x)), some (.int (Int32.ofInt y)), some (.int (Int32.ofInt a_3)), some (.ref 18), some (.int (Int32.ofInt 16)), some (.int (Int32.ofInt (i_2 : Int))), some (.ref (26 + i_2))] [.int (Int32.ofInt 0)] (zN L X (zhi s) R G nc ns) Q
          refine zW.run 1 (pc' := 62) (ls' := [some (.ref 7), some (.int (Int32.ofInt x)), some (.int (Int32.ofInt y)), some (.int (Int32.ofInt a_3)), some (.ref 18), some (.int (Int32.ofInt 16)), some (.int (Int32.ofInt (i_2 : Int))), some (.ref (26 + i_2))]) (st' := []) (σ' := (zN L X (zhi s) R G nc ns)) (fun n => rfl) ?_
          refine zW.jinc (ls' := [some (.ref 7), some (.int (Int32.ofInt x)), some (.int (Int32.ofInt y)), some (.int (Int32.ofInt a_3)), some (.ref 18), some (.int (Int32.ofInt 16)), some (.int (Int32.ofInt ((i_2 : Int) + 1))), some (.ref (26 + i_2))]) rfl (Nat.le_of_ble_eq_true rfl) rfl rfl ?_
          refine zW.run 1 (pc' := 16) (ls' := [some (.ref 7), some (.int (Int32.ofInt x)), some (.int (Int32.ofInt y)), some (.int (Int32.ofInt a_3)), some (.ref 18), some (.int (Int32.ofInt 16)), some (.int (Int32.ofInt ((i_2 : Int) + 1))), some (.ref (26 + i_2))]) (st' := []) (σ' := (zN L X (zhi s) R G nc ns)) (fun n => rfl) ?_
          exact ih8 (i_2 + 1) a_3 (some (.ref (26 + i_2))) (by omega) (by omega) (by omega)
  exact J7 _ 0 0 none (by omega) (by omega) (Nat.lt_succ_self _)
set_option maxHeartbeats 4000000 in
theorem t_Gunnery_lossBy (S : zSR R) (V : zV g U F T B ph s) {i : Nat} {x : Int} (p0 : i < 16) (p1 : 0 ≤ x ∧ x ≤ 4) (hQ0 : ∀ (v : Int), 0 ≤ v ∧ v ≤ 12 → Q (.inl (some (.int (Int32.ofInt v)))) (zN L X (zhi s) R G nc ns)) : zW ro 90 0 (zfst [.ref 7, .ref (26 + i), .int (Int32.ofInt x)] 4) [] (zN L X (zhi s) R G nc ns) Q := by
  show zW ro 90 0 [some (.ref 7), some (.ref (26 + i)), some (.int (Int32.ofInt x)), none] [] (zN L X (zhi s) R G nc ns) Q
  have f1 := zA_geo (zV_zA V)
  have hB0 := zV_B V
  refine zW.run 1 (pc' := 1) (ls' := [some (.ref 7), some (.ref (26 + i)), some (.int (Int32.ofInt x)), none]) (st' := [.ref (26 + i)]) (σ' := (zN L X (zhi s) R G nc ns)) (fun n => rfl) ?_
  have f2 := zV_gun V (i := i) (by omega)
  refine zW.jget (v := (s (26 + i) 2)) rfl (zk_gun (by omega)) (fun _ _ _ => rfl) rfl ?_
  refine zW.run 1 (pc' := 5) (ls' := [some (.ref 7), some (.ref (26 + i)), some (.int (Int32.ofInt x)), none]) (st' := [.int (Int32.ofInt 3), .int (Int32.ofInt (s (26 + i) 2))]) (σ' := (zN L X (zhi s) R G nc ns)) (fun n => rfl) ?_
  have J4 : ∀ (v3 : Int), (¬ (s (26 + i) 2) = 3 ∧ v3 = 0) ∨ ((s (26 + i) 2) = 3 ∧ v3 = 1) → zW ro 90 13 [some (.ref 7), some (.ref (26 + i)), some (.int (Int32.ofInt x)), none] [.int (Int32.ofInt v3)] (zN L X (zhi s) R G nc ns) Q := by
    intro v3 c5
    refine zW.run 2 (pc' := 15) (ls' := [some (.ref 7), some (.ref (26 + i)), some (.int (Int32.ofInt x)), some (.int (Int32.ofInt v3))]) (st' := [.ref 7]) (σ' := (zN L X (zhi s) R G nc ns)) (fun n => rfl) ?_
    refine zW.getf (v := .ref 8) rfl rfl (zr_7_0 S) ?_
    refine zW.run 1 (pc' := 19) (ls' := [some (.ref 7), some (.ref (26 + i)), some (.int (Int32.ofInt x)), some (.int (Int32.ofInt v3))]) (st' := [.ref (26 + i), .ref 8]) (σ' := (zN L X (zhi s) R G nc ns)) (fun n => rfl) ?_
    refine zW.jget (v := (s (26 + i) 6)) rfl (zk_gun (by omega)) (fun _ _ _ => rfl) rfl ?_
    refine zW.callV rfl (by decide) rfl rfl rfl rfl rfl (Nat.le_of_ble_eq_true rfl) ?_
    refine t_Ground_workOf S V (x := (s (26 + i) 6)) (by omega) (fun v_6 f7 f8 => ?_)
    show zW ro 90 25 [some (.ref 7), some (.ref (26 + i)), some (.int (Int32.ofInt x)), some (.int (Int32.ofInt v3))] [.int (Int32.ofInt v_6)] (zN L X (zhi s) R G nc ns) Q
    refine zW.jtab rfl (by omega) (fun d9 => ?_) (fun j9 t9 d9 f9 => ?_) (by decide)
    · skip
      refine zW.run 2 (pc' := 108) (ls' := [some (.ref 7), some (.ref (26 + i)), some (.int (Int32.ofInt x)), some (.int (Int32.ofInt v3))]) (st' := [.int (Int32.ofInt 3), .int (Int32.ofInt x)]) (σ' := (zN L X (zhi s) R G nc ns)) (fun n => rfl) ?_
      refine zW.jmul rfl ?_
      exact zW.jret rfl rfl (hQ0 (x * 3) (by omega))
    match j9, d9, f9 with
    | 0, d9, f9 =>
      cases f9
      refine zW.run 1 (pc' := 95) (ls' := [some (.ref 7), some (.ref (26 + i)), some (.int (Int32.ofInt x)), some (.int (Int32.ofInt v3))]) (st' := [.int (Int32.ofInt v3)]) (σ' := (zN L X (zhi s) R G nc ns)) (fun n => rfl) ?_
      refine zW.jif_eq rfl (by omega) (fun c10 => ?_) (fun c10 => ?_)
      · skip
        refine zW.run 2 (pc' := 104) (ls' := [some (.ref 7), some (.ref (26 + i)), some (.int (Int32.ofInt x)), some (.int (Int32.ofInt v3))]) (st' := [.int (Int32.ofInt 2), .int (Int32.ofInt x)]) (σ' := (zN L X (zhi s) R G nc ns)) (fun n => rfl) ?_
        refine zW.jdiv rfl (by omega) ?_
        exact zW.jret rfl rfl (hQ0 (x / 2) (by omega))
      · skip
        refine zW.run 2 (pc' := 105) (ls' := [some (.ref 7), some (.ref (26 + i)), some (.int (Int32.ofInt x)), some (.int (Int32.ofInt v3))]) (st' := [.int (Int32.ofInt x)]) (σ' := (zN L X (zhi s) R G nc ns)) (fun n => rfl) ?_
        exact zW.jret rfl rfl (hQ0 x (by omega))
    | 1, d9, f9 =>
      cases f9
      refine zW.run 2 (pc' := 108) (ls' := [some (.ref 7), some (.ref (26 + i)), some (.int (Int32.ofInt x)), some (.int (Int32.ofInt v3))]) (st' := [.int (Int32.ofInt 3), .int (Int32.ofInt x)]) (σ' := (zN L X (zhi s) R G nc ns)) (fun n => rfl) ?_
      refine zW.jmul rfl ?_
      exact zW.jret rfl rfl (hQ0 (x * 3) (by omega))
    | 2, d9, f9 =>
      cases f9
      refine zW.run 1 (pc' := 95) (ls' := [some (.ref 7), some (.ref (26 + i)), some (.int (Int32.ofInt x)), some (.int (Int32.ofInt v3))]) (st' := [.int (Int32.ofInt v3)]) (σ' := (zN L X (zhi s) R G nc ns)) (fun n => rfl) ?_
      refine zW.jif_eq rfl (by omega) (fun c11 => ?_) (fun c11 => ?_)
      · skip
        refine zW.run 2 (pc' := 104) (ls' := [some (.ref 7), some (.ref (26 + i)), some (.int (Int32.ofInt x)), some (.int (Int32.ofInt v3))]) (st' := [.int (Int32.ofInt 2), .int (Int32.ofInt x)]) (σ' := (zN L X (zhi s) R G nc ns)) (fun n => rfl) ?_
        refine zW.jdiv rfl (by omega) ?_
        exact zW.jret rfl rfl (hQ0 (x / 2) (by omega))
      · skip
        refine zW.run 2 (pc' := 105) (ls' := [some (.ref 7), some (.ref (26 + i)), some (.int (Int32.ofInt x)), some (.int (Int32.ofInt v3))]) (st' := [.int (Int32.ofInt x)]) (σ' := (zN L X (zhi s) R G nc ns)) (fun n => rfl) ?_
        exact zW.jret rfl rfl (hQ0 x (by omega))
    | 3, d9, f9 =>
      cases f9
      refine zW.run 1 (pc' := 95) (ls' := [some (.ref 7), some (.ref (26 + i)), some (.int (Int32.ofInt x)), some (.int (Int32.ofInt v3))]) (st' := [.int (Int32.ofInt v3)]) (σ' := (zN L X (zhi s) R G nc ns)) (fun n => rfl) ?_
      refine zW.jif_eq rfl (by omega) (fun c12 => ?_) (fun c12 => ?_)
      · skip
        refine zW.run 2 (pc' := 104) (ls' := [some (.ref 7), some (.ref (26 + i)), some (.int (Int32.ofInt x)), some (.int (Int32.ofInt v3))]) (st' := [.int (Int32.ofInt 2), .int (Int32.ofInt x)]) (σ' := (zN L X (zhi s) R G nc ns)) (fun n => rfl) ?_
        refine zW.jdiv rfl (by omega) ?_
        exact zW.jret rfl rfl (hQ0 (x / 2) (by omega))
      · skip
        refine zW.run 2 (pc' := 105) (ls' := [some (.ref 7), some (.ref (26 + i)), some (.int (Int32.ofInt x)), some (.int (Int32.ofInt v3))]) (st' := [.int (Int32.ofInt x)]) (σ' := (zN L X (zhi s) R G nc ns)) (fun n => rfl) ?_
        exact zW.jret rfl rfl (hQ0 x (by omega))
    | 4, d9, f9 =>
      cases f9
      refine zW.run 1 (pc' := 61) (ls' := [some (.ref 7), some (.ref (26 + i)), some (.int (Int32.ofInt x)), some (.int (Int32.ofInt v3))]) (st' := [.int (Int32.ofInt v3)]) (σ' := (zN L X (zhi s) R G nc ns)) (fun n => rfl) ?_
      refine zW.jif_ne rfl (by omega) (fun c13 => ?_) (fun c13 => ?_)
      · skip
        refine zW.run 1 (pc' := 93) (ls' := [some (.ref 7), some (.ref (26 + i)), some (.int (Int32.ofInt x)), some (.int (Int32.ofInt v3))]) (st' := [.int (Int32.ofInt x)]) (σ' := (zN L X (zhi s) R G nc ns)) (fun n => rfl) ?_
        exact zW.jret rfl rfl (hQ0 x (by omega))
      · skip
        refine zW.run 1 (pc' := 65) (ls' := [some (.ref 7), some (.ref (26 + i)), some (.int (Int32.ofInt x)), some (.int (Int32.ofInt v3))]) (st' := [.ref 7]) (σ' := (zN L X (zhi s) R G nc ns)) (fun n => rfl) ?_
        refine zW.getf (v := .ref 8) rfl rfl (zr_7_0 S) ?_
        refine zW.run 1 (pc' := 69) (ls' := [some (.ref 7), some (.ref (26 + i)), some (.int (Int32.ofInt x)), some (.int (Int32.ofInt v3))]) (st' := [.ref (26 + i), .ref 8]) (σ' := (zN L X (zhi s) R G nc ns)) (fun n => rfl) ?_
        refine zW.jget (v := (s (26 + i) 1)) rfl (zk_gun (by omega)) (fun _ _ _ => rfl) rfl ?_
        refine zW.run 1 (pc' := 73) (ls' := [some (.ref 7), some (.ref (26 + i)), some (.int (Int32.ofInt x)), some (.int (Int32.ofInt v3))]) (st' := [.ref (26 + i), .int (Int32.ofInt (s (26 + i) 1)), .ref 8]) (σ' := (zN L X (zhi s) R G nc ns)) (fun n => rfl) ?_
        refine zW.jget (v := (s (26 + i) 6)) rfl (zk_gun (by omega)) (fun _ _ _ => rfl) rfl ?_
        refine zW.run 1 (pc' := 77) (ls' := [some (.ref 7), some (.ref (26 + i)), some (.int (Int32.ofInt x)), some (.int (Int32.ofInt v3))]) (st' := [.ref 7, .int (Int32.ofInt (s (26 + i) 6)), .int (Int32.ofInt (s (26 + i) 1)), .ref 8]) (σ' := (zN L X (zhi s) R G nc ns)) (fun n => rfl) ?_
        refine zW.callV rfl (by decide) rfl rfl rfl rfl rfl (Nat.le_of_ble_eq_true rfl) ?_
        refine t_Siege_sightFar S V (fun v_14 f15 => ?_)
        show zW ro 90 80 [some (.ref 7), some (.ref (26 + i)), some (.int (Int32.ofInt x)), some (.int (Int32.ofInt v3))] [.int (Int32.ofInt v_14), .int (Int32.ofInt (s (26 + i) 6)), .int (Int32.ofInt (s (26 + i) 1)), .ref 8] (zN L X (zhi s) R G nc ns) Q
        refine zW.callV rfl (by decide) rfl rfl rfl rfl rfl (Nat.le_of_ble_eq_true rfl) ?_
        refine t_Ground_isRaked S V (a := (s (26 + i) 1)) (b := (s (26 + i) 6)) (d := v_14) (by omega) (by omega) (by omega) ?_ ?_
        · skip
          show zW ro 90 83 [some (.ref 7), some (.ref (26 + i)), some (.int (Int32.ofInt x)), some (.int (Int32.ofInt v3))] [.int (Int32.ofInt 1)] (zN L X (zhi s) R G nc ns) Q
          refine zW.run 3 (pc' := 88) (ls' := [some (.ref 7), some (.ref (26 + i)), some (.int (Int32.ofInt x)), some (.int (Int32.ofInt v3))]) (st' := [.int (Int32.ofInt 2), .int (Int32.ofInt x)]) (σ' := (zN L X (zhi s) R G nc ns)) (fun n => rfl) ?_
          refine zW.jmul rfl ?_
          refine zW.run 1 (pc' := 93) (ls' := [some (.ref 7), some (.ref (26 + i)), some (.int (Int32.ofInt x)), some (.int (Int32.ofInt v3))]) (st' := [.int (Int32.ofInt (x * 2))]) (σ' := (zN L X (zhi s) R G nc ns)) (fun n => rfl) ?_
          exact zW.jret rfl rfl (hQ0 (x * 2) (by omega))
        · skip
          show zW ro 90 83 [some (.ref 7), some (.ref (26 + i)), some (.int (Int32.ofInt x)), some (.int (Int32.ofInt v3))] [.int (Int32.ofInt 0)] (zN L X (zhi s) R G nc ns) Q
          refine zW.run 2 (pc' := 93) (ls' := [some (.ref 7), some (.ref (26 + i)), some (.int (Int32.ofInt x)), some (.int (Int32.ofInt v3))]) (st' := [.int (Int32.ofInt x)]) (σ' := (zN L X (zhi s) R G nc ns)) (fun n => rfl) ?_
          exact zW.jret rfl rfl (hQ0 x (by omega))
    | n9 + 5, e9, f9 => cases f9
  refine zW.jcmp_ne rfl (by omega) (fun c16 => ?_) (fun c16 => ?_)
  · skip
    refine zW.run 1 (pc' := 13) (ls' := [some (.ref 7), some (.ref (26 + i)), some (.int (Int32.ofInt x)), none]) (st' := [.int (Int32.ofInt 0)]) (σ' := (zN L X (zhi s) R G nc ns)) (fun n => rfl) ?_
    exact J4 0 (by omega)
  · skip
    refine zW.run 2 (pc' := 13) (ls' := [some (.ref 7), some (.ref (26 + i)), some (.int (Int32.ofInt x)), none]) (st' := [.int (Int32.ofInt 1)]) (σ' := (zN L X (zhi s) R G nc ns)) (fun n => rfl) ?_
    exact J4 1 (by omega)
set_option maxHeartbeats 4000000 in
theorem t_Gunnery_pointsOf (S : zSR R) (V : zV g U F T B ph s) {i : Nat} {y : Int} (p0 : i < 16) (p1 : -2147483648 ≤ y ∧ y < 2147483648) (hQ0 : ∀ (v : Int), Q (.inl (some (.int (Int32.ofInt v)))) (zN L X (zhi s) R G nc ns)) : zW ro 91 0 (zfst [.ref 7, .ref (26 + i), .int (Int32.ofInt y)] 9) [] (zN L X (zhi s) R G nc ns) Q := by
  show zW ro 91 0 [some (.ref 7), some (.ref (26 + i)), some (.int (Int32.ofInt y)), none, none, none, none, none, none] [] (zN L X (zhi s) R G nc ns) Q
  have f1 := zA_geo (zV_zA V)
  have hB0 := zV_B V
  refine zW.run 2 (pc' := 2) (ls' := [some (.ref 7), some (.ref (26 + i)), some (.int (Int32.ofInt y)), none, none, none, none, none, none]) (st' := [.ref (26 + i), .int (Int32.ofInt 1)]) (σ' := (zN L X (zhi s) R G nc ns)) (fun n => rfl) ?_
  have f2 := zV_gun V (i := i) (by omega)
  refine zW.jget (v := (s (26 + i) 0)) rfl (zk_gun (by omega)) (fun _ _ _ => rfl) rfl ?_
  refine zW.jsub rfl ?_
  refine zW.run 4 (pc' := 10) (ls' := [some (.ref 7), some (.ref (26 + i)), some (.int (Int32.ofInt y)), some (.int (Int32.ofInt (1 - (s (26 + i) 0)))), none, none, none, none, none]) (st' := [.int (Int32.ofInt y), .int (Int32.ofInt (1 - (s (26 + i) 0))), .ref 7]) (σ' := (zN L X (zhi s) R G nc ns)) (fun n => rfl) ?_
  refine zW.callV rfl (by decide) rfl rfl rfl rfl rfl (Nat.le_of_ble_eq_true rfl) ?_
  refine t_Siege_menAt S V (x := (1 - (s (26 + i) 0))) (y := y) (by omega) (by omega) (fun v_3 f4 f5 => ?_)
  show zW ro 91 13 [some (.ref 7), some (.ref (26 + i)), some (.int (Int32.ofInt y)), some (.int (Int32.ofInt (1 - (s (26 + i) 0)))), none, none, none, none, none] [.int (Int32.ofInt v_3)] (zN L X (zhi s) R G nc ns) Q
  refine zW.run 1 (pc' := 15) (ls' := [some (.ref 7), some (.ref (26 + i)), some (.int (Int32.ofInt y)), some (.int (Int32.ofInt (1 - (s (26 + i) 0)))), none, none, none, none, none]) (st' := [.int (Int32.ofInt 10), .int (Int32.ofInt v_3)]) (σ' := (zN L X (zhi s) R G nc ns)) (fun n => rfl) ?_
  refine zW.jdiv rfl (by omega) ?_
  refine zW.run 2 (pc' := 19) (ls' := [some (.ref 7), some (.ref (26 + i)), some (.int (Int32.ofInt y)), some (.int (Int32.ofInt (1 - (s (26 + i) 0)))), some (.int (Int32.ofInt (v_3 / 10))), none, none, none, none]) (st' := [.ref (26 + i)]) (σ' := (zN L X (zhi s) R G nc ns)) (fun n => rfl) ?_
  refine zW.jget (v := (s (26 + i) 0)) rfl (zk_gun (by omega)) (fun _ _ _ => rfl) rfl ?_
  refine zW.jif_ne rfl (by omega) (fun c6 => ?_) (fun c6 => ?_)
  · skip
    refine zW.run 1 (pc' := 50) (ls' := [some (.ref 7), some (.ref (26 + i)), some (.int (Int32.ofInt y)), some (.int (Int32.ofInt (1 - (s (26 + i) 0)))), some (.int (Int32.ofInt (v_3 / 10))), none, none, none, none]) (st' := [.ref 7]) (σ' := (zN L X (zhi s) R G nc ns)) (fun n => rfl) ?_
    refine zW.getf (v := .ref 18) rfl rfl (zr_7_1 S) ?_
    refine zW.run 2 (pc' := 57) (ls' := [some (.ref 7), some (.ref (26 + i)), some (.int (Int32.ofInt y)), some (.int (Int32.ofInt (1 - (s (26 + i) 0)))), some (.int (Int32.ofInt (v_3 / 10))), some (.ref 18), none, none, none]) (st' := [.ref 18]) (σ' := (zN L X (zhi s) R G nc ns)) (fun n => rfl) ?_
    refine zW.alen rfl rfl (by decide) ?_
    show zW ro 91 58 [some (.ref 7), some (.ref (26 + i)), some (.int (Int32.ofInt y)), some (.int (Int32.ofInt (1 - (s (26 + i) 0)))), some (.int (Int32.ofInt (v_3 / 10))), some (.ref 18), none, none, none] [.int (Int32.ofInt 16)] (zN L X (zhi s) R G nc ns) Q
    refine zW.run 3 (pc' := 63) (ls' := [some (.ref 7), some (.ref (26 + i)), some (.int (Int32.ofInt y)), some (.int (Int32.ofInt (1 - (s (26 + i) 0)))), some (.int (Int32.ofInt (v_3 / 10))), some (.ref 18), some (.int (Int32.ofInt 16)), some (.int (Int32.ofInt 0)), none]) (st' := []) (σ' := (zN L X (zhi s) R G nc ns)) (fun n => rfl) ?_
    have J11 : ∀ m : Nat, ∀ (i_7 : Nat) (a_8 : Int) (w9 : Option Value), i_7 ≤ 16 → 17 - i_7 < m → zW ro 91 63 [some (.ref 7), some (.ref (26 + i)), some (.int (Int32.ofInt y)), some (.int (Int32.ofInt (1 - (s (26 + i) 0)))), some (.int (Int32.ofInt a_8)), some (.ref 18), some (.int (Int32.ofInt 16)), some (.int (Int32.ofInt (i_7 : Int))), w9] [] (zN L X (zhi s) R G nc ns) Q := by
      intro m
      induction m with
      | zero => intros; omega
      | succ m ih12 =>
        intro i_7 a_8 w9 c10 hm13
        refine zW.run 2 (pc' := 67) (ls' := [some (.ref 7), some (.ref (26 + i)), some (.int (Int32.ofInt y)), some (.int (Int32.ofInt (1 - (s (26 + i) 0)))), some (.int (Int32.ofInt a_8)), some (.ref 18), some (.int (Int32.ofInt 16)), some (.int (Int32.ofInt (i_7 : Int))), w9]) (st' := [.int (Int32.ofInt 16), .int (Int32.ofInt (i_7 : Int))]) (σ' := (zN L X (zhi s) R G nc ns)) (fun n => rfl) ?_
        refine zW.jcmp_ge rfl (by omega) (fun c14 => ?_) (fun c14 => ?_)
        · skip
          refine zW.run 1 (pc' := 106) (ls' := [some (.ref 7), some (.ref (26 + i)), some (.int (Int32.ofInt y)), some (.int (Int32.ofInt (1 - (s (26 + i) 0)))), some (.int (Int32.ofInt a_8)), some (.ref 18), some (.int (Int32.ofInt 16)), some (.int (Int32.ofInt (i_7 : Int))), w9]) (st' := [.int (Int32.ofInt a_8)]) (σ' := (zN L X (zhi s) R G nc ns)) (fun n => rfl) ?_
          exact zW.jret rfl rfl (hQ0 a_8)
        · skip
          refine zW.run 2 (pc' := 74) (ls' := [some (.ref 7), some (.ref (26 + i)), some (.int (Int32.ofInt y)), some (.int (Int32.ofInt (1 - (s (26 + i) 0)))), some (.int (Int32.ofInt a_8)), some (.ref 18), some (.int (Int32.ofInt 16)), some (.int (Int32.ofInt (i_7 : Int))), w9]) (st' := [.int (Int32.ofInt (i_7 : Int)), .ref 18]) (σ' := (zN L X (zhi s) R G nc ns)) (fun n => rfl) ?_
          refine zW.jaald (n := 16) (v := .ref (26 + i_7)) rfl rfl (by decide) (by decide) (by omega) (zr_gun S (by omega)) ?_
          refine zW.run 3 (pc' := 80) (ls' := [some (.ref 7), some (.ref (26 + i)), some (.int (Int32.ofInt y)), some (.int (Int32.ofInt (1 - (s (26 + i) 0)))), some (.int (Int32.ofInt a_8)), some (.ref 18), some (.int (Int32.ofInt 16)), some (.int (Int32.ofInt (i_7 : Int))), some (.ref (26 + i_7))]) (st' := [.int (Int32.ofInt (1 - (s (26 + i) 0))), .ref (26 + i_7)]) (σ' := (zN L X (zhi s) R G nc ns)) (fun n => rfl) ?_
          refine zW.callV rfl (by decide) rfl rfl rfl rfl (zk_gun (by omega)) (Nat.le_of_ble_eq_true rfl) ?_
          refine t_Gun_isReadyOf S V (i := i_7) (x := (1 - (s (26 + i) 0))) (by omega) (by omega) (fun f15 f16 => ?_) (fun f17 => ?_)
          · skip
            show zW ro 91 83 [some (.ref 7), some (.ref (26 + i)), some (.int (Int32.ofInt y)), some (.int (Int32.ofInt (1 - (s (26 + i) 0)))), some (.int (Int32.ofInt a_8)), some (.ref 18), some (.int (Int32.ofInt 16)), some (.int (Int32.ofInt (i_7 : Int))), some (.ref (26 + i_7))] [.int (Int32.ofInt 1)] (zN L X (zhi s) R G nc ns) Q
            refine zW.run 2 (pc' := 88) (ls' := [some (.ref 7), some (.ref (26 + i)), some (.int (Int32.ofInt y)), some (.int (Int32.ofInt (1 - (s (26 + i) 0)))), some (.int (Int32.ofInt a_8)), some (.ref 18), some (.int (Int32.ofInt 16)), some (.int (Int32.ofInt (i_7 : Int))), some (.ref (26 + i_7))]) (st' := [.ref (26 + i_7)]) (σ' := (zN L X (zhi s) R G nc ns)) (fun n => rfl) ?_
            have f18 := zV_gun V (i := i_7) (by omega)
            refine zW.jget (v := (s (26 + i_7) 1)) rfl (zk_gun (by omega)) (fun _ _ _ => rfl) rfl ?_
            refine zW.run 1 (pc' := 92) (ls' := [some (.ref 7), some (.ref (26 + i)), some (.int (Int32.ofInt y)), some (.int (Int32.ofInt (1 - (s (26 + i) 0)))), some (.int (Int32.ofInt a_8)), some (.ref 18), some (.int (Int32.ofInt 16)), some (.int (Int32.ofInt (i_7 : Int))), some (.ref (26 + i_7))]) (st' := [.int (Int32.ofInt y), .int (Int32.ofInt (s (26 + i_7) 1))]) (σ' := (zN L X (zhi s) R G nc ns)) (fun n => rfl) ?_
            have J20 : ∀ (v19 : Int), (¬ (s (26 + i_7) 1) = y ∧ v19 = a_8) ∨ ((s (26 + i_7) 1) = y ∧ v19 = (a_8 + 20)) → zW ro 91 98 [some (.ref 7), some (.ref (26 + i)), some (.int (Int32.ofInt y)), some (.int (Int32.ofInt (1 - (s (26 + i) 0)))), some (.int (Int32.ofInt v19)), some (.ref 18), some (.int (Int32.ofInt 16)), some (.int (Int32.ofInt (i_7 : Int))), some (.ref (26 + i_7))] [] (zN L X (zhi s) R G nc ns) Q := by
              intro v19 c21
              refine zW.jinc (ls' := [some (.ref 7), some (.ref (26 + i)), some (.int (Int32.ofInt y)), some (.int (Int32.ofInt (1 - (s (26 + i) 0)))), some (.int (Int32.ofInt v19)), some (.ref 18), some (.int (Int32.ofInt 16)), some (.int (Int32.ofInt ((i_7 : Int) + 1))), some (.ref (26 + i_7))]) rfl (Nat.le_of_ble_eq_true rfl) rfl rfl ?_
              refine zW.run 1 (pc' := 63) (ls' := [some (.ref 7), some (.ref (26 + i)), some (.int (Int32.ofInt y)), some (.int (Int32.ofInt (1 - (s (26 + i) 0)))), some (.int (Int32.ofInt v19)), some (.ref 18), some (.int (Int32.ofInt 16)), some (.int (Int32.ofInt ((i_7 : Int) + 1))), some (.ref (26 + i_7))]) (st' := []) (σ' := (zN L X (zhi s) R G nc ns)) (fun n => rfl) ?_
              exact ih12 (i_7 + 1) v19 (some (.ref (26 + i_7))) (by omega) (by omega)
            refine zW.jcmp_ne rfl (by omega) (fun c22 => ?_) (fun c22 => ?_)
            · skip
              exact J20 a_8 (by omega)
            · skip
              refine zW.jinc (ls' := [some (.ref 7), some (.ref (26 + i)), some (.int (Int32.ofInt y)), some (.int (Int32.ofInt (1 - (s (26 + i) 0)))), some (.int (Int32.ofInt (a_8 + 20))), some (.ref 18), some (.int (Int32.ofInt 16)), some (.int (Int32.ofInt (i_7 : Int))), some (.ref (26 + i_7))]) rfl (Nat.le_of_ble_eq_true rfl) rfl rfl ?_
              exact J20 (a_8 + 20) (by omega)
          · skip
            show zW ro 91 83 [some (.ref 7), some (.ref (26 + i)), some (.int (Int32.ofInt y)), some (.int (Int32.ofInt (1 - (s (26 + i) 0)))), some (.int (Int32.ofInt a_8)), some (.ref 18), some (.int (Int32.ofInt 16)), some (.int (Int32.ofInt (i_7 : Int))), some (.ref (26 + i_7))] [.int (Int32.ofInt 0)] (zN L X (zhi s) R G nc ns) Q
            refine zW.run 1 (pc' := 98) (ls' := [some (.ref 7), some (.ref (26 + i)), some (.int (Int32.ofInt y)), some (.int (Int32.ofInt (1 - (s (26 + i) 0)))), some (.int (Int32.ofInt a_8)), some (.ref 18), some (.int (Int32.ofInt 16)), some (.int (Int32.ofInt (i_7 : Int))), some (.ref (26 + i_7))]) (st' := []) (σ' := (zN L X (zhi s) R G nc ns)) (fun n => rfl) ?_
            refine zW.jinc (ls' := [some (.ref 7), some (.ref (26 + i)), some (.int (Int32.ofInt y)), some (.int (Int32.ofInt (1 - (s (26 + i) 0)))), some (.int (Int32.ofInt a_8)), some (.ref 18), some (.int (Int32.ofInt 16)), some (.int (Int32.ofInt ((i_7 : Int) + 1))), some (.ref (26 + i_7))]) rfl (Nat.le_of_ble_eq_true rfl) rfl rfl ?_
            refine zW.run 1 (pc' := 63) (ls' := [some (.ref 7), some (.ref (26 + i)), some (.int (Int32.ofInt y)), some (.int (Int32.ofInt (1 - (s (26 + i) 0)))), some (.int (Int32.ofInt a_8)), some (.ref 18), some (.int (Int32.ofInt 16)), some (.int (Int32.ofInt ((i_7 : Int) + 1))), some (.ref (26 + i_7))]) (st' := []) (σ' := (zN L X (zhi s) R G nc ns)) (fun n => rfl) ?_
            exact ih12 (i_7 + 1) a_8 (some (.ref (26 + i_7))) (by omega) (by omega)
    exact J11 _ 0 (v_3 / 10) none (by omega) (Nat.lt_succ_self _)
  · skip
    refine zW.run 1 (pc' := 26) (ls' := [some (.ref 7), some (.ref (26 + i)), some (.int (Int32.ofInt y)), some (.int (Int32.ofInt (1 - (s (26 + i) 0)))), some (.int (Int32.ofInt (v_3 / 10))), none, none, none, none]) (st' := [.ref 7]) (σ' := (zN L X (zhi s) R G nc ns)) (fun n => rfl) ?_
    refine zW.getf (v := .ref 8) rfl rfl (zr_7_0 S) ?_
    refine zW.run 1 (pc' := 30) (ls' := [some (.ref 7), some (.ref (26 + i)), some (.int (Int32.ofInt y)), some (.int (Int32.ofInt (1 - (s (26 + i) 0)))), some (.int (Int32.ofInt (v_3 / 10))), none, none, none, none]) (st' := [.int (Int32.ofInt y), .ref 8]) (σ' := (zN L X (zhi s) R G nc ns)) (fun n => rfl) ?_
    refine zW.callV rfl (by decide) rfl rfl rfl rfl rfl (Nat.le_of_ble_eq_true rfl) ?_
    refine t_Ground_workOf S V (x := y) (by omega) (fun v_23 f24 f25 => ?_)
    show zW ro 91 33 [some (.ref 7), some (.ref (26 + i)), some (.int (Int32.ofInt y)), some (.int (Int32.ofInt (1 - (s (26 + i) 0)))), some (.int (Int32.ofInt (v_3 / 10))), none, none, none, none] [.int (Int32.ofInt v_23)] (zN L X (zhi s) R G nc ns) Q
    refine zW.run 1 (pc' := 34) (ls' := [some (.ref 7), some (.ref (26 + i)), some (.int (Int32.ofInt y)), some (.int (Int32.ofInt (1 - (s (26 + i) 0)))), some (.int (Int32.ofInt (v_3 / 10))), none, none, none, none]) (st' := [.int (Int32.ofInt 1), .int (Int32.ofInt v_23)]) (σ' := (zN L X (zhi s) R G nc ns)) (fun n => rfl) ?_
    have J27 : ∀ (v26 : Int), (¬ v_23 = 1 ∧ v26 = (v_3 / 10)) ∨ (v_23 = 1 ∧ v26 = ((v_3 / 10) + ((s (26 + i) 2) * 10))) → zW ro 91 49 [some (.ref 7), some (.ref (26 + i)), some (.int (Int32.ofInt y)), some (.int (Int32.ofInt (1 - (s (26 + i) 0)))), some (.int (Int32.ofInt v26)), none, none, none, none] [] (zN L X (zhi s) R G nc ns) Q := by
      intro v26 c28
      refine zW.run 1 (pc' := 50) (ls' := [some (.ref 7), some (.ref (26 + i)), some (.int (Int32.ofInt y)), some (.int (Int32.ofInt (1 - (s (26 + i) 0)))), some (.int (Int32.ofInt v26)), none, none, none, none]) (st' := [.ref 7]) (σ' := (zN L X (zhi s) R G nc ns)) (fun n => rfl) ?_
      refine zW.getf (v := .ref 18) rfl rfl (zr_7_1 S) ?_
      refine zW.run 2 (pc' := 57) (ls' := [some (.ref 7), some (.ref (26 + i)), some (.int (Int32.ofInt y)), some (.int (Int32.ofInt (1 - (s (26 + i) 0)))), some (.int (Int32.ofInt v26)), some (.ref 18), none, none, none]) (st' := [.ref 18]) (σ' := (zN L X (zhi s) R G nc ns)) (fun n => rfl) ?_
      refine zW.alen rfl rfl (by decide) ?_
      show zW ro 91 58 [some (.ref 7), some (.ref (26 + i)), some (.int (Int32.ofInt y)), some (.int (Int32.ofInt (1 - (s (26 + i) 0)))), some (.int (Int32.ofInt v26)), some (.ref 18), none, none, none] [.int (Int32.ofInt 16)] (zN L X (zhi s) R G nc ns) Q
      refine zW.run 3 (pc' := 63) (ls' := [some (.ref 7), some (.ref (26 + i)), some (.int (Int32.ofInt y)), some (.int (Int32.ofInt (1 - (s (26 + i) 0)))), some (.int (Int32.ofInt v26)), some (.ref 18), some (.int (Int32.ofInt 16)), some (.int (Int32.ofInt 0)), none]) (st' := []) (σ' := (zN L X (zhi s) R G nc ns)) (fun n => rfl) ?_
      have J33 : ∀ m : Nat, ∀ (i_29 : Nat) (a_30 : Int) (w31 : Option Value), i_29 ≤ 16 → 17 - i_29 < m → zW ro 91 63 [some (.ref 7), some (.ref (26 + i)), some (.int (Int32.ofInt y)), some (.int (Int32.ofInt (1 - (s (26 + i) 0)))), some (.int (Int32.ofInt a_30)), some (.ref 18), some (.int (Int32.ofInt 16)), some (.int (Int32.ofInt (i_29 : Int))), w31] [] (zN L X (zhi s) R G nc ns) Q := by
        intro m
        induction m with
        | zero => intros; omega
        | succ m ih34 =>
          intro i_29 a_30 w31 c32 hm35
          refine zW.run 2 (pc' := 67) (ls' := [some (.ref 7), some (.ref (26 + i)), some (.int (Int32.ofInt y)), some (.int (Int32.ofInt (1 - (s (26 + i) 0)))), some (.int (Int32.ofInt a_30)), some (.ref 18), some (.int (Int32.ofInt 16)), some (.int (Int32.ofInt (i_29 : Int))), w31]) (st' := [.int (Int32.ofInt 16), .int (Int32.ofInt (i_29 : Int))]) (σ' := (zN L X (zhi s) R G nc ns)) (fun n => rfl) ?_
          refine zW.jcmp_ge rfl (by omega) (fun c36 => ?_) (fun c36 => ?_)
          · skip
            refine zW.run 1 (pc' := 106) (ls' := [some (.ref 7), some (.ref (26 + i)), some (.int (Int32.ofInt y)), some (.int (Int32.ofInt (1 - (s (26 + i) 0)))), some (.int (Int32.ofInt a_30)), some (.ref 18), some (.int (Int32.ofInt 16)), some (.int (Int32.ofInt (i_29 : Int))), w31]) (st' := [.int (Int32.ofInt a_30)]) (σ' := (zN L X (zhi s) R G nc ns)) (fun n => rfl) ?_
            exact zW.jret rfl rfl (hQ0 a_30)
          · skip
            refine zW.run 2 (pc' := 74) (ls' := [some (.ref 7), some (.ref (26 + i)), some (.int (Int32.ofInt y)), some (.int (Int32.ofInt (1 - (s (26 + i) 0)))), some (.int (Int32.ofInt a_30)), some (.ref 18), some (.int (Int32.ofInt 16)), some (.int (Int32.ofInt (i_29 : Int))), w31]) (st' := [.int (Int32.ofInt (i_29 : Int)), .ref 18]) (σ' := (zN L X (zhi s) R G nc ns)) (fun n => rfl) ?_
            refine zW.jaald (n := 16) (v := .ref (26 + i_29)) rfl rfl (by decide) (by decide) (by omega) (zr_gun S (by omega)) ?_
            refine zW.run 3 (pc' := 80) (ls' := [some (.ref 7), some (.ref (26 + i)), some (.int (Int32.ofInt y)), some (.int (Int32.ofInt (1 - (s (26 + i) 0)))), some (.int (Int32.ofInt a_30)), some (.ref 18), some (.int (Int32.ofInt 16)), some (.int (Int32.ofInt (i_29 : Int))), some (.ref (26 + i_29))]) (st' := [.int (Int32.ofInt (1 - (s (26 + i) 0))), .ref (26 + i_29)]) (σ' := (zN L X (zhi s) R G nc ns)) (fun n => rfl) ?_
            refine zW.callV rfl (by decide) rfl rfl rfl rfl (zk_gun (by omega)) (Nat.le_of_ble_eq_true rfl) ?_
            refine t_Gun_isReadyOf S V (i := i_29) (x := (1 - (s (26 + i) 0))) (by omega) (by omega) (fun f37 f38 => ?_) (fun f39 => ?_)
            · skip
              show zW ro 91 83 [some (.ref 7), some (.ref (26 + i)), some (.int (Int32.ofInt y)), some (.int (Int32.ofInt (1 - (s (26 + i) 0)))), some (.int (Int32.ofInt a_30)), some (.ref 18), some (.int (Int32.ofInt 16)), some (.int (Int32.ofInt (i_29 : Int))), some (.ref (26 + i_29))] [.int (Int32.ofInt 1)] (zN L X (zhi s) R G nc ns) Q
              refine zW.run 2 (pc' := 88) (ls' := [some (.ref 7), some (.ref (26 + i)), some (.int (Int32.ofInt y)), some (.int (Int32.ofInt (1 - (s (26 + i) 0)))), some (.int (Int32.ofInt a_30)), some (.ref 18), some (.int (Int32.ofInt 16)), some (.int (Int32.ofInt (i_29 : Int))), some (.ref (26 + i_29))]) (st' := [.ref (26 + i_29)]) (σ' := (zN L X (zhi s) R G nc ns)) (fun n => rfl) ?_
              have f40 := zV_gun V (i := i_29) (by omega)
              refine zW.jget (v := (s (26 + i_29) 1)) rfl (zk_gun (by omega)) (fun _ _ _ => rfl) rfl ?_
              refine zW.run 1 (pc' := 92) (ls' := [some (.ref 7), some (.ref (26 + i)), some (.int (Int32.ofInt y)), some (.int (Int32.ofInt (1 - (s (26 + i) 0)))), some (.int (Int32.ofInt a_30)), some (.ref 18), some (.int (Int32.ofInt 16)), some (.int (Int32.ofInt (i_29 : Int))), some (.ref (26 + i_29))]) (st' := [.int (Int32.ofInt y), .int (Int32.ofInt (s (26 + i_29) 1))]) (σ' := (zN L X (zhi s) R G nc ns)) (fun n => rfl) ?_
              have J42 : ∀ (v41 : Int), (¬ (s (26 + i_29) 1) = y ∧ v41 = a_30) ∨ ((s (26 + i_29) 1) = y ∧ v41 = (a_30 + 20)) → zW ro 91 98 [some (.ref 7), some (.ref (26 + i)), some (.int (Int32.ofInt y)), some (.int (Int32.ofInt (1 - (s (26 + i) 0)))), some (.int (Int32.ofInt v41)), some (.ref 18), some (.int (Int32.ofInt 16)), some (.int (Int32.ofInt (i_29 : Int))), some (.ref (26 + i_29))] [] (zN L X (zhi s) R G nc ns) Q := by
                intro v41 c43
                refine zW.jinc (ls' := [some (.ref 7), some (.ref (26 + i)), some (.int (Int32.ofInt y)), some (.int (Int32.ofInt (1 - (s (26 + i) 0)))), some (.int (Int32.ofInt v41)), some (.ref 18), some (.int (Int32.ofInt 16)), some (.int (Int32.ofInt ((i_29 : Int) + 1))), some (.ref (26 + i_29))]) rfl (Nat.le_of_ble_eq_true rfl) rfl rfl ?_
                refine zW.run 1 (pc' := 63) (ls' := [some (.ref 7), some (.ref (26 + i)), some (.int (Int32.ofInt y)), some (.int (Int32.ofInt (1 - (s (26 + i) 0)))), some (.int (Int32.ofInt v41)), some (.ref 18), some (.int (Int32.ofInt 16)), some (.int (Int32.ofInt ((i_29 : Int) + 1))), some (.ref (26 + i_29))]) (st' := []) (σ' := (zN L X (zhi s) R G nc ns)) (fun n => rfl) ?_
                exact ih34 (i_29 + 1) v41 (some (.ref (26 + i_29))) (by omega) (by omega)
              refine zW.jcmp_ne rfl (by omega) (fun c44 => ?_) (fun c44 => ?_)
              · skip
                exact J42 a_30 (by omega)
              · skip
                refine zW.jinc (ls' := [some (.ref 7), some (.ref (26 + i)), some (.int (Int32.ofInt y)), some (.int (Int32.ofInt (1 - (s (26 + i) 0)))), some (.int (Int32.ofInt (a_30 + 20))), some (.ref 18), some (.int (Int32.ofInt 16)), some (.int (Int32.ofInt (i_29 : Int))), some (.ref (26 + i_29))]) rfl (Nat.le_of_ble_eq_true rfl) rfl rfl ?_
                exact J42 (a_30 + 20) (by omega)
            · skip
              show zW ro 91 83 [some (.ref 7), some (.ref (26 + i)), some (.int (Int32.ofInt y)), some (.int (Int32.ofInt (1 - (s (26 + i) 0)))), some (.int (Int32.ofInt a_30)), some (.ref 18), some (.int (Int32.ofInt 16)), some (.int (Int32.ofInt (i_29 : Int))), some (.ref (26 + i_29))] [.int (Int32.ofInt 0)] (zN L X (zhi s) R G nc ns) Q
              refine zW.run 1 (pc' := 98) (ls' := [some (.ref 7), some (.ref (26 + i)), some (.int (Int32.ofInt y)), some (.int (Int32.ofInt (1 - (s (26 + i) 0)))), some (.int (Int32.ofInt a_30)), some (.ref 18), some (.int (Int32.ofInt 16)), some (.int (Int32.ofInt (i_29 : Int))), some (.ref (26 + i_29))]) (st' := []) (σ' := (zN L X (zhi s) R G nc ns)) (fun n => rfl) ?_
              refine zW.jinc (ls' := [some (.ref 7), some (.ref (26 + i)), some (.int (Int32.ofInt y)), some (.int (Int32.ofInt (1 - (s (26 + i) 0)))), some (.int (Int32.ofInt a_30)), some (.ref 18), some (.int (Int32.ofInt 16)), some (.int (Int32.ofInt ((i_29 : Int) + 1))), some (.ref (26 + i_29))]) rfl (Nat.le_of_ble_eq_true rfl) rfl rfl ?_
              refine zW.run 1 (pc' := 63) (ls' := [some (.ref 7), some (.ref (26 + i)), some (.int (Int32.ofInt y)), some (.int (Int32.ofInt (1 - (s (26 + i) 0)))), some (.int (Int32.ofInt a_30)), some (.ref 18), some (.int (Int32.ofInt 16)), some (.int (Int32.ofInt ((i_29 : Int) + 1))), some (.ref (26 + i_29))]) (st' := []) (σ' := (zN L X (zhi s) R G nc ns)) (fun n => rfl) ?_
              exact ih34 (i_29 + 1) a_30 (some (.ref (26 + i_29))) (by omega) (by omega)
      exact J33 _ 0 v26 none (by omega) (Nat.lt_succ_self _)
    refine zW.jcmp_ne rfl (by omega) (fun c45 => ?_) (fun c45 => ?_)
    · skip
      exact J27 (v_3 / 10) (by omega)
    · skip
      refine zW.run 2 (pc' := 40) (ls' := [some (.ref 7), some (.ref (26 + i)), some (.int (Int32.ofInt y)), some (.int (Int32.ofInt (1 - (s (26 + i) 0)))), some (.int (Int32.ofInt (v_3 / 10))), none, none, none, none]) (st' := [.ref (26 + i), .int (Int32.ofInt (v_3 / 10))]) (σ' := (zN L X (zhi s) R G nc ns)) (fun n => rfl) ?_
      refine zW.jget (v := (s (26 + i) 2)) rfl (zk_gun (by omega)) (fun _ _ _ => rfl) rfl ?_
      refine zW.run 1 (pc' := 45) (ls' := [some (.ref 7), some (.ref (26 + i)), some (.int (Int32.ofInt y)), some (.int (Int32.ofInt (1 - (s (26 + i) 0)))), some (.int (Int32.ofInt (v_3 / 10))), none, none, none, none]) (st' := [.int (Int32.ofInt 10), .int (Int32.ofInt (s (26 + i) 2)), .int (Int32.ofInt (v_3 / 10))]) (σ' := (zN L X (zhi s) R G nc ns)) (fun n => rfl) ?_
      refine zW.jmul rfl ?_
      refine zW.jadd rfl ?_
      refine zW.run 1 (pc' := 49) (ls' := [some (.ref 7), some (.ref (26 + i)), some (.int (Int32.ofInt y)), some (.int (Int32.ofInt (1 - (s (26 + i) 0)))), some (.int (Int32.ofInt ((v_3 / 10) + ((s (26 + i) 2) * 10)))), none, none, none, none]) (st' := []) (σ' := (zN L X (zhi s) R G nc ns)) (fun n => rfl) ?_
      exact J27 ((v_3 / 10) + ((s (26 + i) 2) * 10)) (by omega)
set_option maxHeartbeats 4000000 in
theorem t_Gunnery_bestTarget (S : zSR R) (V : zV g U F T B ph s) {i : Nat} (p0 : i < 16) (hQ0 : ∀ (v : Int), -1 ≤ v ∧ v < g 2 → Q (.inl (some (.int (Int32.ofInt v)))) (zN L X (zhi s) R G nc ns)) : zW ro 86 0 (zfst [.ref 7, .ref (26 + i)] 6) [] (zN L X (zhi s) R G nc ns) Q := by
  show zW ro 86 0 [some (.ref 7), some (.ref (26 + i)), none, none, none, none] [] (zN L X (zhi s) R G nc ns) Q
  have f1 := zA_geo (zV_zA V)
  have hB0 := zV_B V
  refine zW.run 6 (pc' := 7) (ls' := [some (.ref 7), some (.ref (26 + i)), some (.int (Int32.ofInt (-1))), some (.int (Int32.ofInt 0)), some (.int (Int32.ofInt 0)), none]) (st' := []) (σ' := (zN L X (zhi s) R G nc ns)) (fun n => rfl) ?_
  have J8 : ∀ m : Nat, ∀ (k_2 : Nat) (b_3 : Int) (a_4 : Int) (w5 : Option Value), (k_2 : Int) ≤ g 2 → -1 ≤ b_3 ∧ b_3 < g 2 → 145 - k_2 < m → zW ro 86 7 [some (.ref 7), some (.ref (26 + i)), some (.int (Int32.ofInt b_3)), some (.int (Int32.ofInt a_4)), some (.int (Int32.ofInt (k_2 : Int))), w5] [] (zN L X (zhi s) R G nc ns) Q := by
    intro m
    induction m with
    | zero => intros; omega
    | succ m ih9 =>
      intro k_2 b_3 a_4 w5 c6 c7 hm10
      refine zW.run 2 (pc' := 10) (ls' := [some (.ref 7), some (.ref (26 + i)), some (.int (Int32.ofInt b_3)), some (.int (Int32.ofInt a_4)), some (.int (Int32.ofInt (k_2 : Int))), w5]) (st' := [.ref 7, .int (Int32.ofInt (k_2 : Int))]) (σ' := (zN L X (zhi s) R G nc ns)) (fun n => rfl) ?_
      refine zW.getf (v := .ref 8) rfl rfl (zr_7_0 S) ?_
      refine zW.run 1 (pc' := 16) (ls' := [some (.ref 7), some (.ref (26 + i)), some (.int (Int32.ofInt b_3)), some (.int (Int32.ofInt a_4)), some (.int (Int32.ofInt (k_2 : Int))), w5]) (st' := [.int (Int32.ofInt (s 8 11)), .int (Int32.ofInt (k_2 : Int))]) (σ' := (zN L X (zhi s) R G nc ns)) (fun n => rfl) ?_
      refine zW.jcmp_ge rfl (by omega) (fun c11 => ?_) (fun c11 => ?_)
      · skip
        refine zW.run 1 (pc' := 61) (ls' := [some (.ref 7), some (.ref (26 + i)), some (.int (Int32.ofInt b_3)), some (.int (Int32.ofInt a_4)), some (.int (Int32.ofInt (k_2 : Int))), w5]) (st' := [.int (Int32.ofInt b_3)]) (σ' := (zN L X (zhi s) R G nc ns)) (fun n => rfl) ?_
        exact zW.jret rfl rfl (hQ0 b_3 (by omega))
      · skip
        refine zW.run 3 (pc' := 23) (ls' := [some (.ref 7), some (.ref (26 + i)), some (.int (Int32.ofInt b_3)), some (.int (Int32.ofInt a_4)), some (.int (Int32.ofInt (k_2 : Int))), w5]) (st' := [.int (Int32.ofInt (k_2 : Int)), .ref (26 + i), .ref 7]) (σ' := (zN L X (zhi s) R G nc ns)) (fun n => rfl) ?_
        refine zW.callS rfl rfl rfl rfl rfl (Nat.le_of_ble_eq_true rfl) ?_
        refine t_Gunnery_canReach S V (i := i) (y := (k_2 : Int)) (by omega) (by omega) ?_ ?_
        · skip
          show zW ro 86 26 [some (.ref 7), some (.ref (26 + i)), some (.int (Int32.ofInt b_3)), some (.int (Int32.ofInt a_4)), some (.int (Int32.ofInt (k_2 : Int))), w5] [.int (Int32.ofInt 1)] (zN L X (zhi s) R G nc ns) Q
          refine zW.run 4 (pc' := 33) (ls' := [some (.ref 7), some (.ref (26 + i)), some (.int (Int32.ofInt b_3)), some (.int (Int32.ofInt a_4)), some (.int (Int32.ofInt (k_2 : Int))), w5]) (st' := [.int (Int32.ofInt (k_2 : Int)), .ref (26 + i), .ref 7]) (σ' := (zN L X (zhi s) R G nc ns)) (fun n => rfl) ?_
          refine zW.callS rfl rfl rfl rfl rfl (Nat.le_of_ble_eq_true rfl) ?_
          refine t_Gunnery_pointsOf S V (i := i) (y := (k_2 : Int)) (by omega) (by omega) (fun v_12 => ?_)
          show zW ro 86 36 [some (.ref 7), some (.ref (26 + i)), some (.int (Int32.ofInt b_3)), some (.int (Int32.ofInt a_4)), some (.int (Int32.ofInt (k_2 : Int))), w5] [.int (Int32.ofInt v_12)] (zN L X (zhi s) R G nc ns) Q
          refine zW.run 4 (pc' := 45) (ls' := [some (.ref 7), some (.ref (26 + i)), some (.int (Int32.ofInt b_3)), some (.int (Int32.ofInt a_4)), some (.int (Int32.ofInt (k_2 : Int))), some (.int (Int32.ofInt v_12))]) (st' := [.int (Int32.ofInt a_4), .int (Int32.ofInt v_12)]) (σ' := (zN L X (zhi s) R G nc ns)) (fun n => rfl) ?_
          have J15 : ∀ (v13 : Int) (v14 : Int), (v13 = b_3 ∧ v14 = a_4) ∨ (v13 = (k_2 : Int) ∧ v14 = v_12) → zW ro 86 54 [some (.ref 7), some (.ref (26 + i)), some (.int (Int32.ofInt v13)), some (.int (Int32.ofInt v14)), some (.int (Int32.ofInt (k_2 : Int))), some (.int (Int32.ofInt v_12))] [] (zN L X (zhi s) R G nc ns) Q := by
            intro v13 v14 c16
            refine zW.jinc (ls' := [some (.ref 7), some (.ref (26 + i)), some (.int (Int32.ofInt v13)), some (.int (Int32.ofInt v14)), some (.int (Int32.ofInt ((k_2 : Int) + 1))), some (.int (Int32.ofInt v_12))]) rfl (Nat.le_of_ble_eq_true rfl) rfl rfl ?_
            refine zW.run 1 (pc' := 7) (ls' := [some (.ref 7), some (.ref (26 + i)), some (.int (Int32.ofInt v13)), some (.int (Int32.ofInt v14)), some (.int (Int32.ofInt ((k_2 : Int) + 1))), some (.int (Int32.ofInt v_12))]) (st' := []) (σ' := (zN L X (zhi s) R G nc ns)) (fun n => rfl) ?_
            exact ih9 (k_2 + 1) v13 v14 (some (.int (Int32.ofInt v_12))) (by omega) (by omega) (by omega)
          refine zW.icmp_le rfl (fun _ => ?_) (fun _ => ?_)
          · skip
            exact J15 b_3 a_4 (by omega)
          · skip
            refine zW.run 4 (pc' := 54) (ls' := [some (.ref 7), some (.ref (26 + i)), some (.int (Int32.ofInt (k_2 : Int))), some (.int (Int32.ofInt v_12)), some (.int (Int32.ofInt (k_2 : Int))), some (.int (Int32.ofInt v_12))]) (st' := []) (σ' := (zN L X (zhi s) R G nc ns)) (fun n => rfl) ?_
            exact J15 (k_2 : Int) v_12 (by omega)
        · skip
          show zW ro 86 26 [some (.ref 7), some (.ref (26 + i)), some (.int (Int32.ofInt b_3)), some (.int (Int32.ofInt a_4)), some (.int (Int32.ofInt (k_2 : Int))), w5] [.int (Int32.ofInt 0)] (zN L X (zhi s) R G nc ns) Q
          refine zW.run 5 (pc' := 45) (ls' := [some (.ref 7), some (.ref (26 + i)), some (.int (Int32.ofInt b_3)), some (.int (Int32.ofInt a_4)), some (.int (Int32.ofInt (k_2 : Int))), some (.int (Int32.ofInt 0))]) (st' := [.int (Int32.ofInt a_4), .int (Int32.ofInt 0)]) (σ' := (zN L X (zhi s) R G nc ns)) (fun n => rfl) ?_
          have J20 : ∀ (v18 : Int) (v19 : Int), (v18 = b_3 ∧ v19 = a_4) ∨ (v18 = (k_2 : Int) ∧ v19 = 0) → zW ro 86 54 [some (.ref 7), some (.ref (26 + i)), some (.int (Int32.ofInt v18)), some (.int (Int32.ofInt v19)), some (.int (Int32.ofInt (k_2 : Int))), some (.int (Int32.ofInt 0))] [] (zN L X (zhi s) R G nc ns) Q := by
            intro v18 v19 c21
            refine zW.jinc (ls' := [some (.ref 7), some (.ref (26 + i)), some (.int (Int32.ofInt v18)), some (.int (Int32.ofInt v19)), some (.int (Int32.ofInt ((k_2 : Int) + 1))), some (.int (Int32.ofInt 0))]) rfl (Nat.le_of_ble_eq_true rfl) rfl rfl ?_
            refine zW.run 1 (pc' := 7) (ls' := [some (.ref 7), some (.ref (26 + i)), some (.int (Int32.ofInt v18)), some (.int (Int32.ofInt v19)), some (.int (Int32.ofInt ((k_2 : Int) + 1))), some (.int (Int32.ofInt 0))]) (st' := []) (σ' := (zN L X (zhi s) R G nc ns)) (fun n => rfl) ?_
            exact ih9 (k_2 + 1) v18 v19 (some (.int (Int32.ofInt 0))) (by omega) (by omega) (by omega)
          refine zW.icmp_le rfl (fun _ => ?_) (fun _ => ?_)
          · skip
            exact J20 b_3 a_4 (by omega)
          · skip
            refine zW.run 4 (pc' := 54) (ls' := [some (.ref 7), some (.ref (26 + i)), some (.int (Int32.ofInt (k_2 : Int))), some (.int (Int32.ofInt 0)), some (.int (Int32.ofInt (k_2 : Int))), some (.int (Int32.ofInt 0))]) (st' := []) (σ' := (zN L X (zhi s) R G nc ns)) (fun n => rfl) ?_
            exact J20 (k_2 : Int) 0 (by omega)
  exact J8 _ 0 (-1) 0 none (by omega) (by omega) (Nat.lt_succ_self _)
set_option maxHeartbeats 4000000 in
theorem t_Siege_standsIn (S : zSR R) (V : zV g U F T B ph s) {x : Int} (p0 : -2147483648 ≤ x ∧ x < 2147483648) (hQ0 : Q (.inl (some (.int (Int32.ofInt 1)))) (zN L X (zhi s) R G nc ns)) (hQ1 : Q (.inl (some (.int (Int32.ofInt 0)))) (zN L X (zhi s) R G nc ns)) : zW ro 156 0 (zfst [.ref 7, .int (Int32.ofInt x)] 6) [] (zN L X (zhi s) R G nc ns) Q := by
  show zW ro 156 0 [some (.ref 7), some (.int (Int32.ofInt x)), none, none, none, none] [] (zN L X (zhi s) R G nc ns) Q
  have f1 := zA_geo (zV_zA V)
  have hB0 := zV_B V
  refine zW.run 1 (pc' := 1) (ls' := [some (.ref 7), some (.int (Int32.ofInt x)), none, none, none, none]) (st' := [.ref 7]) (σ' := (zN L X (zhi s) R G nc ns)) (fun n => rfl) ?_
  refine zW.getf (v := .ref 19) rfl rfl (zr_7_2 S) ?_
  refine zW.run 2 (pc' := 6) (ls' := [some (.ref 7), some (.int (Int32.ofInt x)), some (.ref 19), none, none, none]) (st' := [.ref 19]) (σ' := (zN L X (zhi s) R G nc ns)) (fun n => rfl) ?_
  refine zW.alen rfl rfl (by decide) ?_
  show zW ro 156 7 [some (.ref 7), some (.int (Int32.ofInt x)), some (.ref 19), none, none, none] [.int (Int32.ofInt 12)] (zN L X (zhi s) R G nc ns) Q
  refine zW.run 3 (pc' := 11) (ls' := [some (.ref 7), some (.int (Int32.ofInt x)), some (.ref 19), some (.int (Int32.ofInt 12)), some (.int (Int32.ofInt 0)), none]) (st' := []) (σ' := (zN L X (zhi s) R G nc ns)) (fun n => rfl) ?_
  have J5 : ∀ m : Nat, ∀ (i_2 : Nat) (w3 : Option Value), i_2 ≤ 12 → 13 - i_2 < m → zW ro 156 11 [some (.ref 7), some (.int (Int32.ofInt x)), some (.ref 19), some (.int (Int32.ofInt 12)), some (.int (Int32.ofInt (i_2 : Int))), w3] [] (zN L X (zhi s) R G nc ns) Q := by
    intro m
    induction m with
    | zero => intros; omega
    | succ m ih6 =>
      intro i_2 w3 c4 hm7
      refine zW.run 2 (pc' := 14) (ls' := [some (.ref 7), some (.int (Int32.ofInt x)), some (.ref 19), some (.int (Int32.ofInt 12)), some (.int (Int32.ofInt (i_2 : Int))), w3]) (st' := [.int (Int32.ofInt 12), .int (Int32.ofInt (i_2 : Int))]) (σ' := (zN L X (zhi s) R G nc ns)) (fun n => rfl) ?_
      refine zW.jcmp_ge rfl (by omega) (fun c8 => ?_) (fun c8 => ?_)
      · skip
        refine zW.run 1 (pc' := 64) (ls' := [some (.ref 7), some (.int (Int32.ofInt x)), some (.ref 19), some (.int (Int32.ofInt 12)), some (.int (Int32.ofInt (i_2 : Int))), w3]) (st' := [.int (Int32.ofInt 0)]) (σ' := (zN L X (zhi s) R G nc ns)) (fun n => rfl) ?_
        exact zW.jretb rfl rfl (by decide) hQ1
      · skip
        refine zW.run 2 (pc' := 20) (ls' := [some (.ref 7), some (.int (Int32.ofInt x)), some (.ref 19), some (.int (Int32.ofInt 12)), some (.int (Int32.ofInt (i_2 : Int))), w3]) (st' := [.int (Int32.ofInt (i_2 : Int)), .ref 19]) (σ' := (zN L X (zhi s) R G nc ns)) (fun n => rfl) ?_
        refine zW.jaald (n := 12) (v := .ref (42 + i_2)) rfl rfl (by decide) (by decide) (by omega) (zr_com S (by omega)) ?_
        refine zW.run 2 (pc' := 25) (ls' := [some (.ref 7), some (.int (Int32.ofInt x)), some (.ref 19), some (.int (Int32.ofInt 12)), some (.int (Int32.ofInt (i_2 : Int))), some (.ref (42 + i_2))]) (st' := [.ref (42 + i_2)]) (σ' := (zN L X (zhi s) R G nc ns)) (fun n => rfl) ?_
        have f9 := zV_com V (i := i_2) (by omega)
        refine zW.jget (v := (s (42 + i_2) 2)) rfl (zk_com (by omega)) (fun _ _ _ => rfl) rfl ?_
        refine zW.jif_le rfl (by omega) (fun c10 => ?_) (fun c10 => ?_)
        · skip
          refine zW.jinc (ls' := [some (.ref 7), some (.int (Int32.ofInt x)), some (.ref 19), some (.int (Int32.ofInt 12)), some (.int (Int32.ofInt ((i_2 : Int) + 1))), some (.ref (42 + i_2))]) rfl (Nat.le_of_ble_eq_true rfl) rfl rfl ?_
          refine zW.run 1 (pc' := 11) (ls' := [some (.ref 7), some (.int (Int32.ofInt x)), some (.ref 19), some (.int (Int32.ofInt 12)), some (.int (Int32.ofInt ((i_2 : Int) + 1))), some (.ref (42 + i_2))]) (st' := []) (σ' := (zN L X (zhi s) R G nc ns)) (fun n => rfl) ?_
          exact ih6 (i_2 + 1) (some (.ref (42 + i_2))) (by omega) (by omega)
        · skip
          refine zW.run 1 (pc' := 33) (ls' := [some (.ref 7), some (.int (Int32.ofInt x)), some (.ref 19), some (.int (Int32.ofInt 12)), some (.int (Int32.ofInt (i_2 : Int))), some (.ref (42 + i_2))]) (st' := [.ref (42 + i_2)]) (σ' := (zN L X (zhi s) R G nc ns)) (fun n => rfl) ?_
          refine zW.jget (v := (s (42 + i_2) 0)) rfl (zk_com (by omega)) (fun _ _ _ => rfl) rfl ?_
          refine zW.jif_ne rfl (by omega) (fun c11 => ?_) (fun c11 => ?_)
          · skip
            refine zW.jinc (ls' := [some (.ref 7), some (.int (Int32.ofInt x)), some (.ref 19), some (.int (Int32.ofInt 12)), some (.int (Int32.ofInt ((i_2 : Int) + 1))), some (.ref (42 + i_2))]) rfl (Nat.le_of_ble_eq_true rfl) rfl rfl ?_
            refine zW.run 1 (pc' := 11) (ls' := [some (.ref 7), some (.int (Int32.ofInt x)), some (.ref 19), some (.int (Int32.ofInt 12)), some (.int (Int32.ofInt ((i_2 : Int) + 1))), some (.ref (42 + i_2))]) (st' := []) (σ' := (zN L X (zhi s) R G nc ns)) (fun n => rfl) ?_
            exact ih6 (i_2 + 1) (some (.ref (42 + i_2))) (by omega) (by omega)
          · skip
            refine zW.run 1 (pc' := 40) (ls' := [some (.ref 7), some (.int (Int32.ofInt x)), some (.ref 19), some (.int (Int32.ofInt 12)), some (.int (Int32.ofInt (i_2 : Int))), some (.ref (42 + i_2))]) (st' := [.ref 7]) (σ' := (zN L X (zhi s) R G nc ns)) (fun n => rfl) ?_
            refine zW.getf (v := .ref 8) rfl rfl (zr_7_0 S) ?_
            refine zW.run 1 (pc' := 45) (ls' := [some (.ref 7), some (.int (Int32.ofInt x)), some (.ref 19), some (.int (Int32.ofInt 12)), some (.int (Int32.ofInt (i_2 : Int))), some (.ref (42 + i_2))]) (st' := [.ref (42 + i_2), .ref 8]) (σ' := (zN L X (zhi s) R G nc ns)) (fun n => rfl) ?_
            refine zW.jget (v := (s (42 + i_2) 1)) rfl (zk_com (by omega)) (fun _ _ _ => rfl) rfl ?_
            refine zW.callV rfl (by decide) rfl rfl rfl rfl rfl (Nat.le_of_ble_eq_true rfl) ?_
            refine t_Ground_workOf S V (x := (s (42 + i_2) 1)) (by omega) (fun v_12 f13 f14 => ?_)
            show zW ro 156 51 [some (.ref 7), some (.int (Int32.ofInt x)), some (.ref 19), some (.int (Int32.ofInt 12)), some (.int (Int32.ofInt (i_2 : Int))), some (.ref (42 + i_2))] [.int (Int32.ofInt v_12)] (zN L X (zhi s) R G nc ns) Q
            refine zW.run 1 (pc' := 52) (ls' := [some (.ref 7), some (.int (Int32.ofInt x)), some (.ref 19), some (.int (Int32.ofInt 12)), some (.int (Int32.ofInt (i_2 : Int))), some (.ref (42 + i_2))]) (st' := [.int (Int32.ofInt x), .int (Int32.ofInt v_12)]) (σ' := (zN L X (zhi s) R G nc ns)) (fun n => rfl) ?_
            refine zW.jcmp_ne rfl (by omega) (fun c15 => ?_) (fun c15 => ?_)
            · skip
              refine zW.jinc (ls' := [some (.ref 7), some (.int (Int32.ofInt x)), some (.ref 19), some (.int (Int32.ofInt 12)), some (.int (Int32.ofInt ((i_2 : Int) + 1))), some (.ref (42 + i_2))]) rfl (Nat.le_of_ble_eq_true rfl) rfl rfl ?_
              refine zW.run 1 (pc' := 11) (ls' := [some (.ref 7), some (.int (Int32.ofInt x)), some (.ref 19), some (.int (Int32.ofInt 12)), some (.int (Int32.ofInt ((i_2 : Int) + 1))), some (.ref (42 + i_2))]) (st' := []) (σ' := (zN L X (zhi s) R G nc ns)) (fun n => rfl) ?_
              exact ih6 (i_2 + 1) (some (.ref (42 + i_2))) (by omega) (by omega)
            · skip
              refine zW.run 1 (pc' := 56) (ls' := [some (.ref 7), some (.int (Int32.ofInt x)), some (.ref 19), some (.int (Int32.ofInt 12)), some (.int (Int32.ofInt (i_2 : Int))), some (.ref (42 + i_2))]) (st' := [.int (Int32.ofInt 1)]) (σ' := (zN L X (zhi s) R G nc ns)) (fun n => rfl) ?_
              exact zW.jretb rfl rfl (by decide) hQ0
  exact J5 _ 0 none (by omega) (Nat.lt_succ_self _)
set_option maxHeartbeats 4000000 in
theorem t_Siege_standsAtBreach (S : zSR R) (V : zV g U F T B ph s)   (hQ0 : Q (.inl (some (.int (Int32.ofInt 1)))) (zN L X (zhi s) R G nc ns)) (hQ1 : Q (.inl (some (.int (Int32.ofInt 0)))) (zN L X (zhi s) R G nc ns)) : zW ro 155 0 (zfst [.ref 7] 5) [] (zN L X (zhi s) R G nc ns) Q := by
  show zW ro 155 0 [some (.ref 7), none, none, none, none] [] (zN L X (zhi s) R G nc ns) Q
  have f1 := zA_geo (zV_zA V)
  have hB0 := zV_B V
  refine zW.run 1 (pc' := 1) (ls' := [some (.ref 7), none, none, none, none]) (st' := [.ref 7]) (σ' := (zN L X (zhi s) R G nc ns)) (fun n => rfl) ?_
  refine zW.getf (v := .ref 19) rfl rfl (zr_7_2 S) ?_
  refine zW.run 2 (pc' := 6) (ls' := [some (.ref 7), some (.ref 19), none, none, none]) (st' := [.ref 19]) (σ' := (zN L X (zhi s) R G nc ns)) (fun n => rfl) ?_
  refine zW.alen rfl rfl (by decide) ?_
  show zW ro 155 7 [some (.ref 7), some (.ref 19), none, none, none] [.int (Int32.ofInt 12)] (zN L X (zhi s) R G nc ns) Q
  refine zW.run 3 (pc' := 10) (ls' := [some (.ref 7), some (.ref 19), some (.int (Int32.ofInt 12)), some (.int (Int32.ofInt 0)), none]) (st' := []) (σ' := (zN L X (zhi s) R G nc ns)) (fun n => rfl) ?_
  have J5 : ∀ m : Nat, ∀ (i_2 : Nat) (w3 : Option Value), i_2 ≤ 12 → 13 - i_2 < m → zW ro 155 10 [some (.ref 7), some (.ref 19), some (.int (Int32.ofInt 12)), some (.int (Int32.ofInt (i_2 : Int))), w3] [] (zN L X (zhi s) R G nc ns) Q := by
    intro m
    induction m with
    | zero => intros; omega
    | succ m ih6 =>
      intro i_2 w3 c4 hm7
      refine zW.run 2 (pc' := 12) (ls' := [some (.ref 7), some (.ref 19), some (.int (Int32.ofInt 12)), some (.int (Int32.ofInt (i_2 : Int))), w3]) (st' := [.int (Int32.ofInt 12), .int (Int32.ofInt (i_2 : Int))]) (σ' := (zN L X (zhi s) R G nc ns)) (fun n => rfl) ?_
      refine zW.jcmp_ge rfl (by omega) (fun c8 => ?_) (fun c8 => ?_)
      · skip
        refine zW.run 2 (pc' := 64) (ls' := [some (.ref 7), some (.ref 19), some (.int (Int32.ofInt 12)), some (.int (Int32.ofInt (i_2 : Int))), w3]) (st' := [.int (Int32.ofInt 6), .ref 7]) (σ' := (zN L X (zhi s) R G nc ns)) (fun n => rfl) ?_
        refine zW.callV rfl (by decide) rfl rfl rfl rfl rfl (Nat.le_of_ble_eq_true rfl) ?_
        refine t_Siege_standsIn S V (x := 6) (by omega) ?_ ?_
        · skip
          show zW ro 155 67 [some (.ref 7), some (.ref 19), some (.int (Int32.ofInt 12)), some (.int (Int32.ofInt (i_2 : Int))), w3] [.int (Int32.ofInt 1)] (zN L X (zhi s) R G nc ns) Q
          exact zW.jretb rfl rfl (by decide) hQ0
        · skip
          show zW ro 155 67 [some (.ref 7), some (.ref 19), some (.int (Int32.ofInt 12)), some (.int (Int32.ofInt (i_2 : Int))), w3] [.int (Int32.ofInt 0)] (zN L X (zhi s) R G nc ns) Q
          exact zW.jretb rfl rfl (by decide) hQ1
      · skip
        refine zW.run 2 (pc' := 17) (ls' := [some (.ref 7), some (.ref 19), some (.int (Int32.ofInt 12)), some (.int (Int32.ofInt (i_2 : Int))), w3]) (st' := [.int (Int32.ofInt (i_2 : Int)), .ref 19]) (σ' := (zN L X (zhi s) R G nc ns)) (fun n => rfl) ?_
        refine zW.jaald (n := 12) (v := .ref (42 + i_2)) rfl rfl (by decide) (by decide) (by omega) (zr_com S (by omega)) ?_
        refine zW.run 2 (pc' := 22) (ls' := [some (.ref 7), some (.ref 19), some (.int (Int32.ofInt 12)), some (.int (Int32.ofInt (i_2 : Int))), some (.ref (42 + i_2))]) (st' := [.ref (42 + i_2)]) (σ' := (zN L X (zhi s) R G nc ns)) (fun n => rfl) ?_
        have f9 := zV_com V (i := i_2) (by omega)
        refine zW.jget (v := (s (42 + i_2) 2)) rfl (zk_com (by omega)) (fun _ _ _ => rfl) rfl ?_
        refine zW.jif_le rfl (by omega) (fun c10 => ?_) (fun c10 => ?_)
        · skip
          refine zW.jinc (ls' := [some (.ref 7), some (.ref 19), some (.int (Int32.ofInt 12)), some (.int (Int32.ofInt ((i_2 : Int) + 1))), some (.ref (42 + i_2))]) rfl (Nat.le_of_ble_eq_true rfl) rfl rfl ?_
          refine zW.run 1 (pc' := 10) (ls' := [some (.ref 7), some (.ref 19), some (.int (Int32.ofInt 12)), some (.int (Int32.ofInt ((i_2 : Int) + 1))), some (.ref (42 + i_2))]) (st' := []) (σ' := (zN L X (zhi s) R G nc ns)) (fun n => rfl) ?_
          exact ih6 (i_2 + 1) (some (.ref (42 + i_2))) (by omega) (by omega)
        · skip
          refine zW.run 1 (pc' := 30) (ls' := [some (.ref 7), some (.ref 19), some (.int (Int32.ofInt 12)), some (.int (Int32.ofInt (i_2 : Int))), some (.ref (42 + i_2))]) (st' := [.ref (42 + i_2)]) (σ' := (zN L X (zhi s) R G nc ns)) (fun n => rfl) ?_
          refine zW.jget (v := (s (42 + i_2) 0)) rfl (zk_com (by omega)) (fun _ _ _ => rfl) rfl ?_
          refine zW.jif_ne rfl (by omega) (fun c11 => ?_) (fun c11 => ?_)
          · skip
            refine zW.jinc (ls' := [some (.ref 7), some (.ref 19), some (.int (Int32.ofInt 12)), some (.int (Int32.ofInt ((i_2 : Int) + 1))), some (.ref (42 + i_2))]) rfl (Nat.le_of_ble_eq_true rfl) rfl rfl ?_
            refine zW.run 1 (pc' := 10) (ls' := [some (.ref 7), some (.ref 19), some (.int (Int32.ofInt 12)), some (.int (Int32.ofInt ((i_2 : Int) + 1))), some (.ref (42 + i_2))]) (st' := []) (σ' := (zN L X (zhi s) R G nc ns)) (fun n => rfl) ?_
            exact ih6 (i_2 + 1) (some (.ref (42 + i_2))) (by omega) (by omega)
          · skip
            refine zW.run 1 (pc' := 37) (ls' := [some (.ref 7), some (.ref 19), some (.int (Int32.ofInt 12)), some (.int (Int32.ofInt (i_2 : Int))), some (.ref (42 + i_2))]) (st' := [.ref 7]) (σ' := (zN L X (zhi s) R G nc ns)) (fun n => rfl) ?_
            refine zW.getf (v := .ref 8) rfl rfl (zr_7_0 S) ?_
            refine zW.run 1 (pc' := 42) (ls' := [some (.ref 7), some (.ref 19), some (.int (Int32.ofInt 12)), some (.int (Int32.ofInt (i_2 : Int))), some (.ref (42 + i_2))]) (st' := [.ref (42 + i_2), .ref 8]) (σ' := (zN L X (zhi s) R G nc ns)) (fun n => rfl) ?_
            refine zW.jget (v := (s (42 + i_2) 1)) rfl (zk_com (by omega)) (fun _ _ _ => rfl) rfl ?_
            refine zW.run 1 (pc' := 47) (ls' := [some (.ref 7), some (.ref 19), some (.int (Int32.ofInt 12)), some (.int (Int32.ofInt (i_2 : Int))), some (.ref (42 + i_2))]) (st' := [.int (Int32.ofInt 6), .int (Int32.ofInt (s (42 + i_2) 1)), .ref 8]) (σ' := (zN L X (zhi s) R G nc ns)) (fun n => rfl) ?_
            refine zW.callV rfl (by decide) rfl rfl rfl rfl rfl (Nat.le_of_ble_eq_true rfl) ?_
            refine t_Ground_touchesWork S (zV_zA V) (x := (s (42 + i_2) 1)) (kind := (Int32.ofInt 6)) (by omega) ?_ ?_
            · skip
              show zW ro 155 50 [some (.ref 7), some (.ref 19), some (.int (Int32.ofInt 12)), some (.int (Int32.ofInt (i_2 : Int))), some (.ref (42 + i_2))] [.int (Int32.ofInt 1)] (zN L X (zhi s) R G nc ns) Q
              refine zW.run 2 (pc' := 54) (ls' := [some (.ref 7), some (.ref 19), some (.int (Int32.ofInt 12)), some (.int (Int32.ofInt (i_2 : Int))), some (.ref (42 + i_2))]) (st' := [.int (Int32.ofInt 1)]) (σ' := (zN L X (zhi s) R G nc ns)) (fun n => rfl) ?_
              exact zW.jretb rfl rfl (by decide) hQ0
            · skip
              show zW ro 155 50 [some (.ref 7), some (.ref 19), some (.int (Int32.ofInt 12)), some (.int (Int32.ofInt (i_2 : Int))), some (.ref (42 + i_2))] [.int (Int32.ofInt 0)] (zN L X (zhi s) R G nc ns) Q
              refine zW.run 1 (pc' := 55) (ls' := [some (.ref 7), some (.ref 19), some (.int (Int32.ofInt 12)), some (.int (Int32.ofInt (i_2 : Int))), some (.ref (42 + i_2))]) (st' := []) (σ' := (zN L X (zhi s) R G nc ns)) (fun n => rfl) ?_
              refine zW.jinc (ls' := [some (.ref 7), some (.ref 19), some (.int (Int32.ofInt 12)), some (.int (Int32.ofInt ((i_2 : Int) + 1))), some (.ref (42 + i_2))]) rfl (Nat.le_of_ble_eq_true rfl) rfl rfl ?_
              refine zW.run 1 (pc' := 10) (ls' := [some (.ref 7), some (.ref 19), some (.int (Int32.ofInt 12)), some (.int (Int32.ofInt ((i_2 : Int) + 1))), some (.ref (42 + i_2))]) (st' := []) (σ' := (zN L X (zhi s) R G nc ns)) (fun n => rfl) ?_
              exact ih6 (i_2 + 1) (some (.ref (42 + i_2))) (by omega) (by omega)
  exact J5 _ 0 none (by omega) (Nat.lt_succ_self _)
set_option maxHeartbeats 4000000 in
theorem t_Siege_depth (S : zSR R) (V : zV g U F T B ph s)   (hQ0 : ∀ (v : Int), 0 ≤ v ∧ v ≤ 5 → ((v = 3 ∨ v = 4) → 0 < zcn s 6 (g 2).toNat) → (0 < zcn s 6 (g 2).toNat → 3 ≤ v) → Q (.inl (some (.int (Int32.ofInt v)))) (zN L X (zhi s) R G nc ns)) : zW ro 133 0 (zfst [.ref 7] 3) [] (zN L X (zhi s) R G nc ns) Q := by
  show zW ro 133 0 [some (.ref 7), none, none] [] (zN L X (zhi s) R G nc ns) Q
  have f1 := zA_geo (zV_zA V)
  have hB0 := zV_B V
  refine zW.run 2 (pc' := 2) (ls' := [some (.ref 7), none, none]) (st' := [.int (Int32.ofInt 3), .ref 7]) (σ' := (zN L X (zhi s) R G nc ns)) (fun n => rfl) ?_
  refine zW.callV rfl (by decide) rfl rfl rfl rfl rfl (Nat.le_of_ble_eq_true rfl) ?_
  refine t_Siege_standsIn S V (x := 3) (by omega) ?_ ?_
  · skip
    show zW ro 133 5 [some (.ref 7), none, none] [.int (Int32.ofInt 1)] (zN L X (zhi s) R G nc ns) Q
    refine zW.run 2 (pc' := 9) (ls' := [some (.ref 7), none, none]) (st' := [.int (Int32.ofInt 5)]) (σ' := (zN L X (zhi s) R G nc ns)) (fun n => rfl) ?_
    exact zW.jret rfl rfl (hQ0 5 (by omega) (by omega) (by omega))
  · skip
    show zW ro 133 5 [some (.ref 7), none, none] [.int (Int32.ofInt 0)] (zN L X (zhi s) R G nc ns) Q
    refine zW.run 2 (pc' := 11) (ls' := [some (.ref 7), none, none]) (st' := [.ref 7]) (σ' := (zN L X (zhi s) R G nc ns)) (fun n => rfl) ?_
    refine zW.getf (v := .ref 8) rfl rfl (zr_7_0 S) ?_
    refine zW.run 1 (pc' := 16) (ls' := [some (.ref 7), none, none]) (st' := [.int (Int32.ofInt 6), .ref 8]) (σ' := (zN L X (zhi s) R G nc ns)) (fun n => rfl) ?_
    refine zW.callV rfl (by decide) rfl rfl rfl rfl rfl (Nat.le_of_ble_eq_true rfl) ?_
    refine t_Ground_countOf S V (x := 6) (by omega) (fun v_2 f3 f4 => ?_)
    show zW ro 133 19 [some (.ref 7), none, none] [.int (Int32.ofInt v_2)] (zN L X (zhi s) R G nc ns) Q
    refine zW.jif_le rfl (by omega) (fun c5 => ?_) (fun c5 => ?_)
    · skip
      refine zW.run 4 (pc' := 39) (ls' := [some (.ref 7), some (.int (Int32.ofInt 0)), some (.int (Int32.ofInt 0))]) (st' := []) (σ' := (zN L X (zhi s) R G nc ns)) (fun n => rfl) ?_
      have J10 : ∀ m : Nat, ∀ (k_6 : Nat) (a_7 : Int), (k_6 : Int) ≤ g 2 → 0 ≤ a_7 ∧ a_7 ≤ 1 → 145 - k_6 < m → zW ro 133 39 [some (.ref 7), some (.int (Int32.ofInt a_7)), some (.int (Int32.ofInt (k_6 : Int)))] [] (zN L X (zhi s) R G nc ns) Q := by
        intro m
        induction m with
        | zero => intros; omega
        | succ m ih11 =>
          intro k_6 a_7 c8 c9 hm12
          refine zW.run 2 (pc' := 41) (ls' := [some (.ref 7), some (.int (Int32.ofInt a_7)), some (.int (Int32.ofInt (k_6 : Int)))]) (st' := [.ref 7, .int (Int32.ofInt (k_6 : Int))]) (σ' := (zN L X (zhi s) R G nc ns)) (fun n => rfl) ?_
          refine zW.getf (v := .ref 8) rfl rfl (zr_7_0 S) ?_
          refine zW.run 1 (pc' := 47) (ls' := [some (.ref 7), some (.int (Int32.ofInt a_7)), some (.int (Int32.ofInt (k_6 : Int)))]) (st' := [.int (Int32.ofInt (s 8 11)), .int (Int32.ofInt (k_6 : Int))]) (σ' := (zN L X (zhi s) R G nc ns)) (fun n => rfl) ?_
          refine zW.jcmp_ge rfl (by omega) (fun c13 => ?_) (fun c13 => ?_)
          · skip
            refine zW.run 1 (pc' := 101) (ls' := [some (.ref 7), some (.int (Int32.ofInt a_7)), some (.int (Int32.ofInt (k_6 : Int)))]) (st' := [.int (Int32.ofInt a_7)]) (σ' := (zN L X (zhi s) R G nc ns)) (fun n => rfl) ?_
            exact zW.jret rfl rfl (hQ0 a_7 (by omega) (by omega) (by omega))
          · skip
            refine zW.run 1 (pc' := 51) (ls' := [some (.ref 7), some (.int (Int32.ofInt a_7)), some (.int (Int32.ofInt (k_6 : Int)))]) (st' := [.ref 7]) (σ' := (zN L X (zhi s) R G nc ns)) (fun n => rfl) ?_
            refine zW.getf (v := .ref 8) rfl rfl (zr_7_0 S) ?_
            refine zW.run 1 (pc' := 55) (ls' := [some (.ref 7), some (.int (Int32.ofInt a_7)), some (.int (Int32.ofInt (k_6 : Int)))]) (st' := [.int (Int32.ofInt (k_6 : Int)), .ref 8]) (σ' := (zN L X (zhi s) R G nc ns)) (fun n => rfl) ?_
            refine zW.callV rfl (by decide) rfl rfl rfl rfl rfl (Nat.le_of_ble_eq_true rfl) ?_
            refine t_Ground_workOf S V (x := (k_6 : Int)) (by omega) (fun v_14 f15 f16 => ?_)
            show zW ro 133 58 [some (.ref 7), some (.int (Int32.ofInt a_7)), some (.int (Int32.ofInt (k_6 : Int)))] [.int (Int32.ofInt v_14)] (zN L X (zhi s) R G nc ns) Q
            simp only [Int.toNat_natCast] at f16
            refine zW.run 1 (pc' := 59) (ls' := [some (.ref 7), some (.int (Int32.ofInt a_7)), some (.int (Int32.ofInt (k_6 : Int)))]) (st' := [.int (Int32.ofInt 5), .int (Int32.ofInt v_14)]) (σ' := (zN L X (zhi s) R G nc ns)) (fun n => rfl) ?_
            refine zW.jcmp_eq rfl (by omega) (fun c17 => ?_) (fun c17 => ?_)
            · skip
              refine zW.run 1 (pc' := 66) (ls' := [some (.ref 7), some (.int (Int32.ofInt a_7)), some (.int (Int32.ofInt (k_6 : Int)))]) (st' := [.ref 7]) (σ' := (zN L X (zhi s) R G nc ns)) (fun n => rfl) ?_
              refine zW.getf (v := .ref 8) rfl rfl (zr_7_0 S) ?_
              refine zW.run 2 (pc' := 71) (ls' := [some (.ref 7), some (.int (Int32.ofInt a_7)), some (.int (Int32.ofInt (k_6 : Int)))]) (st' := [.int (Int32.ofInt 2), .int (Int32.ofInt (k_6 : Int)), .ref 8]) (σ' := (zN L X (zhi s) R G nc ns)) (fun n => rfl) ?_
              refine zW.callV rfl (by decide) rfl rfl rfl rfl rfl (Nat.le_of_ble_eq_true rfl) ?_
              refine t_Ground_touchesWork S (zV_zA V) (x := (k_6 : Int)) (kind := (Int32.ofInt 2)) (by omega) ?_ ?_
              · skip
                show zW ro 133 74 [some (.ref 7), some (.int (Int32.ofInt a_7)), some (.int (Int32.ofInt (k_6 : Int)))] [.int (Int32.ofInt 1)] (zN L X (zhi s) R G nc ns) Q
                refine zW.run 2 (pc' := 78) (ls' := [some (.ref 7), some (.int (Int32.ofInt a_7)), some (.int (Int32.ofInt (k_6 : Int)))]) (st' := [.int (Int32.ofInt 2)]) (σ' := (zN L X (zhi s) R G nc ns)) (fun n => rfl) ?_
                exact zW.jret rfl rfl (hQ0 2 (by omega) (by omega) (by omega))
              · skip
                show zW ro 133 74 [some (.ref 7), some (.int (Int32.ofInt a_7)), some (.int (Int32.ofInt (k_6 : Int)))] [.int (Int32.ofInt 0)] (zN L X (zhi s) R G nc ns) Q
                refine zW.run 2 (pc' := 80) (ls' := [some (.ref 7), some (.int (Int32.ofInt a_7)), some (.int (Int32.ofInt (k_6 : Int)))]) (st' := [.ref 7]) (σ' := (zN L X (zhi s) R G nc ns)) (fun n => rfl) ?_
                refine zW.getf (v := .ref 8) rfl rfl (zr_7_0 S) ?_
                refine zW.run 3 (pc' := 86) (ls' := [some (.ref 7), some (.int (Int32.ofInt a_7)), some (.int (Int32.ofInt (k_6 : Int)))]) (st' := [.int (Int32.ofInt 3), .int (Int32.ofInt 1), .int (Int32.ofInt (k_6 : Int)), .ref 8]) (σ' := (zN L X (zhi s) R G nc ns)) (fun n => rfl) ?_
                refine zW.callV rfl (by decide) rfl rfl rfl rfl rfl (Nat.le_of_ble_eq_true rfl) ?_
                refine t_Ground_isNear S V (x := (k_6 : Int)) (y := 1) (d := 3) (by omega) (by omega) (by omega) ?_ ?_
                · skip
                  show zW ro 133 89 [some (.ref 7), some (.int (Int32.ofInt a_7)), some (.int (Int32.ofInt (k_6 : Int)))] [.int (Int32.ofInt 1)] (zN L X (zhi s) R G nc ns) Q
                  refine zW.run 3 (pc' := 94) (ls' := [some (.ref 7), some (.int (Int32.ofInt 1)), some (.int (Int32.ofInt (k_6 : Int)))]) (st' := []) (σ' := (zN L X (zhi s) R G nc ns)) (fun n => rfl) ?_
                  refine zW.jinc (ls' := [some (.ref 7), some (.int (Int32.ofInt 1)), some (.int (Int32.ofInt ((k_6 : Int) + 1)))]) rfl (Nat.le_of_ble_eq_true rfl) rfl rfl ?_
                  refine zW.run 1 (pc' := 39) (ls' := [some (.ref 7), some (.int (Int32.ofInt 1)), some (.int (Int32.ofInt ((k_6 : Int) + 1)))]) (st' := []) (σ' := (zN L X (zhi s) R G nc ns)) (fun n => rfl) ?_
                  exact ih11 (k_6 + 1) 1 (by omega) (by omega) (by omega)
                · skip
                  show zW ro 133 89 [some (.ref 7), some (.int (Int32.ofInt a_7)), some (.int (Int32.ofInt (k_6 : Int)))] [.int (Int32.ofInt 0)] (zN L X (zhi s) R G nc ns) Q
                  refine zW.run 1 (pc' := 94) (ls' := [some (.ref 7), some (.int (Int32.ofInt a_7)), some (.int (Int32.ofInt (k_6 : Int)))]) (st' := []) (σ' := (zN L X (zhi s) R G nc ns)) (fun n => rfl) ?_
                  refine zW.jinc (ls' := [some (.ref 7), some (.int (Int32.ofInt a_7)), some (.int (Int32.ofInt ((k_6 : Int) + 1)))]) rfl (Nat.le_of_ble_eq_true rfl) rfl rfl ?_
                  refine zW.run 1 (pc' := 39) (ls' := [some (.ref 7), some (.int (Int32.ofInt a_7)), some (.int (Int32.ofInt ((k_6 : Int) + 1)))]) (st' := []) (σ' := (zN L X (zhi s) R G nc ns)) (fun n => rfl) ?_
                  exact ih11 (k_6 + 1) a_7 (by omega) (by omega) (by omega)
            · skip
              refine zW.run 1 (pc' := 94) (ls' := [some (.ref 7), some (.int (Int32.ofInt a_7)), some (.int (Int32.ofInt (k_6 : Int)))]) (st' := []) (σ' := (zN L X (zhi s) R G nc ns)) (fun n => rfl) ?_
              refine zW.jinc (ls' := [some (.ref 7), some (.int (Int32.ofInt a_7)), some (.int (Int32.ofInt ((k_6 : Int) + 1)))]) rfl (Nat.le_of_ble_eq_true rfl) rfl rfl ?_
              refine zW.run 1 (pc' := 39) (ls' := [some (.ref 7), some (.int (Int32.ofInt a_7)), some (.int (Int32.ofInt ((k_6 : Int) + 1)))]) (st' := []) (σ' := (zN L X (zhi s) R G nc ns)) (fun n => rfl) ?_
              exact ih11 (k_6 + 1) a_7 (by omega) (by omega) (by omega)
      exact J10 _ 0 0 (by omega) (by omega) (Nat.lt_succ_self _)
    · skip
      refine zW.run 1 (pc' := 23) (ls' := [some (.ref 7), none, none]) (st' := [.ref 7]) (σ' := (zN L X (zhi s) R G nc ns)) (fun n => rfl) ?_
      refine zW.callV rfl (by decide) rfl rfl rfl rfl rfl (Nat.le_of_ble_eq_true rfl) ?_
      refine t_Siege_standsAtBreach S V ?_ ?_
      · skip
        show zW ro 133 26 [some (.ref 7), none, none] [.int (Int32.ofInt 1)] (zN L X (zhi s) R G nc ns) Q
        refine zW.run 3 (pc' := 34) (ls' := [some (.ref 7), none, none]) (st' := [.int (Int32.ofInt 4)]) (σ' := (zN L X (zhi s) R G nc ns)) (fun n => rfl) ?_
        exact zW.jret rfl rfl (hQ0 4 (by omega) (by omega) (by omega))
      · skip
        show zW ro 133 26 [some (.ref 7), none, none] [.int (Int32.ofInt 0)] (zN L X (zhi s) R G nc ns) Q
        refine zW.run 2 (pc' := 34) (ls' := [some (.ref 7), none, none]) (st' := [.int (Int32.ofInt 3)]) (σ' := (zN L X (zhi s) R G nc ns)) (fun n => rfl) ?_
        exact zW.jret rfl rfl (hQ0 3 (by omega) (by omega) (by omega))
set_option maxHeartbeats 4000000 in
theorem t_Siege_isSideSound (S : zSR R) (V : zV g U F T B ph s) {x : Int} (p0 : x = 0 ∨ x = 1) (hQ0 : Q (.inl (some (.int (Int32.ofInt 1)))) (zN L X (zhi s) R G nc ns)) : zW ro 144 0 (zfst [.ref 7, .int (Int32.ofInt x)] 8) [] (zN L X (zhi s) R G nc ns) Q := by
  show zW ro 144 0 [some (.ref 7), some (.int (Int32.ofInt x)), none, none, none, none, none, none] [] (zN L X (zhi s) R G nc ns) Q
  have f1 := zA_geo (zV_zA V)
  have hB0 := zV_B V
  have f2 := zV_sie V
  refine zW.run 2 (pc' := 2) (ls' := [some (.ref 7), some (.int (Int32.ofInt x)), none, none, none, none, none, none]) (st' := [.int (Int32.ofInt x), .ref 7]) (σ' := (zN L X (zhi s) R G nc ns)) (fun n => rfl) ?_
  refine zW.callV rfl (by decide) rfl rfl rfl rfl rfl (Nat.le_of_ble_eq_true rfl) ?_
  refine t_Siege_of S (x := x) (by omega) (fun o_3 f4 => ?_)
  show zW ro 144 5 [some (.ref 7), some (.int (Int32.ofInt x)), none, none, none, none, none, none] [.ref o_3] (zN L X (zhi s) R G nc ns) Q
  refine zW.run 2 (pc' := 7) (ls' := [some (.ref 7), some (.int (Int32.ofInt x)), some (.ref o_3), none, none, none, none, none]) (st' := [.ref o_3]) (σ' := (zN L X (zhi s) R G nc ns)) (fun n => rfl) ?_
  have f5 := zV_sid V (o := o_3) (by omega)
  refine zW.jget (v := (s o_3 0)) rfl (zk_sid (by omega)) (fun _ _ _ => rfl) rfl ?_
  refine zW.jif_lt rfl (by omega) (fun c6 => ?_) (fun c6 => ?_)
  · skip
    refine zW.run 1 (pc' := 28) (ls' := [some (.ref 7), some (.int (Int32.ofInt x)), some (.ref o_3), none, none, none, none, none]) (st' := [.int (Int32.ofInt 0)]) (σ' := (zN L X (zhi s) R G nc ns)) (fun n => rfl) ?_
    exfalso
    omega
  · skip
    refine zW.run 1 (pc' := 14) (ls' := [some (.ref 7), some (.int (Int32.ofInt x)), some (.ref o_3), none, none, none, none, none]) (st' := [.ref o_3]) (σ' := (zN L X (zhi s) R G nc ns)) (fun n => rfl) ?_
    refine zW.jget (v := (s o_3 1)) rfl (zk_sid (by omega)) (fun _ _ _ => rfl) rfl ?_
    refine zW.jif_lt rfl (by omega) (fun c7 => ?_) (fun c7 => ?_)
    · skip
      refine zW.run 1 (pc' := 28) (ls' := [some (.ref 7), some (.int (Int32.ofInt x)), some (.ref o_3), none, none, none, none, none]) (st' := [.int (Int32.ofInt 0)]) (σ' := (zN L X (zhi s) R G nc ns)) (fun n => rfl) ?_
      exfalso
      omega
    · skip
      refine zW.run 1 (pc' := 21) (ls' := [some (.ref 7), some (.int (Int32.ofInt x)), some (.ref o_3), none, none, none, none, none]) (st' := [.ref o_3]) (σ' := (zN L X (zhi s) R G nc ns)) (fun n => rfl) ?_
      refine zW.jget (v := (s o_3 2)) rfl (zk_sid (by omega)) (fun _ _ _ => rfl) rfl ?_
      refine zW.jif_ge rfl (by omega) (fun c8 => ?_) (fun c8 => ?_)
      · skip
        refine zW.run 1 (pc' := 30) (ls' := [some (.ref 7), some (.int (Int32.ofInt x)), some (.ref o_3), none, none, none, none, none]) (st' := [.ref 7]) (σ' := (zN L X (zhi s) R G nc ns)) (fun n => rfl) ?_
        refine zW.run 1 (pc' := 33) (ls' := [some (.ref 7), some (.int (Int32.ofInt x)), some (.ref o_3), none, none, none, none, none]) (st' := [.int (Int32.ofInt (s 7 11))]) (σ' := (zN L X (zhi s) R G nc ns)) (fun n => rfl) ?_
        refine zW.jif_ne rfl (by omega) (fun c9 => ?_) (fun c9 => ?_)
        · skip
          refine zW.run 3 (pc' := 41) (ls' := [some (.ref 7), some (.int (Int32.ofInt x)), some (.ref o_3), some (.int (Int32.ofInt 0)), none, none, none, none]) (st' := [.ref 7]) (σ' := (zN L X (zhi s) R G nc ns)) (fun n => rfl) ?_
          refine zW.getf (v := .ref 20) rfl rfl (zr_7_3 S) ?_
          refine zW.run 2 (pc' := 48) (ls' := [some (.ref 7), some (.int (Int32.ofInt x)), some (.ref o_3), some (.int (Int32.ofInt 0)), some (.ref 20), none, none, none]) (st' := [.ref 20]) (σ' := (zN L X (zhi s) R G nc ns)) (fun n => rfl) ?_
          refine zW.alen rfl rfl (by decide) ?_
          show zW ro 144 49 [some (.ref 7), some (.int (Int32.ofInt x)), some (.ref o_3), some (.int (Int32.ofInt 0)), some (.ref 20), none, none, none] [.int (Int32.ofInt 6)] (zN L X (zhi s) R G nc ns) Q
          refine zW.run 3 (pc' := 54) (ls' := [some (.ref 7), some (.int (Int32.ofInt x)), some (.ref o_3), some (.int (Int32.ofInt 0)), some (.ref 20), some (.int (Int32.ofInt 6)), some (.int (Int32.ofInt 0)), none]) (st' := []) (σ' := (zN L X (zhi s) R G nc ns)) (fun n => rfl) ?_
          have J15 : ∀ m : Nat, ∀ (i_10 : Nat) (a_11 : Int) (w12 : Option Value), i_10 ≤ 6 → a_11 = zmc s x i_10 → 7 - i_10 < m → zW ro 144 54 [some (.ref 7), some (.int (Int32.ofInt x)), some (.ref o_3), some (.int (Int32.ofInt a_11)), some (.ref 20), some (.int (Int32.ofInt 6)), some (.int (Int32.ofInt (i_10 : Int))), w12] [] (zN L X (zhi s) R G nc ns) Q := by
            intro m
            induction m with
            | zero => intros; omega
            | succ m ih16 =>
              intro i_10 a_11 w12 c13 c14 hm17
              have hz := @zmc_s s x i_10
              refine zW.run 2 (pc' := 58) (ls' := [some (.ref 7), some (.int (Int32.ofInt x)), some (.ref o_3), some (.int (Int32.ofInt a_11)), some (.ref 20), some (.int (Int32.ofInt 6)), some (.int (Int32.ofInt (i_10 : Int))), w12]) (st' := [.int (Int32.ofInt 6), .int (Int32.ofInt (i_10 : Int))]) (σ' := (zN L X (zhi s) R G nc ns)) (fun n => rfl) ?_
              refine zW.jcmp_ge rfl (by omega) (fun c18 => ?_) (fun c18 => ?_)
              · skip
                refine zW.run 1 (pc' := 100) (ls' := [some (.ref 7), some (.int (Int32.ofInt x)), some (.ref o_3), some (.int (Int32.ofInt a_11)), some (.ref 20), some (.int (Int32.ofInt 6)), some (.int (Int32.ofInt (i_10 : Int))), w12]) (st' := [.ref o_3]) (σ' := (zN L X (zhi s) R G nc ns)) (fun n => rfl) ?_
                refine zW.jget (v := (s o_3 10)) rfl (zk_sid (by omega)) (fun _ _ _ => rfl) rfl ?_
                refine zW.run 1 (pc' := 104) (ls' := [some (.ref 7), some (.int (Int32.ofInt x)), some (.ref o_3), some (.int (Int32.ofInt a_11)), some (.ref 20), some (.int (Int32.ofInt 6)), some (.int (Int32.ofInt (i_10 : Int))), w12]) (st' := [.ref o_3, .int (Int32.ofInt (s o_3 10))]) (σ' := (zN L X (zhi s) R G nc ns)) (fun n => rfl) ?_
                refine zW.jget (v := (s o_3 0)) rfl (zk_sid (by omega)) (fun _ _ _ => rfl) rfl ?_
                refine zW.run 1 (pc' := 108) (ls' := [some (.ref 7), some (.int (Int32.ofInt x)), some (.ref o_3), some (.int (Int32.ofInt a_11)), some (.ref 20), some (.int (Int32.ofInt 6)), some (.int (Int32.ofInt (i_10 : Int))), w12]) (st' := [.int (Int32.ofInt a_11), .int (Int32.ofInt (s o_3 0)), .int (Int32.ofInt (s o_3 10))]) (σ' := (zN L X (zhi s) R G nc ns)) (fun n => rfl) ?_
                refine zW.jadd rfl ?_
                refine zW.run 1 (pc' := 110) (ls' := [some (.ref 7), some (.int (Int32.ofInt x)), some (.ref o_3), some (.int (Int32.ofInt a_11)), some (.ref 20), some (.int (Int32.ofInt 6)), some (.int (Int32.ofInt (i_10 : Int))), w12]) (st' := [.ref o_3, .int (Int32.ofInt ((s o_3 0) + a_11)), .int (Int32.ofInt (s o_3 10))]) (σ' := (zN L X (zhi s) R G nc ns)) (fun n => rfl) ?_
                refine zW.jget (v := (s o_3 6)) rfl (zk_sid (by omega)) (fun _ _ _ => rfl) rfl ?_
                refine zW.jadd rfl ?_
                refine zW.jsame_ne rfl (by have hp := zV_zP1 V; unfold zP1 at hp; have e6 : i_10 = 6 := (by omega); subst e6; rcases p0 with p0 | p0 <;> subst p0 <;> first | (have ho : o_3 = 21 := (by omega); subst ho; omega) | (have ho : o_3 = 22 := (by omega); subst ho; omega)) ?_
                refine zW.run 2 (pc' := 122) (ls' := [some (.ref 7), some (.int (Int32.ofInt x)), some (.ref o_3), some (.int (Int32.ofInt a_11)), some (.ref 20), some (.int (Int32.ofInt 6)), some (.int (Int32.ofInt (i_10 : Int))), w12]) (st' := [.int (Int32.ofInt 1)]) (σ' := (zN L X (zhi s) R G nc ns)) (fun n => rfl) ?_
                exact zW.jretb rfl rfl (by decide) hQ0
              · skip
                refine zW.run 2 (pc' := 65) (ls' := [some (.ref 7), some (.int (Int32.ofInt x)), some (.ref o_3), some (.int (Int32.ofInt a_11)), some (.ref 20), some (.int (Int32.ofInt 6)), some (.int (Int32.ofInt (i_10 : Int))), w12]) (st' := [.int (Int32.ofInt (i_10 : Int)), .ref 20]) (σ' := (zN L X (zhi s) R G nc ns)) (fun n => rfl) ?_
                refine zW.jaald (n := 6) (v := .ref (54 + 2 * i_10)) rfl rfl (by decide) (by decide) (by omega) (zr_min S (by omega)) ?_
                refine zW.run 2 (pc' := 70) (ls' := [some (.ref 7), some (.int (Int32.ofInt x)), some (.ref o_3), some (.int (Int32.ofInt a_11)), some (.ref 20), some (.int (Int32.ofInt 6)), some (.int (Int32.ofInt (i_10 : Int))), some (.ref (54 + 2 * i_10))]) (st' := [.ref (54 + 2 * i_10)]) (σ' := (zN L X (zhi s) R G nc ns)) (fun n => rfl) ?_
                have f19 := zV_min V (i := i_10) (by omega)
                refine zW.jget (v := (s (54 + 2 * i_10) 1)) rfl (zk_min (by omega)) (fun _ _ _ => rfl) rfl ?_
                refine zW.run 1 (pc' := 74) (ls' := [some (.ref 7), some (.int (Int32.ofInt x)), some (.ref o_3), some (.int (Int32.ofInt a_11)), some (.ref 20), some (.int (Int32.ofInt 6)), some (.int (Int32.ofInt (i_10 : Int))), some (.ref (54 + 2 * i_10))]) (st' := [.int (Int32.ofInt x), .int (Int32.ofInt (s (54 + 2 * i_10) 1))]) (σ' := (zN L X (zhi s) R G nc ns)) (fun n => rfl) ?_
                refine zW.jcmp_ne rfl (by omega) (fun c20 => ?_) (fun c20 => ?_)
                · skip
                  refine zW.jinc (ls' := [some (.ref 7), some (.int (Int32.ofInt x)), some (.ref o_3), some (.int (Int32.ofInt a_11)), some (.ref 20), some (.int (Int32.ofInt 6)), some (.int (Int32.ofInt ((i_10 : Int) + 1))), some (.ref (54 + 2 * i_10))]) rfl (Nat.le_of_ble_eq_true rfl) rfl rfl ?_
                  refine zW.run 1 (pc' := 54) (ls' := [some (.ref 7), some (.int (Int32.ofInt x)), some (.ref o_3), some (.int (Int32.ofInt a_11)), some (.ref 20), some (.int (Int32.ofInt 6)), some (.int (Int32.ofInt ((i_10 : Int) + 1))), some (.ref (54 + 2 * i_10))]) (st' := []) (σ' := (zN L X (zhi s) R G nc ns)) (fun n => rfl) ?_
                  exact ih16 (i_10 + 1) a_11 (some (.ref (54 + 2 * i_10))) (by omega) (by omega) (by omega)
                · skip
                  refine zW.run 1 (pc' := 79) (ls' := [some (.ref 7), some (.int (Int32.ofInt x)), some (.ref o_3), some (.int (Int32.ofInt a_11)), some (.ref 20), some (.int (Int32.ofInt 6)), some (.int (Int32.ofInt (i_10 : Int))), some (.ref (54 + 2 * i_10))]) (st' := [.ref (54 + 2 * i_10)]) (σ' := (zN L X (zhi s) R G nc ns)) (fun n => rfl) ?_
                  refine zW.callV rfl (by decide) rfl rfl rfl rfl (zk_min (by omega)) (Nat.le_of_ble_eq_true rfl) ?_
                  refine t_Mine_isWhole S V (i := i_10) (by omega) (fun f21 f22 => ?_) (fun f23 => ?_)
                  · skip
                    show zW ro 144 82 [some (.ref 7), some (.int (Int32.ofInt x)), some (.ref o_3), some (.int (Int32.ofInt a_11)), some (.ref 20), some (.int (Int32.ofInt 6)), some (.int (Int32.ofInt (i_10 : Int))), some (.ref (54 + 2 * i_10))] [.int (Int32.ofInt 1)] (zN L X (zhi s) R G nc ns) Q
                    refine zW.run 3 (pc' := 88) (ls' := [some (.ref 7), some (.int (Int32.ofInt x)), some (.ref o_3), some (.int (Int32.ofInt a_11)), some (.ref 20), some (.int (Int32.ofInt 6)), some (.int (Int32.ofInt (i_10 : Int))), some (.ref (54 + 2 * i_10))]) (st' := [.ref (54 + 2 * i_10), .int (Int32.ofInt a_11)]) (σ' := (zN L X (zhi s) R G nc ns)) (fun n => rfl) ?_
                    refine zW.jget (v := (s (54 + 2 * i_10) 4)) rfl (zk_min (by omega)) (fun _ _ _ => rfl) rfl ?_
                    refine zW.jadd rfl ?_
                    refine zW.run 1 (pc' := 93) (ls' := [some (.ref 7), some (.int (Int32.ofInt x)), some (.ref o_3), some (.int (Int32.ofInt (a_11 + (s (54 + 2 * i_10) 4)))), some (.ref 20), some (.int (Int32.ofInt 6)), some (.int (Int32.ofInt (i_10 : Int))), some (.ref (54 + 2 * i_10))]) (st' := []) (σ' := (zN L X (zhi s) R G nc ns)) (fun n => rfl) ?_
                    refine zW.jinc (ls' := [some (.ref 7), some (.int (Int32.ofInt x)), some (.ref o_3), some (.int (Int32.ofInt (a_11 + (s (54 + 2 * i_10) 4)))), some (.ref 20), some (.int (Int32.ofInt 6)), some (.int (Int32.ofInt ((i_10 : Int) + 1))), some (.ref (54 + 2 * i_10))]) rfl (Nat.le_of_ble_eq_true rfl) rfl rfl ?_
                    refine zW.run 1 (pc' := 54) (ls' := [some (.ref 7), some (.int (Int32.ofInt x)), some (.ref o_3), some (.int (Int32.ofInt (a_11 + (s (54 + 2 * i_10) 4)))), some (.ref 20), some (.int (Int32.ofInt 6)), some (.int (Int32.ofInt ((i_10 : Int) + 1))), some (.ref (54 + 2 * i_10))]) (st' := []) (σ' := (zN L X (zhi s) R G nc ns)) (fun n => rfl) ?_
                    exact ih16 (i_10 + 1) (a_11 + (s (54 + 2 * i_10) 4)) (some (.ref (54 + 2 * i_10))) (by omega) (by omega) (by omega)
                  · skip
                    show zW ro 144 82 [some (.ref 7), some (.int (Int32.ofInt x)), some (.ref o_3), some (.int (Int32.ofInt a_11)), some (.ref 20), some (.int (Int32.ofInt 6)), some (.int (Int32.ofInt (i_10 : Int))), some (.ref (54 + 2 * i_10))] [.int (Int32.ofInt 0)] (zN L X (zhi s) R G nc ns) Q
                    refine zW.run 1 (pc' := 93) (ls' := [some (.ref 7), some (.int (Int32.ofInt x)), some (.ref o_3), some (.int (Int32.ofInt a_11)), some (.ref 20), some (.int (Int32.ofInt 6)), some (.int (Int32.ofInt (i_10 : Int))), some (.ref (54 + 2 * i_10))]) (st' := []) (σ' := (zN L X (zhi s) R G nc ns)) (fun n => rfl) ?_
                    refine zW.jinc (ls' := [some (.ref 7), some (.int (Int32.ofInt x)), some (.ref o_3), some (.int (Int32.ofInt a_11)), some (.ref 20), some (.int (Int32.ofInt 6)), some (.int (Int32.ofInt ((i_10 : Int) + 1))), some (.ref (54 + 2 * i_10))]) rfl (Nat.le_of_ble_eq_true rfl) rfl rfl ?_
                    refine zW.run 1 (pc' := 54) (ls' := [some (.ref 7), some (.int (Int32.ofInt x)), some (.ref o_3), some (.int (Int32.ofInt a_11)), some (.ref 20), some (.int (Int32.ofInt 6)), some (.int (Int32.ofInt ((i_10 : Int) + 1))), some (.ref (54 + 2 * i_10))]) (st' := []) (σ' := (zN L X (zhi s) R G nc ns)) (fun n => rfl) ?_
                    exact ih16 (i_10 + 1) a_11 (some (.ref (54 + 2 * i_10))) (by omega) (by omega) (by omega)
          exact J15 _ 0 0 none (by omega) (rfl) (Nat.lt_succ_self _)
        · skip
          refine zW.run 1 (pc' := 37) (ls' := [some (.ref 7), some (.int (Int32.ofInt x)), some (.ref o_3), none, none, none, none, none]) (st' := [.int (Int32.ofInt 1)]) (σ' := (zN L X (zhi s) R G nc ns)) (fun n => rfl) ?_
          exact zW.jretb rfl rfl (by decide) hQ0
      · skip
        refine zW.run 1 (pc' := 28) (ls' := [some (.ref 7), some (.int (Int32.ofInt x)), some (.ref o_3), none, none, none, none, none]) (st' := [.int (Int32.ofInt 0)]) (σ' := (zN L X (zhi s) R G nc ns)) (fun n => rfl) ?_
        exfalso
        omega
set_option maxHeartbeats 4000000 in
theorem t_Siege_areMenSound (S : zSR R) (V : zV g U F T B ph s)   (hQ0 : Q (.inl (some (.int (Int32.ofInt 1)))) (zN L X (zhi s) R G nc ns)) : zW ro 126 0 (zfst [.ref 7] 5) [] (zN L X (zhi s) R G nc ns) Q := by
  show zW ro 126 0 [some (.ref 7), none, none, none, none] [] (zN L X (zhi s) R G nc ns) Q
  have f1 := zA_geo (zV_zA V)
  have hB0 := zV_B V
  refine zW.run 1 (pc' := 1) (ls' := [some (.ref 7), none, none, none, none]) (st' := [.ref 7]) (σ' := (zN L X (zhi s) R G nc ns)) (fun n => rfl) ?_
  refine zW.getf (v := .ref 19) rfl rfl (zr_7_2 S) ?_
  refine zW.run 2 (pc' := 6) (ls' := [some (.ref 7), some (.ref 19), none, none, none]) (st' := [.ref 19]) (σ' := (zN L X (zhi s) R G nc ns)) (fun n => rfl) ?_
  refine zW.alen rfl rfl (by decide) ?_
  show zW ro 126 7 [some (.ref 7), some (.ref 19), none, none, none] [.int (Int32.ofInt 12)] (zN L X (zhi s) R G nc ns) Q
  refine zW.run 3 (pc' := 10) (ls' := [some (.ref 7), some (.ref 19), some (.int (Int32.ofInt 12)), some (.int (Int32.ofInt 0)), none]) (st' := []) (σ' := (zN L X (zhi s) R G nc ns)) (fun n => rfl) ?_
  have J5 : ∀ m : Nat, ∀ (i_2 : Nat) (w3 : Option Value), i_2 ≤ 12 → 13 - i_2 < m → zW ro 126 10 [some (.ref 7), some (.ref 19), some (.int (Int32.ofInt 12)), some (.int (Int32.ofInt (i_2 : Int))), w3] [] (zN L X (zhi s) R G nc ns) Q := by
    intro m
    induction m with
    | zero => intros; omega
    | succ m ih6 =>
      intro i_2 w3 c4 hm7
      refine zW.run 2 (pc' := 12) (ls' := [some (.ref 7), some (.ref 19), some (.int (Int32.ofInt 12)), some (.int (Int32.ofInt (i_2 : Int))), w3]) (st' := [.int (Int32.ofInt 12), .int (Int32.ofInt (i_2 : Int))]) (σ' := (zN L X (zhi s) R G nc ns)) (fun n => rfl) ?_
      refine zW.jcmp_ge rfl (by omega) (fun c8 => ?_) (fun c8 => ?_)
      · skip
        refine zW.run 1 (pc' := 48) (ls' := [some (.ref 7), some (.ref 19), some (.int (Int32.ofInt 12)), some (.int (Int32.ofInt (i_2 : Int))), w3]) (st' := [.int (Int32.ofInt 1)]) (σ' := (zN L X (zhi s) R G nc ns)) (fun n => rfl) ?_
        exact zW.jretb rfl rfl (by decide) hQ0
      · skip
        refine zW.run 2 (pc' := 17) (ls' := [some (.ref 7), some (.ref 19), some (.int (Int32.ofInt 12)), some (.int (Int32.ofInt (i_2 : Int))), w3]) (st' := [.int (Int32.ofInt (i_2 : Int)), .ref 19]) (σ' := (zN L X (zhi s) R G nc ns)) (fun n => rfl) ?_
        refine zW.jaald (n := 12) (v := .ref (42 + i_2)) rfl rfl (by decide) (by decide) (by omega) (zr_com S (by omega)) ?_
        refine zW.run 2 (pc' := 22) (ls' := [some (.ref 7), some (.ref 19), some (.int (Int32.ofInt 12)), some (.int (Int32.ofInt (i_2 : Int))), some (.ref (42 + i_2))]) (st' := [.ref (42 + i_2)]) (σ' := (zN L X (zhi s) R G nc ns)) (fun n => rfl) ?_
        have f9 := zV_com V (i := i_2) (by omega)
        refine zW.jget (v := (s (42 + i_2) 2)) rfl (zk_com (by omega)) (fun _ _ _ => rfl) rfl ?_
        refine zW.jif_lt rfl (by omega) (fun c10 => ?_) (fun c10 => ?_)
        · skip
          refine zW.run 1 (pc' := 40) (ls' := [some (.ref 7), some (.ref 19), some (.int (Int32.ofInt 12)), some (.int (Int32.ofInt (i_2 : Int))), some (.ref (42 + i_2))]) (st' := [.int (Int32.ofInt 0)]) (σ' := (zN L X (zhi s) R G nc ns)) (fun n => rfl) ?_
          exfalso
          omega
        · skip
          refine zW.run 1 (pc' := 30) (ls' := [some (.ref 7), some (.ref 19), some (.int (Int32.ofInt 12)), some (.int (Int32.ofInt (i_2 : Int))), some (.ref (42 + i_2))]) (st' := [.ref (42 + i_2)]) (σ' := (zN L X (zhi s) R G nc ns)) (fun n => rfl) ?_
          refine zW.jget (v := (s (42 + i_2) 2)) rfl (zk_com (by omega)) (fun _ _ _ => rfl) rfl ?_
          refine zW.run 1 (pc' := 36) (ls' := [some (.ref 7), some (.ref 19), some (.int (Int32.ofInt 12)), some (.int (Int32.ofInt (i_2 : Int))), some (.ref (42 + i_2))]) (st' := [.int (Int32.ofInt 200), .int (Int32.ofInt (s (42 + i_2) 2))]) (σ' := (zN L X (zhi s) R G nc ns)) (fun n => rfl) ?_
          refine zW.jcmp_le rfl (by omega) (fun c11 => ?_) (fun c11 => ?_)
          · skip
            refine zW.jinc (ls' := [some (.ref 7), some (.ref 19), some (.int (Int32.ofInt 12)), some (.int (Int32.ofInt ((i_2 : Int) + 1))), some (.ref (42 + i_2))]) rfl (Nat.le_of_ble_eq_true rfl) rfl rfl ?_
            refine zW.run 1 (pc' := 10) (ls' := [some (.ref 7), some (.ref 19), some (.int (Int32.ofInt 12)), some (.int (Int32.ofInt ((i_2 : Int) + 1))), some (.ref (42 + i_2))]) (st' := []) (σ' := (zN L X (zhi s) R G nc ns)) (fun n => rfl) ?_
            exact ih6 (i_2 + 1) (some (.ref (42 + i_2))) (by omega) (by omega)
          · skip
            refine zW.run 1 (pc' := 40) (ls' := [some (.ref 7), some (.ref 19), some (.int (Int32.ofInt 12)), some (.int (Int32.ofInt (i_2 : Int))), some (.ref (42 + i_2))]) (st' := [.int (Int32.ofInt 0)]) (σ' := (zN L X (zhi s) R G nc ns)) (fun n => rfl) ?_
            exfalso
            omega
  exact J5 _ 0 none (by omega) (Nat.lt_succ_self _)
set_option maxHeartbeats 4000000 in
theorem t_Siege_isGroundSound (S : zSR R) (V : zV g U F T B ph s)   (hQ0 : Q (.inl (some (.int (Int32.ofInt 1)))) (zN L X (zhi s) R G nc ns)) : zW ro 141 0 (zfst [.ref 7] 4) [] (zN L X (zhi s) R G nc ns) Q := by
  show zW ro 141 0 [some (.ref 7), none, none, none] [] (zN L X (zhi s) R G nc ns) Q
  have f1 := zA_geo (zV_zA V)
  have hB0 := zV_B V
  have hE := zV_zE V
  refine zW.run 2 (pc' := 2) (ls' := [some (.ref 7), some (.int (Int32.ofInt 0)), none, none]) (st' := []) (σ' := (zN L X (zhi s) R G nc ns)) (fun n => rfl) ?_
  have J6 : ∀ m : Nat, ∀ (k_2 : Nat) (w3 : Option Value) (w4 : Option Value), (k_2 : Int) ≤ g 2 → 145 - k_2 < m → zW ro 141 2 [some (.ref 7), some (.int (Int32.ofInt (k_2 : Int))), w3, w4] [] (zN L X (zhi s) R G nc ns) Q := by
    intro m
    induction m with
    | zero => intros; omega
    | succ m ih7 =>
      intro k_2 w3 w4 c5 hm8
      refine zW.run 2 (pc' := 4) (ls' := [some (.ref 7), some (.int (Int32.ofInt (k_2 : Int))), w3, w4]) (st' := [.ref 7, .int (Int32.ofInt (k_2 : Int))]) (σ' := (zN L X (zhi s) R G nc ns)) (fun n => rfl) ?_
      refine zW.getf (v := .ref 8) rfl rfl (zr_7_0 S) ?_
      refine zW.run 1 (pc' := 10) (ls' := [some (.ref 7), some (.int (Int32.ofInt (k_2 : Int))), w3, w4]) (st' := [.int (Int32.ofInt (s 8 11)), .int (Int32.ofInt (k_2 : Int))]) (σ' := (zN L X (zhi s) R G nc ns)) (fun n => rfl) ?_
      refine zW.jcmp_ge rfl (by omega) (fun c9 => ?_) (fun c9 => ?_)
      · skip
        refine zW.run 1 (pc' := 95) (ls' := [some (.ref 7), some (.int (Int32.ofInt (k_2 : Int))), w3, w4]) (st' := [.int (Int32.ofInt 1)]) (σ' := (zN L X (zhi s) R G nc ns)) (fun n => rfl) ?_
        exact zW.jretb rfl rfl (by decide) hQ0
      · skip
        refine zW.run 1 (pc' := 14) (ls' := [some (.ref 7), some (.int (Int32.ofInt (k_2 : Int))), w3, w4]) (st' := [.ref 7]) (σ' := (zN L X (zhi s) R G nc ns)) (fun n => rfl) ?_
        refine zW.getf (v := .ref 8) rfl rfl (zr_7_0 S) ?_
        refine zW.run 1 (pc' := 18) (ls' := [some (.ref 7), some (.int (Int32.ofInt (k_2 : Int))), w3, w4]) (st' := [.int (Int32.ofInt (k_2 : Int)), .ref 8]) (σ' := (zN L X (zhi s) R G nc ns)) (fun n => rfl) ?_
        refine zW.callV rfl (by decide) rfl rfl rfl rfl rfl (Nat.le_of_ble_eq_true rfl) ?_
        refine t_Ground_workOf_e S V (x := (k_2 : Int)) (by omega) ?_
        show zW ro 141 21 [some (.ref 7), some (.int (Int32.ofInt (k_2 : Int))), w3, w4] [.int (Int32.ofInt (s 11 k_2))] (zN L X (zhi s) R G nc ns) Q
        have f10 := zV_sq V (k := k_2) (by omega)
        refine zW.run 3 (pc' := 24) (ls' := [some (.ref 7), some (.int (Int32.ofInt (k_2 : Int))), some (.int (Int32.ofInt (s 11 k_2))), w4]) (st' := [.ref 7, .int (Int32.ofInt (k_2 : Int))]) (σ' := (zN L X (zhi s) R G nc ns)) (fun n => rfl) ?_
        refine zW.getf (v := .ref 8) rfl rfl (zr_7_0 S) ?_
        refine zW.run 1 (pc' := 30) (ls' := [some (.ref 7), some (.int (Int32.ofInt (k_2 : Int))), some (.int (Int32.ofInt (s 11 k_2))), w4]) (st' := [.int (Int32.ofInt (s 8 12)), .int (Int32.ofInt (k_2 : Int))]) (σ' := (zN L X (zhi s) R G nc ns)) (fun n => rfl) ?_
        refine zW.jcmp_eq rfl (by omega) (fun c11 => ?_) (fun c11 => ?_)
        · skip
          refine zW.run 6 (pc' := 55) (ls' := [some (.ref 7), some (.int (Int32.ofInt (k_2 : Int))), some (.int (Int32.ofInt (s 11 k_2))), some (.int (Int32.ofInt 1))]) (st' := [.int (Int32.ofInt (s 11 k_2))]) (σ' := (zN L X (zhi s) R G nc ns)) (fun n => rfl) ?_
          refine zW.jif_eq rfl (by omega) (fun c12 => ?_) (fun c12 => ?_)
          · skip
            refine zW.run 2 (pc' := 72) (ls' := [some (.ref 7), some (.int (Int32.ofInt (k_2 : Int))), some (.int (Int32.ofInt (s 11 k_2))), some (.int (Int32.ofInt 1))]) (st' := [.int (Int32.ofInt 1), .int (Int32.ofInt (s 11 k_2))]) (σ' := (zN L X (zhi s) R G nc ns)) (fun n => rfl) ?_
            refine zW.jcmp_ne rfl (by omega) (fun c13 => ?_) (fun c13 => ?_)
            · skip
              refine zW.jinc (ls' := [some (.ref 7), some (.int (Int32.ofInt ((k_2 : Int) + 1))), some (.int (Int32.ofInt (s 11 k_2))), some (.int (Int32.ofInt 1))]) rfl (Nat.le_of_ble_eq_true rfl) rfl rfl ?_
              refine zW.run 1 (pc' := 2) (ls' := [some (.ref 7), some (.int (Int32.ofInt ((k_2 : Int) + 1))), some (.int (Int32.ofInt (s 11 k_2))), some (.int (Int32.ofInt 1))]) (st' := []) (σ' := (zN L X (zhi s) R G nc ns)) (fun n => rfl) ?_
              exact ih7 (k_2 + 1) (some (.int (Int32.ofInt (s 11 k_2)))) (some (.int (Int32.ofInt 1))) (by omega) (by omega)
            · skip
              refine zW.run 1 (pc' := 76) (ls' := [some (.ref 7), some (.int (Int32.ofInt (k_2 : Int))), some (.int (Int32.ofInt (s 11 k_2))), some (.int (Int32.ofInt 1))]) (st' := [.ref 7]) (σ' := (zN L X (zhi s) R G nc ns)) (fun n => rfl) ?_
              refine zW.getf (v := .ref 8) rfl rfl (zr_7_0 S) ?_
              refine zW.run 1 (pc' := 80) (ls' := [some (.ref 7), some (.int (Int32.ofInt (k_2 : Int))), some (.int (Int32.ofInt (s 11 k_2))), some (.int (Int32.ofInt 1))]) (st' := [.int (Int32.ofInt (k_2 : Int)), .ref 8]) (σ' := (zN L X (zhi s) R G nc ns)) (fun n => rfl) ?_
              refine zW.callV rfl (by decide) rfl rfl rfl rfl rfl (Nat.le_of_ble_eq_true rfl) ?_
              refine t_Ground_firmOf_e S V (x := (k_2 : Int)) (by omega) (fun v_14 f15 => ?_)
              show zW ro 141 83 [some (.ref 7), some (.int (Int32.ofInt (k_2 : Int))), some (.int (Int32.ofInt (s 11 k_2))), some (.int (Int32.ofInt 1))] [.int (Int32.ofInt v_14)] (zN L X (zhi s) R G nc ns) Q
              simp only [Int.toNat_natCast] at f15
              refine zW.jif_gt rfl (by omega) (fun c16 => ?_) (fun c16 => ?_)
              · skip
                refine zW.jinc (ls' := [some (.ref 7), some (.int (Int32.ofInt ((k_2 : Int) + 1))), some (.int (Int32.ofInt (s 11 k_2))), some (.int (Int32.ofInt 1))]) rfl (Nat.le_of_ble_eq_true rfl) rfl rfl ?_
                refine zW.run 1 (pc' := 2) (ls' := [some (.ref 7), some (.int (Int32.ofInt ((k_2 : Int) + 1))), some (.int (Int32.ofInt (s 11 k_2))), some (.int (Int32.ofInt 1))]) (st' := []) (σ' := (zN L X (zhi s) R G nc ns)) (fun n => rfl) ?_
                exact ih7 (k_2 + 1) (some (.int (Int32.ofInt (s 11 k_2)))) (some (.int (Int32.ofInt 1))) (by omega) (by omega)
              · skip
                refine zW.run 1 (pc' := 87) (ls' := [some (.ref 7), some (.int (Int32.ofInt (k_2 : Int))), some (.int (Int32.ofInt (s 11 k_2))), some (.int (Int32.ofInt 1))]) (st' := [.int (Int32.ofInt 0)]) (σ' := (zN L X (zhi s) R G nc ns)) (fun n => rfl) ?_
                exfalso
                have q := hE.1 k_2 (by omega) (by omega)
                omega
          · skip
            refine zW.run 2 (pc' := 60) (ls' := [some (.ref 7), some (.int (Int32.ofInt (k_2 : Int))), some (.int (Int32.ofInt (s 11 k_2))), some (.int (Int32.ofInt 1))]) (st' := [.int (Int32.ofInt 3), .int (Int32.ofInt (s 11 k_2))]) (σ' := (zN L X (zhi s) R G nc ns)) (fun n => rfl) ?_
            refine zW.jcmp_eq rfl (by omega) (fun c17 => ?_) (fun c17 => ?_)
            · skip
              refine zW.run 2 (pc' := 72) (ls' := [some (.ref 7), some (.int (Int32.ofInt (k_2 : Int))), some (.int (Int32.ofInt (s 11 k_2))), some (.int (Int32.ofInt 1))]) (st' := [.int (Int32.ofInt 1), .int (Int32.ofInt (s 11 k_2))]) (σ' := (zN L X (zhi s) R G nc ns)) (fun n => rfl) ?_
              refine zW.jcmp_ne rfl (by omega) (fun c18 => ?_) (fun c18 => ?_)
              · skip
                refine zW.jinc (ls' := [some (.ref 7), some (.int (Int32.ofInt ((k_2 : Int) + 1))), some (.int (Int32.ofInt (s 11 k_2))), some (.int (Int32.ofInt 1))]) rfl (Nat.le_of_ble_eq_true rfl) rfl rfl ?_
                refine zW.run 1 (pc' := 2) (ls' := [some (.ref 7), some (.int (Int32.ofInt ((k_2 : Int) + 1))), some (.int (Int32.ofInt (s 11 k_2))), some (.int (Int32.ofInt 1))]) (st' := []) (σ' := (zN L X (zhi s) R G nc ns)) (fun n => rfl) ?_
                exact ih7 (k_2 + 1) (some (.int (Int32.ofInt (s 11 k_2)))) (some (.int (Int32.ofInt 1))) (by omega) (by omega)
              · skip
                refine zW.run 1 (pc' := 76) (ls' := [some (.ref 7), some (.int (Int32.ofInt (k_2 : Int))), some (.int (Int32.ofInt (s 11 k_2))), some (.int (Int32.ofInt 1))]) (st' := [.ref 7]) (σ' := (zN L X (zhi s) R G nc ns)) (fun n => rfl) ?_
                refine zW.getf (v := .ref 8) rfl rfl (zr_7_0 S) ?_
                refine zW.run 1 (pc' := 80) (ls' := [some (.ref 7), some (.int (Int32.ofInt (k_2 : Int))), some (.int (Int32.ofInt (s 11 k_2))), some (.int (Int32.ofInt 1))]) (st' := [.int (Int32.ofInt (k_2 : Int)), .ref 8]) (σ' := (zN L X (zhi s) R G nc ns)) (fun n => rfl) ?_
                refine zW.callV rfl (by decide) rfl rfl rfl rfl rfl (Nat.le_of_ble_eq_true rfl) ?_
                refine t_Ground_firmOf_e S V (x := (k_2 : Int)) (by omega) (fun v_19 f20 => ?_)
                show zW ro 141 83 [some (.ref 7), some (.int (Int32.ofInt (k_2 : Int))), some (.int (Int32.ofInt (s 11 k_2))), some (.int (Int32.ofInt 1))] [.int (Int32.ofInt v_19)] (zN L X (zhi s) R G nc ns) Q
                simp only [Int.toNat_natCast] at f20
                refine zW.jif_gt rfl (by omega) (fun c21 => ?_) (fun c21 => ?_)
                · skip
                  refine zW.jinc (ls' := [some (.ref 7), some (.int (Int32.ofInt ((k_2 : Int) + 1))), some (.int (Int32.ofInt (s 11 k_2))), some (.int (Int32.ofInt 1))]) rfl (Nat.le_of_ble_eq_true rfl) rfl rfl ?_
                  refine zW.run 1 (pc' := 2) (ls' := [some (.ref 7), some (.int (Int32.ofInt ((k_2 : Int) + 1))), some (.int (Int32.ofInt (s 11 k_2))), some (.int (Int32.ofInt 1))]) (st' := []) (σ' := (zN L X (zhi s) R G nc ns)) (fun n => rfl) ?_
                  exact ih7 (k_2 + 1) (some (.int (Int32.ofInt (s 11 k_2)))) (some (.int (Int32.ofInt 1))) (by omega) (by omega)
                · skip
                  refine zW.run 1 (pc' := 87) (ls' := [some (.ref 7), some (.int (Int32.ofInt (k_2 : Int))), some (.int (Int32.ofInt (s 11 k_2))), some (.int (Int32.ofInt 1))]) (st' := [.int (Int32.ofInt 0)]) (σ' := (zN L X (zhi s) R G nc ns)) (fun n => rfl) ?_
                  exfalso
                  have q := hE.1 k_2 (by omega) (by omega)
                  omega
            · skip
              refine zW.run 2 (pc' := 65) (ls' := [some (.ref 7), some (.int (Int32.ofInt (k_2 : Int))), some (.int (Int32.ofInt (s 11 k_2))), some (.int (Int32.ofInt 1))]) (st' := [.int (Int32.ofInt 4), .int (Int32.ofInt (s 11 k_2))]) (σ' := (zN L X (zhi s) R G nc ns)) (fun n => rfl) ?_
              refine zW.jcmp_eq rfl (by omega) (fun c22 => ?_) (fun c22 => ?_)
              · skip
                refine zW.run 2 (pc' := 72) (ls' := [some (.ref 7), some (.int (Int32.ofInt (k_2 : Int))), some (.int (Int32.ofInt (s 11 k_2))), some (.int (Int32.ofInt 1))]) (st' := [.int (Int32.ofInt 1), .int (Int32.ofInt (s 11 k_2))]) (σ' := (zN L X (zhi s) R G nc ns)) (fun n => rfl) ?_
                refine zW.jcmp_ne rfl (by omega) (fun c23 => ?_) (fun c23 => ?_)
                · skip
                  refine zW.jinc (ls' := [some (.ref 7), some (.int (Int32.ofInt ((k_2 : Int) + 1))), some (.int (Int32.ofInt (s 11 k_2))), some (.int (Int32.ofInt 1))]) rfl (Nat.le_of_ble_eq_true rfl) rfl rfl ?_
                  refine zW.run 1 (pc' := 2) (ls' := [some (.ref 7), some (.int (Int32.ofInt ((k_2 : Int) + 1))), some (.int (Int32.ofInt (s 11 k_2))), some (.int (Int32.ofInt 1))]) (st' := []) (σ' := (zN L X (zhi s) R G nc ns)) (fun n => rfl) ?_
                  exact ih7 (k_2 + 1) (some (.int (Int32.ofInt (s 11 k_2)))) (some (.int (Int32.ofInt 1))) (by omega) (by omega)
                · skip
                  refine zW.run 1 (pc' := 76) (ls' := [some (.ref 7), some (.int (Int32.ofInt (k_2 : Int))), some (.int (Int32.ofInt (s 11 k_2))), some (.int (Int32.ofInt 1))]) (st' := [.ref 7]) (σ' := (zN L X (zhi s) R G nc ns)) (fun n => rfl) ?_
                  refine zW.getf (v := .ref 8) rfl rfl (zr_7_0 S) ?_
                  refine zW.run 1 (pc' := 80) (ls' := [some (.ref 7), some (.int (Int32.ofInt (k_2 : Int))), some (.int (Int32.ofInt (s 11 k_2))), some (.int (Int32.ofInt 1))]) (st' := [.int (Int32.ofInt (k_2 : Int)), .ref 8]) (σ' := (zN L X (zhi s) R G nc ns)) (fun n => rfl) ?_
                  refine zW.callV rfl (by decide) rfl rfl rfl rfl rfl (Nat.le_of_ble_eq_true rfl) ?_
                  refine t_Ground_firmOf_e S V (x := (k_2 : Int)) (by omega) (fun v_24 f25 => ?_)
                  show zW ro 141 83 [some (.ref 7), some (.int (Int32.ofInt (k_2 : Int))), some (.int (Int32.ofInt (s 11 k_2))), some (.int (Int32.ofInt 1))] [.int (Int32.ofInt v_24)] (zN L X (zhi s) R G nc ns) Q
                  simp only [Int.toNat_natCast] at f25
                  refine zW.jif_gt rfl (by omega) (fun c26 => ?_) (fun c26 => ?_)
                  · skip
                    refine zW.jinc (ls' := [some (.ref 7), some (.int (Int32.ofInt ((k_2 : Int) + 1))), some (.int (Int32.ofInt (s 11 k_2))), some (.int (Int32.ofInt 1))]) rfl (Nat.le_of_ble_eq_true rfl) rfl rfl ?_
                    refine zW.run 1 (pc' := 2) (ls' := [some (.ref 7), some (.int (Int32.ofInt ((k_2 : Int) + 1))), some (.int (Int32.ofInt (s 11 k_2))), some (.int (Int32.ofInt 1))]) (st' := []) (σ' := (zN L X (zhi s) R G nc ns)) (fun n => rfl) ?_
                    exact ih7 (k_2 + 1) (some (.int (Int32.ofInt (s 11 k_2)))) (some (.int (Int32.ofInt 1))) (by omega) (by omega)
                  · skip
                    refine zW.run 1 (pc' := 87) (ls' := [some (.ref 7), some (.int (Int32.ofInt (k_2 : Int))), some (.int (Int32.ofInt (s 11 k_2))), some (.int (Int32.ofInt 1))]) (st' := [.int (Int32.ofInt 0)]) (σ' := (zN L X (zhi s) R G nc ns)) (fun n => rfl) ?_
                    exfalso
                    have q := hE.1 k_2 (by omega) (by omega)
                    omega
              · skip
                refine zW.run 1 (pc' := 69) (ls' := [some (.ref 7), some (.int (Int32.ofInt (k_2 : Int))), some (.int (Int32.ofInt (s 11 k_2))), some (.int (Int32.ofInt 1))]) (st' := [.int (Int32.ofInt 0)]) (σ' := (zN L X (zhi s) R G nc ns)) (fun n => rfl) ?_
                exfalso
                have e1 := hE.2.1
                have e2 := hE.2.2
                rcases (show k_2 = 0 ∨ k_2 = (g 3).toNat by omega) with e | e <;> subst e <;> omega
        · skip
          refine zW.run 2 (pc' := 35) (ls' := [some (.ref 7), some (.int (Int32.ofInt (k_2 : Int))), some (.int (Int32.ofInt (s 11 k_2))), w4]) (st' := [.ref 7, .int (Int32.ofInt (k_2 : Int))]) (σ' := (zN L X (zhi s) R G nc ns)) (fun n => rfl) ?_
          refine zW.getf (v := .ref 8) rfl rfl (zr_7_0 S) ?_
          refine zW.run 1 (pc' := 41) (ls' := [some (.ref 7), some (.int (Int32.ofInt (k_2 : Int))), some (.int (Int32.ofInt (s 11 k_2))), w4]) (st' := [.int (Int32.ofInt (s 8 13)), .int (Int32.ofInt (k_2 : Int))]) (σ' := (zN L X (zhi s) R G nc ns)) (fun n => rfl) ?_
          refine zW.jcmp_ne rfl (by omega) (fun c27 => ?_) (fun c27 => ?_)
          · skip
            refine zW.run 6 (pc' := 72) (ls' := [some (.ref 7), some (.int (Int32.ofInt (k_2 : Int))), some (.int (Int32.ofInt (s 11 k_2))), some (.int (Int32.ofInt 0))]) (st' := [.int (Int32.ofInt 1), .int (Int32.ofInt (s 11 k_2))]) (σ' := (zN L X (zhi s) R G nc ns)) (fun n => rfl) ?_
            refine zW.jcmp_ne rfl (by omega) (fun c28 => ?_) (fun c28 => ?_)
            · skip
              refine zW.jinc (ls' := [some (.ref 7), some (.int (Int32.ofInt ((k_2 : Int) + 1))), some (.int (Int32.ofInt (s 11 k_2))), some (.int (Int32.ofInt 0))]) rfl (Nat.le_of_ble_eq_true rfl) rfl rfl ?_
              refine zW.run 1 (pc' := 2) (ls' := [some (.ref 7), some (.int (Int32.ofInt ((k_2 : Int) + 1))), some (.int (Int32.ofInt (s 11 k_2))), some (.int (Int32.ofInt 0))]) (st' := []) (σ' := (zN L X (zhi s) R G nc ns)) (fun n => rfl) ?_
              exact ih7 (k_2 + 1) (some (.int (Int32.ofInt (s 11 k_2)))) (some (.int (Int32.ofInt 0))) (by omega) (by omega)
            · skip
              refine zW.run 1 (pc' := 76) (ls' := [some (.ref 7), some (.int (Int32.ofInt (k_2 : Int))), some (.int (Int32.ofInt (s 11 k_2))), some (.int (Int32.ofInt 0))]) (st' := [.ref 7]) (σ' := (zN L X (zhi s) R G nc ns)) (fun n => rfl) ?_
              refine zW.getf (v := .ref 8) rfl rfl (zr_7_0 S) ?_
              refine zW.run 1 (pc' := 80) (ls' := [some (.ref 7), some (.int (Int32.ofInt (k_2 : Int))), some (.int (Int32.ofInt (s 11 k_2))), some (.int (Int32.ofInt 0))]) (st' := [.int (Int32.ofInt (k_2 : Int)), .ref 8]) (σ' := (zN L X (zhi s) R G nc ns)) (fun n => rfl) ?_
              refine zW.callV rfl (by decide) rfl rfl rfl rfl rfl (Nat.le_of_ble_eq_true rfl) ?_
              refine t_Ground_firmOf_e S V (x := (k_2 : Int)) (by omega) (fun v_29 f30 => ?_)
              show zW ro 141 83 [some (.ref 7), some (.int (Int32.ofInt (k_2 : Int))), some (.int (Int32.ofInt (s 11 k_2))), some (.int (Int32.ofInt 0))] [.int (Int32.ofInt v_29)] (zN L X (zhi s) R G nc ns) Q
              simp only [Int.toNat_natCast] at f30
              refine zW.jif_gt rfl (by omega) (fun c31 => ?_) (fun c31 => ?_)
              · skip
                refine zW.jinc (ls' := [some (.ref 7), some (.int (Int32.ofInt ((k_2 : Int) + 1))), some (.int (Int32.ofInt (s 11 k_2))), some (.int (Int32.ofInt 0))]) rfl (Nat.le_of_ble_eq_true rfl) rfl rfl ?_
                refine zW.run 1 (pc' := 2) (ls' := [some (.ref 7), some (.int (Int32.ofInt ((k_2 : Int) + 1))), some (.int (Int32.ofInt (s 11 k_2))), some (.int (Int32.ofInt 0))]) (st' := []) (σ' := (zN L X (zhi s) R G nc ns)) (fun n => rfl) ?_
                exact ih7 (k_2 + 1) (some (.int (Int32.ofInt (s 11 k_2)))) (some (.int (Int32.ofInt 0))) (by omega) (by omega)
              · skip
                refine zW.run 1 (pc' := 87) (ls' := [some (.ref 7), some (.int (Int32.ofInt (k_2 : Int))), some (.int (Int32.ofInt (s 11 k_2))), some (.int (Int32.ofInt 0))]) (st' := [.int (Int32.ofInt 0)]) (σ' := (zN L X (zhi s) R G nc ns)) (fun n => rfl) ?_
                exfalso
                have q := hE.1 k_2 (by omega) (by omega)
                omega
          · skip
            refine zW.run 6 (pc' := 55) (ls' := [some (.ref 7), some (.int (Int32.ofInt (k_2 : Int))), some (.int (Int32.ofInt (s 11 k_2))), some (.int (Int32.ofInt 1))]) (st' := [.int (Int32.ofInt (s 11 k_2))]) (σ' := (zN L X (zhi s) R G nc ns)) (fun n => rfl) ?_
            refine zW.jif_eq rfl (by omega) (fun c32 => ?_) (fun c32 => ?_)
            · skip
              refine zW.run 2 (pc' := 72) (ls' := [some (.ref 7), some (.int (Int32.ofInt (k_2 : Int))), some (.int (Int32.ofInt (s 11 k_2))), some (.int (Int32.ofInt 1))]) (st' := [.int (Int32.ofInt 1), .int (Int32.ofInt (s 11 k_2))]) (σ' := (zN L X (zhi s) R G nc ns)) (fun n => rfl) ?_
              refine zW.jcmp_ne rfl (by omega) (fun c33 => ?_) (fun c33 => ?_)
              · skip
                refine zW.jinc (ls' := [some (.ref 7), some (.int (Int32.ofInt ((k_2 : Int) + 1))), some (.int (Int32.ofInt (s 11 k_2))), some (.int (Int32.ofInt 1))]) rfl (Nat.le_of_ble_eq_true rfl) rfl rfl ?_
                refine zW.run 1 (pc' := 2) (ls' := [some (.ref 7), some (.int (Int32.ofInt ((k_2 : Int) + 1))), some (.int (Int32.ofInt (s 11 k_2))), some (.int (Int32.ofInt 1))]) (st' := []) (σ' := (zN L X (zhi s) R G nc ns)) (fun n => rfl) ?_
                exact ih7 (k_2 + 1) (some (.int (Int32.ofInt (s 11 k_2)))) (some (.int (Int32.ofInt 1))) (by omega) (by omega)
              · skip
                refine zW.run 1 (pc' := 76) (ls' := [some (.ref 7), some (.int (Int32.ofInt (k_2 : Int))), some (.int (Int32.ofInt (s 11 k_2))), some (.int (Int32.ofInt 1))]) (st' := [.ref 7]) (σ' := (zN L X (zhi s) R G nc ns)) (fun n => rfl) ?_
                refine zW.getf (v := .ref 8) rfl rfl (zr_7_0 S) ?_
                refine zW.run 1 (pc' := 80) (ls' := [some (.ref 7), some (.int (Int32.ofInt (k_2 : Int))), some (.int (Int32.ofInt (s 11 k_2))), some (.int (Int32.ofInt 1))]) (st' := [.int (Int32.ofInt (k_2 : Int)), .ref 8]) (σ' := (zN L X (zhi s) R G nc ns)) (fun n => rfl) ?_
                refine zW.callV rfl (by decide) rfl rfl rfl rfl rfl (Nat.le_of_ble_eq_true rfl) ?_
                refine t_Ground_firmOf_e S V (x := (k_2 : Int)) (by omega) (fun v_34 f35 => ?_)
                show zW ro 141 83 [some (.ref 7), some (.int (Int32.ofInt (k_2 : Int))), some (.int (Int32.ofInt (s 11 k_2))), some (.int (Int32.ofInt 1))] [.int (Int32.ofInt v_34)] (zN L X (zhi s) R G nc ns) Q
                simp only [Int.toNat_natCast] at f35
                refine zW.jif_gt rfl (by omega) (fun c36 => ?_) (fun c36 => ?_)
                · skip
                  refine zW.jinc (ls' := [some (.ref 7), some (.int (Int32.ofInt ((k_2 : Int) + 1))), some (.int (Int32.ofInt (s 11 k_2))), some (.int (Int32.ofInt 1))]) rfl (Nat.le_of_ble_eq_true rfl) rfl rfl ?_
                  refine zW.run 1 (pc' := 2) (ls' := [some (.ref 7), some (.int (Int32.ofInt ((k_2 : Int) + 1))), some (.int (Int32.ofInt (s 11 k_2))), some (.int (Int32.ofInt 1))]) (st' := []) (σ' := (zN L X (zhi s) R G nc ns)) (fun n => rfl) ?_
                  exact ih7 (k_2 + 1) (some (.int (Int32.ofInt (s 11 k_2)))) (some (.int (Int32.ofInt 1))) (by omega) (by omega)
                · skip
                  refine zW.run 1 (pc' := 87) (ls' := [some (.ref 7), some (.int (Int32.ofInt (k_2 : Int))), some (.int (Int32.ofInt (s 11 k_2))), some (.int (Int32.ofInt 1))]) (st' := [.int (Int32.ofInt 0)]) (σ' := (zN L X (zhi s) R G nc ns)) (fun n => rfl) ?_
                  exfalso
                  have q := hE.1 k_2 (by omega) (by omega)
                  omega
            · skip
              refine zW.run 2 (pc' := 60) (ls' := [some (.ref 7), some (.int (Int32.ofInt (k_2 : Int))), some (.int (Int32.ofInt (s 11 k_2))), some (.int (Int32.ofInt 1))]) (st' := [.int (Int32.ofInt 3), .int (Int32.ofInt (s 11 k_2))]) (σ' := (zN L X (zhi s) R G nc ns)) (fun n => rfl) ?_
              refine zW.jcmp_eq rfl (by omega) (fun c37 => ?_) (fun c37 => ?_)
              · skip
                refine zW.run 2 (pc' := 72) (ls' := [some (.ref 7), some (.int (Int32.ofInt (k_2 : Int))), some (.int (Int32.ofInt (s 11 k_2))), some (.int (Int32.ofInt 1))]) (st' := [.int (Int32.ofInt 1), .int (Int32.ofInt (s 11 k_2))]) (σ' := (zN L X (zhi s) R G nc ns)) (fun n => rfl) ?_
                refine zW.jcmp_ne rfl (by omega) (fun c38 => ?_) (fun c38 => ?_)
                · skip
                  refine zW.jinc (ls' := [some (.ref 7), some (.int (Int32.ofInt ((k_2 : Int) + 1))), some (.int (Int32.ofInt (s 11 k_2))), some (.int (Int32.ofInt 1))]) rfl (Nat.le_of_ble_eq_true rfl) rfl rfl ?_
                  refine zW.run 1 (pc' := 2) (ls' := [some (.ref 7), some (.int (Int32.ofInt ((k_2 : Int) + 1))), some (.int (Int32.ofInt (s 11 k_2))), some (.int (Int32.ofInt 1))]) (st' := []) (σ' := (zN L X (zhi s) R G nc ns)) (fun n => rfl) ?_
                  exact ih7 (k_2 + 1) (some (.int (Int32.ofInt (s 11 k_2)))) (some (.int (Int32.ofInt 1))) (by omega) (by omega)
                · skip
                  refine zW.run 1 (pc' := 76) (ls' := [some (.ref 7), some (.int (Int32.ofInt (k_2 : Int))), some (.int (Int32.ofInt (s 11 k_2))), some (.int (Int32.ofInt 1))]) (st' := [.ref 7]) (σ' := (zN L X (zhi s) R G nc ns)) (fun n => rfl) ?_
                  refine zW.getf (v := .ref 8) rfl rfl (zr_7_0 S) ?_
                  refine zW.run 1 (pc' := 80) (ls' := [some (.ref 7), some (.int (Int32.ofInt (k_2 : Int))), some (.int (Int32.ofInt (s 11 k_2))), some (.int (Int32.ofInt 1))]) (st' := [.int (Int32.ofInt (k_2 : Int)), .ref 8]) (σ' := (zN L X (zhi s) R G nc ns)) (fun n => rfl) ?_
                  refine zW.callV rfl (by decide) rfl rfl rfl rfl rfl (Nat.le_of_ble_eq_true rfl) ?_
                  refine t_Ground_firmOf_e S V (x := (k_2 : Int)) (by omega) (fun v_39 f40 => ?_)
                  show zW ro 141 83 [some (.ref 7), some (.int (Int32.ofInt (k_2 : Int))), some (.int (Int32.ofInt (s 11 k_2))), some (.int (Int32.ofInt 1))] [.int (Int32.ofInt v_39)] (zN L X (zhi s) R G nc ns) Q
                  simp only [Int.toNat_natCast] at f40
                  refine zW.jif_gt rfl (by omega) (fun c41 => ?_) (fun c41 => ?_)
                  · skip
                    refine zW.jinc (ls' := [some (.ref 7), some (.int (Int32.ofInt ((k_2 : Int) + 1))), some (.int (Int32.ofInt (s 11 k_2))), some (.int (Int32.ofInt 1))]) rfl (Nat.le_of_ble_eq_true rfl) rfl rfl ?_
                    refine zW.run 1 (pc' := 2) (ls' := [some (.ref 7), some (.int (Int32.ofInt ((k_2 : Int) + 1))), some (.int (Int32.ofInt (s 11 k_2))), some (.int (Int32.ofInt 1))]) (st' := []) (σ' := (zN L X (zhi s) R G nc ns)) (fun n => rfl) ?_
                    exact ih7 (k_2 + 1) (some (.int (Int32.ofInt (s 11 k_2)))) (some (.int (Int32.ofInt 1))) (by omega) (by omega)
                  · skip
                    refine zW.run 1 (pc' := 87) (ls' := [some (.ref 7), some (.int (Int32.ofInt (k_2 : Int))), some (.int (Int32.ofInt (s 11 k_2))), some (.int (Int32.ofInt 1))]) (st' := [.int (Int32.ofInt 0)]) (σ' := (zN L X (zhi s) R G nc ns)) (fun n => rfl) ?_
                    exfalso
                    have q := hE.1 k_2 (by omega) (by omega)
                    omega
              · skip
                refine zW.run 2 (pc' := 65) (ls' := [some (.ref 7), some (.int (Int32.ofInt (k_2 : Int))), some (.int (Int32.ofInt (s 11 k_2))), some (.int (Int32.ofInt 1))]) (st' := [.int (Int32.ofInt 4), .int (Int32.ofInt (s 11 k_2))]) (σ' := (zN L X (zhi s) R G nc ns)) (fun n => rfl) ?_
                refine zW.jcmp_eq rfl (by omega) (fun c42 => ?_) (fun c42 => ?_)
                · skip
                  refine zW.run 2 (pc' := 72) (ls' := [some (.ref 7), some (.int (Int32.ofInt (k_2 : Int))), some (.int (Int32.ofInt (s 11 k_2))), some (.int (Int32.ofInt 1))]) (st' := [.int (Int32.ofInt 1), .int (Int32.ofInt (s 11 k_2))]) (σ' := (zN L X (zhi s) R G nc ns)) (fun n => rfl) ?_
                  refine zW.jcmp_ne rfl (by omega) (fun c43 => ?_) (fun c43 => ?_)
                  · skip
                    refine zW.jinc (ls' := [some (.ref 7), some (.int (Int32.ofInt ((k_2 : Int) + 1))), some (.int (Int32.ofInt (s 11 k_2))), some (.int (Int32.ofInt 1))]) rfl (Nat.le_of_ble_eq_true rfl) rfl rfl ?_
                    refine zW.run 1 (pc' := 2) (ls' := [some (.ref 7), some (.int (Int32.ofInt ((k_2 : Int) + 1))), some (.int (Int32.ofInt (s 11 k_2))), some (.int (Int32.ofInt 1))]) (st' := []) (σ' := (zN L X (zhi s) R G nc ns)) (fun n => rfl) ?_
                    exact ih7 (k_2 + 1) (some (.int (Int32.ofInt (s 11 k_2)))) (some (.int (Int32.ofInt 1))) (by omega) (by omega)
                  · skip
                    refine zW.run 1 (pc' := 76) (ls' := [some (.ref 7), some (.int (Int32.ofInt (k_2 : Int))), some (.int (Int32.ofInt (s 11 k_2))), some (.int (Int32.ofInt 1))]) (st' := [.ref 7]) (σ' := (zN L X (zhi s) R G nc ns)) (fun n => rfl) ?_
                    refine zW.getf (v := .ref 8) rfl rfl (zr_7_0 S) ?_
                    refine zW.run 1 (pc' := 80) (ls' := [some (.ref 7), some (.int (Int32.ofInt (k_2 : Int))), some (.int (Int32.ofInt (s 11 k_2))), some (.int (Int32.ofInt 1))]) (st' := [.int (Int32.ofInt (k_2 : Int)), .ref 8]) (σ' := (zN L X (zhi s) R G nc ns)) (fun n => rfl) ?_
                    refine zW.callV rfl (by decide) rfl rfl rfl rfl rfl (Nat.le_of_ble_eq_true rfl) ?_
                    refine t_Ground_firmOf_e S V (x := (k_2 : Int)) (by omega) (fun v_44 f45 => ?_)
                    show zW ro 141 83 [some (.ref 7), some (.int (Int32.ofInt (k_2 : Int))), some (.int (Int32.ofInt (s 11 k_2))), some (.int (Int32.ofInt 1))] [.int (Int32.ofInt v_44)] (zN L X (zhi s) R G nc ns) Q
                    simp only [Int.toNat_natCast] at f45
                    refine zW.jif_gt rfl (by omega) (fun c46 => ?_) (fun c46 => ?_)
                    · skip
                      refine zW.jinc (ls' := [some (.ref 7), some (.int (Int32.ofInt ((k_2 : Int) + 1))), some (.int (Int32.ofInt (s 11 k_2))), some (.int (Int32.ofInt 1))]) rfl (Nat.le_of_ble_eq_true rfl) rfl rfl ?_
                      refine zW.run 1 (pc' := 2) (ls' := [some (.ref 7), some (.int (Int32.ofInt ((k_2 : Int) + 1))), some (.int (Int32.ofInt (s 11 k_2))), some (.int (Int32.ofInt 1))]) (st' := []) (σ' := (zN L X (zhi s) R G nc ns)) (fun n => rfl) ?_
                      exact ih7 (k_2 + 1) (some (.int (Int32.ofInt (s 11 k_2)))) (some (.int (Int32.ofInt 1))) (by omega) (by omega)
                    · skip
                      refine zW.run 1 (pc' := 87) (ls' := [some (.ref 7), some (.int (Int32.ofInt (k_2 : Int))), some (.int (Int32.ofInt (s 11 k_2))), some (.int (Int32.ofInt 1))]) (st' := [.int (Int32.ofInt 0)]) (σ' := (zN L X (zhi s) R G nc ns)) (fun n => rfl) ?_
                      exfalso
                      have q := hE.1 k_2 (by omega) (by omega)
                      omega
                · skip
                  refine zW.run 1 (pc' := 69) (ls' := [some (.ref 7), some (.int (Int32.ofInt (k_2 : Int))), some (.int (Int32.ofInt (s 11 k_2))), some (.int (Int32.ofInt 1))]) (st' := [.int (Int32.ofInt 0)]) (σ' := (zN L X (zhi s) R G nc ns)) (fun n => rfl) ?_
                  exfalso
                  have e1 := hE.2.1
                  have e2 := hE.2.2
                  rcases (show k_2 = 0 ∨ k_2 = (g 3).toNat by omega) with e | e <;> subst e <;> omega
  exact J6 _ 0 none none (by omega) (Nat.lt_succ_self _)
set_option maxHeartbeats 4000000 in
theorem t_Siege_isAllSound (S : zSR R) (V : zV g U F T B ph s)   (hQ0 : Q (.inl (some (.int (Int32.ofInt 1)))) (zN L X (zhi s) R G nc ns)) : zW ro 140 0 (zfst [.ref 7] 1) [] (zN L X (zhi s) R G nc ns) Q := by
  show zW ro 140 0 [some (.ref 7)] [] (zN L X (zhi s) R G nc ns) Q
  have f1 := zA_geo (zV_zA V)
  have hB0 := zV_B V
  refine zW.run 2 (pc' := 2) (ls' := [some (.ref 7)]) (st' := [.int (Int32.ofInt 0), .ref 7]) (σ' := (zN L X (zhi s) R G nc ns)) (fun n => rfl) ?_
  refine zW.callV rfl (by decide) rfl rfl rfl rfl rfl (Nat.le_of_ble_eq_true rfl) ?_
  refine t_Siege_isSideSound S V (x := 0) (by omega) ?_
  show zW ro 140 5 [some (.ref 7)] [.int (Int32.ofInt 1)] (zN L X (zhi s) R G nc ns) Q
  refine zW.run 3 (pc' := 10) (ls' := [some (.ref 7)]) (st' := [.int (Int32.ofInt 1), .ref 7]) (σ' := (zN L X (zhi s) R G nc ns)) (fun n => rfl) ?_
  refine zW.callV rfl (by decide) rfl rfl rfl rfl rfl (Nat.le_of_ble_eq_true rfl) ?_
  refine t_Siege_isSideSound S V (x := 1) (by omega) ?_
  show zW ro 140 13 [some (.ref 7)] [.int (Int32.ofInt 1)] (zN L X (zhi s) R G nc ns) Q
  refine zW.run 2 (pc' := 17) (ls' := [some (.ref 7)]) (st' := [.ref 7]) (σ' := (zN L X (zhi s) R G nc ns)) (fun n => rfl) ?_
  refine zW.callV rfl (by decide) rfl rfl rfl rfl rfl (Nat.le_of_ble_eq_true rfl) ?_
  refine t_Siege_areMenSound S V ?_
  show zW ro 140 20 [some (.ref 7)] [.int (Int32.ofInt 1)] (zN L X (zhi s) R G nc ns) Q
  refine zW.run 2 (pc' := 24) (ls' := [some (.ref 7)]) (st' := [.ref 7]) (σ' := (zN L X (zhi s) R G nc ns)) (fun n => rfl) ?_
  refine zW.callV rfl (by decide) rfl rfl rfl rfl rfl (Nat.le_of_ble_eq_true rfl) ?_
  refine t_Siege_isGroundSound S V ?_
  show zW ro 140 27 [some (.ref 7)] [.int (Int32.ofInt 1)] (zN L X (zhi s) R G nc ns) Q
  refine zW.run 3 (pc' := 35) (ls' := [some (.ref 7)]) (st' := [.int (Int32.ofInt 1)]) (σ' := (zN L X (zhi s) R G nc ns)) (fun n => rfl) ?_
  exact zW.jretb rfl rfl (by decide) hQ0
end ZB
