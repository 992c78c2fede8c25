/-! methods that change the siege (printed by program) -/
section ZB
variable {ro : Nat → Int32 → zS → Option (zO × zS)} {L : Nat} {X : zK} {s : zJ} {R : Nat → Nat → Option Nat} {G : Nat → Nat → Int64} {nc ns : Nat} {Q : zO → zS → Prop} {g : Nat → Int} {U F T B ph : Int}
theorem zpr {a b : Int} (h : 0 ≤ a ∧ a ≤ 4) (k : 0 ≤ b ∧ b ≤ 3) : 0 ≤ a * b ∧ a * b ≤ 100 := ⟨Int.mul_nonneg h.1 k.1, Int.le_trans (Int.mul_le_mul h.2 k.2 k.1 (by omega)) (by omega)⟩
set_option maxHeartbeats 4000000 in
theorem t_Company_restNow (S : zSR R) (V : zV g U F T B ph s) {i : Nat} (p0 : i < 12) (hQ0 : ∀ (s1 : zJ), zV g U F T B ph s1 → Q (.inl none) (zN L X (zhi s1) R G nc ns)) : zW ro 37 0 (zfst [.ref (42 + i)] 1) [] (zN L X (zhi s) R G nc ns) Q := by
  show zW ro 37 0 [some (.ref (42 + i))] [] (zN L X (zhi s) R G nc ns) Q
  have f1 := zA_geo (zV_zA V)
  have hB0 := zV_B V
  refine zW.run 2 (pc' := 2) (ls' := [some (.ref (42 + i))]) (st' := [.int (Int32.ofInt 0), .ref (42 + i)]) (σ' := (zN L X (zhi s) R G nc ns)) (fun n => rfl) ?_
  refine zW.jput rfl (zk_com (by omega)) rfl ?_
  refine zW.run 2 (pc' := 7) (ls' := [some (.ref (42 + i))]) (st' := [.int (Int32.ofInt (-1)), .ref (42 + i)]) (σ' := (zN L X (zhi (zup s (42 + i) 4 0)) R G nc ns)) (fun n => rfl) ?_
  refine zW.jput rfl (zk_com (by omega)) rfl ?_
  have V2 : zV g U F T B ph (zup (zup s (42 + i) 4 0) (42 + i) 5 (-1)) := (V_goal V (by omega) (by omega) (by omega) (by omega) (by omega))
  generalize hs3 : (zup (zup s (42 + i) 4 0) (42 + i) 5 (-1)) = s3 at V2 ⊢
  exact zW.vret rfl (hQ0 s3 V2)
set_option maxHeartbeats 4000000 in
theorem t_Side_changeMorale (S : zSR R) (V : zV g U F T B ph s) {o : Nat} {x : Int} (p0 : o = 21 ∨ o = 22) (p1 : -1000 ≤ x ∧ x ≤ 1000) (hQ0 : ∀ (s1 : zJ), zV g U F T B ph s1 → Q (.inl none) (zN L X (zhi s1) R G nc ns)) : zW ro 122 0 (zfst [.ref o, .int (Int32.ofInt x)] 3) [] (zN L X (zhi s) R G nc ns) Q := by
  show zW ro 122 0 [some (.ref o), some (.int (Int32.ofInt x)), none] [] (zN L X (zhi s) R G nc ns) Q
  have f1 := zA_geo (zV_zA V)
  have hB0 := zV_B V
  refine zW.run 1 (pc' := 1) (ls' := [some (.ref o), some (.int (Int32.ofInt x)), none]) (st' := [.ref o]) (σ' := (zN L X (zhi s) R G nc ns)) (fun n => rfl) ?_
  have f2 := zV_sid V (o := o) (by omega)
  refine zW.jget (v := (s o 3)) rfl (zk_sid (by omega)) (fun _ _ _ => rfl) rfl ?_
  refine zW.run 1 (pc' := 5) (ls' := [some (.ref o), some (.int (Int32.ofInt x)), none]) (st' := [.int (Int32.ofInt x), .int (Int32.ofInt (s o 3))]) (σ' := (zN L X (zhi s) R G nc ns)) (fun n => rfl) ?_
  refine zW.jadd rfl ?_
  refine zW.run 3 (pc' := 9) (ls' := [some (.ref o), some (.int (Int32.ofInt x)), some (.int (Int32.ofInt ((s o 3) + x)))]) (st' := [.int (Int32.ofInt ((s o 3) + x)), .ref o]) (σ' := (zN L X (zhi s) R G nc ns)) (fun n => rfl) ?_
  have J4 : ∀ (v3 : Int), (((s o 3) + x) ≥ 0 ∧ ((s o 3) + x) ≤ 100 ∧ v3 = ((s o 3) + x)) ∨ (((s o 3) + x) ≥ 0 ∧ ((s o 3) + x) > 100 ∧ v3 = 100) ∨ (((s o 3) + x) < 0 ∧ v3 = 0) → zW ro 122 28 [some (.ref o), some (.int (Int32.ofInt x)), some (.int (Int32.ofInt ((s o 3) + x)))] [.int (Int32.ofInt v3), .ref o] (zN L X (zhi s) R G nc ns) Q := by
    intro v3 c5
    refine zW.jput rfl (zk_sid (by omega)) rfl ?_
    have V6 : zV g U F T B ph (zup s o 3 v3) := (V_mor V (by omega) (by omega))
    generalize hs7 : (zup s o 3 v3) = s7 at V6 ⊢
    exact zW.vret rfl (hQ0 s7 V6)
  refine zW.jif_ge rfl (by omega) (fun c8 => ?_) (fun c8 => ?_)
  · skip
    refine zW.run 2 (pc' := 19) (ls' := [some (.ref o), some (.int (Int32.ofInt x)), some (.int (Int32.ofInt ((s o 3) + x)))]) (st' := [.int (Int32.ofInt 100), .int (Int32.ofInt ((s o 3) + x)), .ref o]) (σ' := (zN L X (zhi s) R G nc ns)) (fun n => rfl) ?_
    refine zW.jcmp_le rfl (by omega) (fun c9 => ?_) (fun c9 => ?_)
    · skip
      refine zW.run 1 (pc' := 28) (ls' := [some (.ref o), some (.int (Int32.ofInt x)), some (.int (Int32.ofInt ((s o 3) + x)))]) (st' := [.int (Int32.ofInt ((s o 3) + x)), .ref o]) (σ' := (zN L X (zhi s) R G nc ns)) (fun n => rfl) ?_
      exact J4 ((s o 3) + x) (by omega)
    · skip
      refine zW.run 2 (pc' := 28) (ls' := [some (.ref o), some (.int (Int32.ofInt x)), some (.int (Int32.ofInt ((s o 3) + x)))]) (st' := [.int (Int32.ofInt 100), .ref o]) (σ' := (zN L X (zhi s) R G nc ns)) (fun n => rfl) ?_
      exact J4 100 (by omega)
  · skip
    refine zW.run 2 (pc' := 28) (ls' := [some (.ref o), some (.int (Int32.ofInt x)), some (.int (Int32.ofInt ((s o 3) + x)))]) (st' := [.int (Int32.ofInt 0), .ref o]) (σ' := (zN L X (zhi s) R G nc ns)) (fun n => rfl) ?_
    exact J4 0 (by omega)
set_option maxHeartbeats 4000000 in
theorem t_Side_spend (S : zSR R) (V : zV g U F T B ph s) {o : Nat} {x : Int} (p0 : o = 21 ∨ o = 22) (p1 : 0 ≤ x ∧ x ≤ s o 0) (hQ0 : ∀ (s1 : zJ), zV g U F T B ph s1 → Q (.inl none) (zN L X (zhi s1) R G nc ns)) : zW ro 123 0 (zfst [.ref o, .int (Int32.ofInt x)] 2) [] (zN L X (zhi s) R G nc ns) Q := by
  show zW ro 123 0 [some (.ref o), some (.int (Int32.ofInt x))] [] (zN L X (zhi s) R G nc ns) Q
  have f1 := zA_geo (zV_zA V)
  have hB0 := zV_B V
  refine zW.run 2 (pc' := 2) (ls' := [some (.ref o), some (.int (Int32.ofInt x))]) (st' := [.ref o, .ref o]) (σ' := (zN L X (zhi s) R G nc ns)) (fun n => rfl) ?_
  have f2 := zV_sid V (o := o) (by omega)
  refine zW.jget (v := (s o 0)) rfl (zk_sid (by omega)) (fun _ _ _ => rfl) rfl ?_
  refine zW.run 1 (pc' := 6) (ls' := [some (.ref o), some (.int (Int32.ofInt x))]) (st' := [.int (Int32.ofInt x), .int (Int32.ofInt (s o 0)), .ref o]) (σ' := (zN L X (zhi s) R G nc ns)) (fun n => rfl) ?_
  refine zW.jsub rfl ?_
  refine zW.jput rfl (zk_sid (by omega)) rfl ?_
  refine zW.run 2 (pc' := 12) (ls' := [some (.ref o), some (.int (Int32.ofInt x))]) (st' := [.ref o, .ref o]) (σ' := (zN L X (zhi (zup s o 0 ((s o 0) - x))) R G nc ns)) (fun n => rfl) ?_
  refine zW.jget (v := (s o 6)) rfl (zk_sid (by omega)) (fun _ _ _ => rfl) (zup_nj (by omega)) ?_
  refine zW.run 1 (pc' := 16) (ls' := [some (.ref o), some (.int (Int32.ofInt x))]) (st' := [.int (Int32.ofInt x), .int (Int32.ofInt (s o 6)), .ref o]) (σ' := (zN L X (zhi (zup s o 0 ((s o 0) - x))) R G nc ns)) (fun n => rfl) ?_
  refine zW.jadd rfl ?_
  refine zW.jput rfl (zk_sid (by omega)) rfl ?_
  have V3 : zV g U F T B ph (zup (zup s o 0 ((s o 0) - x)) o 6 ((s o 6) + x)) := (V_spend V (by omega) (by omega))
  generalize hs4 : (zup (zup s o 0 ((s o 0) - x)) o 6 ((s o 6) + x)) = s4 at V3 ⊢
  exact zW.vret rfl (hQ0 s4 V3)
set_option maxHeartbeats 4000000 in
theorem t_Siege_takeMen (S : zSR R) (V : zV g U F T B ph s) {i : Nat} {x : Int} (p0 : i < 12) (p1 : 0 ≤ x ∧ x ≤ 1000000) (hQ0 : ∀ (v : Int) (s1 : zJ), zV g U F T B ph s1 → 0 ≤ v ∧ v ≤ 200 → Q (.inl (some (.int (Int32.ofInt v)))) (zN L X (zhi s1) R G nc ns)) : zW ro 158 0 (zfst [.ref 7, .ref (42 + i), .int (Int32.ofInt x)] 4) [] (zN L X (zhi s) R G nc ns) Q := by
  show zW ro 158 0 [some (.ref 7), some (.ref (42 + i)), some (.int (Int32.ofInt x)), none] [] (zN L X (zhi s) R G nc ns) Q
  have f1 := zA_geo (zV_zA V)
  have hB0 := zV_B V
  refine zW.run 2 (pc' := 2) (ls' := [some (.ref 7), some (.ref (42 + i)), some (.int (Int32.ofInt x)), none]) (st' := [.ref (42 + i), .int (Int32.ofInt x)]) (σ' := (zN L X (zhi s) R G nc ns)) (fun n => rfl) ?_
  have f2 := zV_com V (i := i) (by omega)
  refine zW.jget (v := (s (42 + i) 2)) rfl (zk_com (by omega)) (fun _ _ _ => rfl) rfl ?_
  have J4 : ∀ (v3 : Int), (x ≥ (s (42 + i) 2) ∧ v3 = (s (42 + i) 2)) ∨ (x < (s (42 + i) 2) ∧ v3 = x) → zW ro 158 16 [some (.ref 7), some (.ref (42 + i)), some (.int (Int32.ofInt x)), none] [.int (Int32.ofInt v3)] (zN L X (zhi s) R G nc ns) Q := by
    intro v3 c5
    refine zW.run 3 (pc' := 19) (ls' := [some (.ref 7), some (.ref (42 + i)), some (.int (Int32.ofInt x)), some (.int (Int32.ofInt v3))]) (st' := [.ref (42 + i), .ref (42 + i)]) (σ' := (zN L X (zhi s) R G nc ns)) (fun n => rfl) ?_
    refine zW.jget (v := (s (42 + i) 2)) rfl (zk_com (by omega)) (fun _ _ _ => rfl) rfl ?_
    refine zW.run 1 (pc' := 23) (ls' := [some (.ref 7), some (.ref (42 + i)), some (.int (Int32.ofInt x)), some (.int (Int32.ofInt v3))]) (st' := [.int (Int32.ofInt v3), .int (Int32.ofInt (s (42 + i) 2)), .ref (42 + i)]) (σ' := (zN L X (zhi s) R G nc ns)) (fun n => rfl) ?_
    refine zW.jsub rfl ?_
    refine zW.jput rfl (zk_com (by omega)) rfl ?_
    refine zW.run 2 (pc' := 29) (ls' := [some (.ref 7), some (.ref (42 + i)), some (.int (Int32.ofInt x)), some (.int (Int32.ofInt v3))]) (st' := [.ref (42 + i), .ref 7]) (σ' := (zN L X (zhi (zup s (42 + i) 2 ((s (42 + i) 2) - v3))) R G nc ns)) (fun n => rfl) ?_
    refine zW.jget (v := (s (42 + i) 0)) rfl (zk_com (by omega)) (fun _ _ _ => rfl) (zup_nj (by omega)) ?_
    refine zW.callV rfl (by decide) rfl rfl rfl rfl rfl (Nat.le_of_ble_eq_true rfl) ?_
    refine t_Siege_of S (x := (s (42 + i) 0)) (by omega) (fun o_6 f7 => ?_)
    show zW ro 158 35 [some (.ref 7), some (.ref (42 + i)), some (.int (Int32.ofInt x)), some (.int (Int32.ofInt v3))] [.ref o_6] (zN L X (zhi (zup s (42 + i) 2 ((s (42 + i) 2) - v3))) R G nc ns) Q
    refine zW.run 1 (pc' := 36) (ls' := [some (.ref 7), some (.ref (42 + i)), some (.int (Int32.ofInt x)), some (.int (Int32.ofInt v3))]) (st' := [.ref o_6, .ref o_6]) (σ' := (zN L X (zhi (zup s (42 + i) 2 ((s (42 + i) 2) - v3))) R G nc ns)) (fun n => rfl) ?_
    refine zW.jget (v := (s o_6 7)) rfl (zk_sid (by omega)) (fun _ _ _ => rfl) (zup_nj (by omega)) ?_
    refine zW.run 1 (pc' := 40) (ls' := [some (.ref 7), some (.ref (42 + i)), some (.int (Int32.ofInt x)), some (.int (Int32.ofInt v3))]) (st' := [.int (Int32.ofInt v3), .int (Int32.ofInt (s o_6 7)), .ref o_6]) (σ' := (zN L X (zhi (zup s (42 + i) 2 ((s (42 + i) 2) - v3))) R G nc ns)) (fun n => rfl) ?_
    refine zW.jadd rfl ?_
    refine zW.jput rfl (zk_sid (by omega)) rfl ?_
    refine zW.run 1 (pc' := 45) (ls' := [some (.ref 7), some (.ref (42 + i)), some (.int (Int32.ofInt x)), some (.int (Int32.ofInt v3))]) (st' := [.int (Int32.ofInt v3)]) (σ' := (zN L X (zhi (zup (zup s (42 + i) 2 ((s (42 + i) 2) - v3)) o_6 7 ((s o_6 7) + v3))) R G nc ns)) (fun n => rfl) ?_
    have V8 : zV g U F T B ph (zup (zup s (42 + i) 2 ((s (42 + i) 2) - v3)) o_6 7 ((s o_6 7) + v3)) := (V_take V (by omega) (by omega) (by omega))
    generalize hs9 : (zup (zup s (42 + i) 2 ((s (42 + i) 2) - v3)) o_6 7 ((s o_6 7) + v3)) = s9 at V8 ⊢
    exact zW.jret rfl rfl (hQ0 v3 s9 V8 (by omega))
  refine zW.jcmp_ge rfl (by omega) (fun c10 => ?_) (fun c10 => ?_)
  · skip
    refine zW.run 1 (pc' := 13) (ls' := [some (.ref 7), some (.ref (42 + i)), some (.int (Int32.ofInt x)), none]) (st' := [.ref (42 + i)]) (σ' := (zN L X (zhi s) R G nc ns)) (fun n => rfl) ?_
    refine zW.jget (v := (s (42 + i) 2)) rfl (zk_com (by omega)) (fun _ _ _ => rfl) rfl ?_
    exact J4 (s (42 + i) 2) (by omega)
  · skip
    refine zW.run 2 (pc' := 16) (ls' := [some (.ref 7), some (.ref (42 + i)), some (.int (Int32.ofInt x)), none]) (st' := [.int (Int32.ofInt x)]) (σ' := (zN L X (zhi s) R G nc ns)) (fun n => rfl) ?_
    exact J4 x (by omega)
set_option maxHeartbeats 4000000 in
theorem t_Siege_batter (S : zSR R) (V : zV g U F T B ph s) {x : Int} {d : Int} (p0 : -2147483648 ≤ x ∧ x < 2147483648) (p1 : 0 ≤ d ∧ d ≤ 100) (p2 : B + 1 ≤ 1000000000) (hQ0 : ∀ (s1 : zJ), zV g U F T (B + 1) ph s1 → Q (.inl none) (zN L X (zhi s1) R G nc ns)) : zW ro 128 0 (zfst [.ref 7, .int (Int32.ofInt x), .int (Int32.ofInt d)] 3) [] (zN L X (zhi s) R G nc ns) Q := by
  show zW ro 128 0 [some (.ref 7), some (.int (Int32.ofInt x)), some (.int (Int32.ofInt d))] [] (zN L X (zhi s) R G nc ns) Q
  have f1 := zA_geo (zV_zA V)
  have hB0 := zV_B V
  refine zW.run 1 (pc' := 1) (ls' := [some (.ref 7), some (.int (Int32.ofInt x)), some (.int (Int32.ofInt d))]) (st' := [.ref 7]) (σ' := (zN L X (zhi s) R G nc ns)) (fun n => rfl) ?_
  refine zW.getf (v := .ref 8) rfl rfl (zr_7_0 S) ?_
  refine zW.run 1 (pc' := 5) (ls' := [some (.ref 7), some (.int (Int32.ofInt x)), some (.int (Int32.ofInt d))]) (st' := [.int (Int32.ofInt x), .ref 8]) (σ' := (zN L X (zhi s) R G nc ns)) (fun n => rfl) ?_
  refine zW.callV rfl (by decide) rfl rfl rfl rfl rfl (Nat.le_of_ble_eq_true rfl) ?_
  refine t_Ground_isOn S (zV_zA V) (x := x) (by omega) (fun f2 f3 => ?_) (fun f4 => ?_)
  · skip
    show zW ro 128 8 [some (.ref 7), some (.int (Int32.ofInt x)), some (.int (Int32.ofInt d))] [.int (Int32.ofInt 1)] (zN L X (zhi s) R G nc ns) Q
    refine zW.run 2 (pc' := 12) (ls' := [some (.ref 7), some (.int (Int32.ofInt x)), some (.int (Int32.ofInt d))]) (st' := [.ref 7]) (σ' := (zN L X (zhi s) R G nc ns)) (fun n => rfl) ?_
    refine zW.getf (v := .ref 8) rfl rfl (zr_7_0 S) ?_
    refine zW.getf (v := .ref 11) rfl rfl (zr_8 S (f := 2) (by decide)) ?_
    refine zW.run 1 (pc' := 19) (ls' := [some (.ref 7), some (.int (Int32.ofInt x)), some (.int (Int32.ofInt d))]) (st' := [.int (Int32.ofInt x), .ref 11]) (σ' := (zN L X (zhi s) R G nc ns)) (fun n => rfl) ?_
    refine zW.jald (n := 144) (v := (s 11 x.toNat)) rfl rfl (by decide) (by omega) rfl ?_
    have f5 := zV_sq V (k := x.toNat) (by omega)
    refine zW.run 1 (pc' := 21) (ls' := [some (.ref 7), some (.int (Int32.ofInt x)), some (.int (Int32.ofInt d))]) (st' := [.int (Int32.ofInt 1), .int (Int32.ofInt (s 11 x.toNat))]) (σ' := (zN L X (zhi s) R G nc ns)) (fun n => rfl) ?_
    refine zW.jcmp_eq rfl (by omega) (fun c6 => ?_) (fun c6 => ?_)
    · skip
      refine zW.run 1 (pc' := 26) (ls' := [some (.ref 7), some (.int (Int32.ofInt x)), some (.int (Int32.ofInt d))]) (st' := [.ref 7]) (σ' := (zN L X (zhi s) R G nc ns)) (fun n => rfl) ?_
      refine zW.getf (v := .ref 8) rfl rfl (zr_7_0 S) ?_
      refine zW.getf (v := .ref 12) rfl rfl (zr_8 S (f := 3) (by decide)) ?_
      refine zW.run 2 (pc' := 34) (ls' := [some (.ref 7), some (.int (Int32.ofInt x)), some (.int (Int32.ofInt d))]) (st' := [.int (Int32.ofInt x), .ref 12, .int (Int32.ofInt x), .ref 12]) (σ' := (zN L X (zhi s) R G nc ns)) (fun n => rfl) ?_
      refine zW.jald (n := 144) (v := (s 12 x.toNat)) rfl rfl (by decide) (by omega) rfl ?_
      refine zW.run 1 (pc' := 36) (ls' := [some (.ref 7), some (.int (Int32.ofInt x)), some (.int (Int32.ofInt d))]) (st' := [.int (Int32.ofInt d), .int (Int32.ofInt (s 12 x.toNat)), .int (Int32.ofInt x), .ref 12]) (σ' := (zN L X (zhi s) R G nc ns)) (fun n => rfl) ?_
      refine zW.jsub rfl ?_
      refine zW.jast (n := 144) rfl rfl (by decide) (by omega) ?_
      refine zW.run 1 (pc' := 39) (ls' := [some (.ref 7), some (.int (Int32.ofInt x)), some (.int (Int32.ofInt d))]) (st' := [.ref 7]) (σ' := (zN L X (zhi (zup s 12 x.toNat ((s 12 x.toNat) - d))) R G nc ns)) (fun n => rfl) ?_
      refine zW.getf (v := .ref 8) rfl rfl (zr_7_0 S) ?_
      refine zW.getf (v := .ref 12) rfl rfl (zr_8 S (f := 3) (by decide)) ?_
      refine zW.run 1 (pc' := 46) (ls' := [some (.ref 7), some (.int (Int32.ofInt x)), some (.int (Int32.ofInt d))]) (st' := [.int (Int32.ofInt x), .ref 12]) (σ' := (zN L X (zhi (zup s 12 x.toNat ((s 12 x.toNat) - d))) R G nc ns)) (fun n => rfl) ?_
      refine zW.jald (n := 144) (v := ((s 12 x.toNat) - d)) rfl rfl (by decide) (by omega) zup_ej ?_
      refine zW.jif_le rfl (by omega) (fun c7 => ?_) (fun c7 => ?_)
      · skip
        refine zW.run 1 (pc' := 52) (ls' := [some (.ref 7), some (.int (Int32.ofInt x)), some (.int (Int32.ofInt d))]) (st' := [.ref 7]) (σ' := (zN L X (zhi (zup s 12 x.toNat ((s 12 x.toNat) - d))) R G nc ns)) (fun n => rfl) ?_
        refine zW.getf (v := .ref 8) rfl rfl (zr_7_0 S) ?_
        refine zW.getf (v := .ref 11) rfl rfl (zr_8 S (f := 2) (by decide)) ?_
        refine zW.run 2 (pc' := 61) (ls' := [some (.ref 7), some (.int (Int32.ofInt x)), some (.int (Int32.ofInt d))]) (st' := [.int (Int32.ofInt 6), .int (Int32.ofInt x), .ref 11]) (σ' := (zN L X (zhi (zup s 12 x.toNat ((s 12 x.toNat) - d))) R G nc ns)) (fun n => rfl) ?_
        refine zW.jast (n := 144) rfl rfl (by decide) (by omega) ?_
        refine zW.run 1 (pc' := 63) (ls' := [some (.ref 7), some (.int (Int32.ofInt x)), some (.int (Int32.ofInt d))]) (st' := [.ref 7]) (σ' := (zN L X (zhi (zup (zup s 12 x.toNat ((s 12 x.toNat) - d)) 11 x.toNat 6)) R G nc ns)) (fun n => rfl) ?_
        refine zW.getf (v := .ref 8) rfl rfl (zr_7_0 S) ?_
        refine zW.getf (v := .ref 12) rfl rfl (zr_8 S (f := 3) (by decide)) ?_
        refine zW.run 2 (pc' := 71) (ls' := [some (.ref 7), some (.int (Int32.ofInt x)), some (.int (Int32.ofInt d))]) (st' := [.int (Int32.ofInt 0), .int (Int32.ofInt x), .ref 12]) (σ' := (zN L X (zhi (zup (zup s 12 x.toNat ((s 12 x.toNat) - d)) 11 x.toNat 6)) R G nc ns)) (fun n => rfl) ?_
        refine zW.jast (n := 144) rfl rfl (by decide) (by omega) ?_
        refine zW.run 1 (pc' := 73) (ls' := [some (.ref 7), some (.int (Int32.ofInt x)), some (.int (Int32.ofInt d))]) (st' := [.ref 7]) (σ' := (zN L X (zhi (zup (zup (zup s 12 x.toNat ((s 12 x.toNat) - d)) 11 x.toNat 6) 12 x.toNat 0)) R G nc ns)) (fun n => rfl) ?_
        refine zW.getf (v := .ref 8) rfl rfl (zr_7_0 S) ?_
        refine zW.getf (v := .ref 9) rfl rfl (zr_8 S (f := 0) (by decide)) ?_
        refine zW.run 1 (pc' := 80) (ls' := [some (.ref 7), some (.int (Int32.ofInt x)), some (.int (Int32.ofInt d))]) (st' := [.int (Int32.ofInt x), .ref 9]) (σ' := (zN L X (zhi (zup (zup (zup s 12 x.toNat ((s 12 x.toNat) - d)) 11 x.toNat 6) 12 x.toNat 0)) R G nc ns)) (fun n => rfl) ?_
        refine zW.jald (n := 144) (v := (s 9 x.toNat)) rfl rfl (by decide) (by omega) ((zup_nj (by omega)).trans ((zup_nj (by omega)).trans (zup_nj (by omega)))) ?_
        refine zW.jif_le rfl (by omega) (fun c8 => ?_) (fun c8 => ?_)
        · skip
          refine zW.run 2 (pc' := 99) (ls' := [some (.ref 7), some (.int (Int32.ofInt x)), some (.int (Int32.ofInt d))]) (st' := [.ref 7, .ref 7]) (σ' := (zN L X (zhi (zup (zup (zup s 12 x.toNat ((s 12 x.toNat) - d)) 11 x.toNat 6) 12 x.toNat 0)) R G nc ns)) (fun n => rfl) ?_
          have f9 := zV_sie V
          refine zW.jget (v := (s 7 13)) rfl rfl (fun _ _ _ => rfl) ((zup_nj (by omega)).trans ((zup_nj (by omega)).trans (zup_nj (by omega)))) ?_
          refine zW.run 1 (pc' := 103) (ls' := [some (.ref 7), some (.int (Int32.ofInt x)), some (.int (Int32.ofInt d))]) (st' := [.int (Int32.ofInt 1), .int (Int32.ofInt (s 7 13)), .ref 7]) (σ' := (zN L X (zhi (zup (zup (zup s 12 x.toNat ((s 12 x.toNat) - d)) 11 x.toNat 6) 12 x.toNat 0)) R G nc ns)) (fun n => rfl) ?_
          refine zW.jadd rfl ?_
          refine zW.jput rfl rfl rfl ?_
          refine zW.run 1 (pc' := 108) (ls' := [some (.ref 7), some (.int (Int32.ofInt x)), some (.int (Int32.ofInt d))]) (st' := [.ref 7]) (σ' := (zN L X (zhi (zup (zup (zup (zup s 12 x.toNat ((s 12 x.toNat) - d)) 11 x.toNat 6) 12 x.toNat 0) 7 13 ((s 7 13) + 1))) R G nc ns)) (fun n => rfl) ?_
          refine zW.getf (v := .ref 22) rfl rfl (zr_7_5 S) ?_
          refine zW.run 1 (pc' := 113) (ls' := [some (.ref 7), some (.int (Int32.ofInt x)), some (.int (Int32.ofInt d))]) (st' := [.int (Int32.ofInt (-8)), .ref 22]) (σ' := (zN L X (zhi (zup (zup (zup (zup s 12 x.toNat ((s 12 x.toNat) - d)) 11 x.toNat 6) 12 x.toNat 0) 7 13 ((s 7 13) + 1))) R G nc ns)) (fun n => rfl) ?_
          have V10 : zV g U F T (B + 1) ph (zup (zup (zup (zup s 12 x.toNat ((s 12 x.toNat) - d)) 11 x.toNat 6) 12 x.toNat 0) 7 13 ((s 7 13) + 1)) := (V_brea (zV_mono V (B2 := B + 1) (by omega) (by omega)) (by omega) (by omega) (by omega))
          generalize hs11 : (zup (zup (zup (zup s 12 x.toNat ((s 12 x.toNat) - d)) 11 x.toNat 6) 12 x.toNat 0) 7 13 ((s 7 13) + 1)) = s11 at V10 ⊢
          refine zW.callV rfl (by decide) rfl rfl rfl rfl rfl (Nat.le_of_ble_eq_true rfl) ?_
          refine t_Side_changeMorale S V10 (o := 22) (x := (-8)) (by omega) (by omega) (fun s12 V13 => ?_)
          show zW ro 128 116 [some (.ref 7), some (.int (Int32.ofInt x)), some (.int (Int32.ofInt d))] [] (zN L X (zhi s12) R G nc ns) Q
          exact zW.vret rfl (hQ0 s12 (zV_mono V13 (by omega) (by omega)))
        · skip
          refine zW.run 1 (pc' := 85) (ls' := [some (.ref 7), some (.int (Int32.ofInt x)), some (.int (Int32.ofInt d))]) (st' := [.ref 7]) (σ' := (zN L X (zhi (zup (zup (zup s 12 x.toNat ((s 12 x.toNat) - d)) 11 x.toNat 6) 12 x.toNat 0)) R G nc ns)) (fun n => rfl) ?_
          refine zW.getf (v := .ref 8) rfl rfl (zr_7_0 S) ?_
          refine zW.getf (v := .ref 9) rfl rfl (zr_8 S (f := 0) (by decide)) ?_
          refine zW.run 2 (pc' := 93) (ls' := [some (.ref 7), some (.int (Int32.ofInt x)), some (.int (Int32.ofInt d))]) (st' := [.int (Int32.ofInt x), .ref 9, .int (Int32.ofInt x), .ref 9]) (σ' := (zN L X (zhi (zup (zup (zup s 12 x.toNat ((s 12 x.toNat) - d)) 11 x.toNat 6) 12 x.toNat 0)) R G nc ns)) (fun n => rfl) ?_
          refine zW.jald (n := 144) (v := (s 9 x.toNat)) rfl rfl (by decide) (by omega) ((zup_nj (by omega)).trans ((zup_nj (by omega)).trans (zup_nj (by omega)))) ?_
          refine zW.run 1 (pc' := 95) (ls' := [some (.ref 7), some (.int (Int32.ofInt x)), some (.int (Int32.ofInt d))]) (st' := [.int (Int32.ofInt 1), .int (Int32.ofInt (s 9 x.toNat)), .int (Int32.ofInt x), .ref 9]) (σ' := (zN L X (zhi (zup (zup (zup s 12 x.toNat ((s 12 x.toNat) - d)) 11 x.toNat 6) 12 x.toNat 0)) R G nc ns)) (fun n => rfl) ?_
          refine zW.jsub rfl ?_
          refine zW.jast (n := 144) rfl rfl (by decide) (by omega) ?_
          refine zW.run 2 (pc' := 99) (ls' := [some (.ref 7), some (.int (Int32.ofInt x)), some (.int (Int32.ofInt d))]) (st' := [.ref 7, .ref 7]) (σ' := (zN L X (zhi (zup (zup (zup (zup s 12 x.toNat ((s 12 x.toNat) - d)) 11 x.toNat 6) 12 x.toNat 0) 9 x.toNat ((s 9 x.toNat) - 1))) R G nc ns)) (fun n => rfl) ?_
          have f14 := zV_sie V
          refine zW.jget (v := (s 7 13)) rfl rfl (fun _ _ _ => rfl) ((zup_nj (by omega)).trans ((zup_nj (by omega)).trans ((zup_nj (by omega)).trans (zup_nj (by omega))))) ?_
          refine zW.run 1 (pc' := 103) (ls' := [some (.ref 7), some (.int (Int32.ofInt x)), some (.int (Int32.ofInt d))]) (st' := [.int (Int32.ofInt 1), .int (Int32.ofInt (s 7 13)), .ref 7]) (σ' := (zN L X (zhi (zup (zup (zup (zup s 12 x.toNat ((s 12 x.toNat) - d)) 11 x.toNat 6) 12 x.toNat 0) 9 x.toNat ((s 9 x.toNat) - 1))) R G nc ns)) (fun n => rfl) ?_
          refine zW.jadd rfl ?_
          refine zW.jput rfl rfl rfl ?_
          refine zW.run 1 (pc' := 108) (ls' := [some (.ref 7), some (.int (Int32.ofInt x)), some (.int (Int32.ofInt d))]) (st' := [.ref 7]) (σ' := (zN L X (zhi (zup (zup (zup (zup (zup s 12 x.toNat ((s 12 x.toNat) - d)) 11 x.toNat 6) 12 x.toNat 0) 9 x.toNat ((s 9 x.toNat) - 1)) 7 13 ((s 7 13) + 1))) R G nc ns)) (fun n => rfl) ?_
          refine zW.getf (v := .ref 22) rfl rfl (zr_7_5 S) ?_
          refine zW.run 1 (pc' := 113) (ls' := [some (.ref 7), some (.int (Int32.ofInt x)), some (.int (Int32.ofInt d))]) (st' := [.int (Int32.ofInt (-8)), .ref 22]) (σ' := (zN L X (zhi (zup (zup (zup (zup (zup s 12 x.toNat ((s 12 x.toNat) - d)) 11 x.toNat 6) 12 x.toNat 0) 9 x.toNat ((s 9 x.toNat) - 1)) 7 13 ((s 7 13) + 1))) R G nc ns)) (fun n => rfl) ?_
          have V15 : zV g U F T (B + 1) ph (zup (zup (zup (zup (zup s 12 x.toNat ((s 12 x.toNat) - d)) 11 x.toNat 6) 12 x.toNat 0) 9 x.toNat ((s 9 x.toNat) - 1)) 7 13 ((s 7 13) + 1)) := (V_breb (zV_mono V (B2 := B + 1) (by omega) (by omega)) (by omega) (by omega) (by omega) (by omega))
          generalize hs16 : (zup (zup (zup (zup (zup s 12 x.toNat ((s 12 x.toNat) - d)) 11 x.toNat 6) 12 x.toNat 0) 9 x.toNat ((s 9 x.toNat) - 1)) 7 13 ((s 7 13) + 1)) = s16 at V15 ⊢
          refine zW.callV rfl (by decide) rfl rfl rfl rfl rfl (Nat.le_of_ble_eq_true rfl) ?_
          refine t_Side_changeMorale S V15 (o := 22) (x := (-8)) (by omega) (by omega) (fun s17 V18 => ?_)
          show zW ro 128 116 [some (.ref 7), some (.int (Int32.ofInt x)), some (.int (Int32.ofInt d))] [] (zN L X (zhi s17) R G nc ns) Q
          exact zW.vret rfl (hQ0 s17 (zV_mono V18 (by omega) (by omega)))
      · skip
        have V19 : zV g U F T B ph (zup s 12 x.toNat ((s 12 x.toNat) - d)) := (V_firm V (by omega) (by omega) (by omega))
        generalize hs20 : (zup s 12 x.toNat ((s 12 x.toNat) - d)) = s20 at V19 ⊢
        exact zW.vret rfl (hQ0 s20 (zV_mono V19 (by omega) (by omega)))
    · skip
      exact zW.vret rfl (hQ0 s (zV_mono V (by omega) (by omega)))
  · skip
    show zW ro 128 8 [some (.ref 7), some (.int (Int32.ofInt x)), some (.int (Int32.ofInt d))] [.int (Int32.ofInt 0)] (zN L X (zhi s) R G nc ns) Q
    refine zW.run 1 (pc' := 24) (ls' := [some (.ref 7), some (.int (Int32.ofInt x)), some (.int (Int32.ofInt d))]) (st' := []) (σ' := (zN L X (zhi s) R G nc ns)) (fun n => rfl) ?_
    exact zW.vret rfl (hQ0 s (zV_mono V (by omega) (by omega)))
set_option maxHeartbeats 4000000 in
theorem t_Gunnery_fire (S : zSR R) (V : zV g U F T B ph s) {i : Nat} (p0 : i < 16) (hQ0 : ∀ (v : Int) (s1 : zJ), zV g U F T B ph s1 → 0 ≤ v ∧ v ≤ 4 → Q (.inl (some (.int (Int32.ofInt v)))) (zN L X (zhi s1) R G nc ns)) : zW ro 88 0 (zfst [.ref 7, .ref (26 + i)] 4) [] (zN L X (zhi s) R G nc ns) Q := by
  show zW ro 88 0 [some (.ref 7), some (.ref (26 + i)), none, none] [] (zN L X (zhi s) R G nc ns) Q
  have f1 := zA_geo (zV_zA V)
  have hB0 := zV_B V
  have f2 := zV_gun V (i := i) (by omega)
  refine zW.run 2 (pc' := 2) (ls' := [some (.ref 7), some (.ref (26 + i)), none, none]) (st' := [.ref (26 + i), .ref 7]) (σ' := (zN L X (zhi s) R G nc ns)) (fun n => rfl) ?_
  refine zW.callS rfl rfl rfl rfl rfl (Nat.le_of_ble_eq_true rfl) ?_
  refine t_Gunnery_shotsOf S V (i := i) (by omega) (fun v_3 f4 f5 f6 f7 => ?_)
  show zW ro 88 5 [some (.ref 7), some (.ref (26 + i)), none, none] [.int (Int32.ofInt v_3)] (zN L X (zhi s) R G nc ns) Q
  refine zW.run 3 (pc' := 8) (ls' := [some (.ref 7), some (.ref (26 + i)), some (.int (Int32.ofInt v_3)), none]) (st' := [.int (Int32.ofInt 1), .int (Int32.ofInt v_3)]) (σ' := (zN L X (zhi s) R G nc ns)) (fun n => rfl) ?_
  refine zW.jcmp_ge rfl (by omega) (fun c8 => ?_) (fun c8 => ?_)
  · skip
    refine zW.run 2 (pc' := 36) (ls' := [some (.ref 7), some (.ref (26 + i)), some (.int (Int32.ofInt v_3)), none]) (st' := [.ref (26 + i), .ref 7]) (σ' := (zN L X (zhi s) R G nc ns)) (fun n => rfl) ?_
    refine zW.jget (v := (s (26 + i) 0)) rfl (zk_gun (by omega)) (fun _ _ _ => rfl) rfl ?_
    refine zW.callV rfl (by decide) rfl rfl rfl rfl rfl (Nat.le_of_ble_eq_true rfl) ?_
    refine t_Siege_of S (x := (s (26 + i) 0)) (by omega) (fun o_9 f10 => ?_)
    show zW ro 88 42 [some (.ref 7), some (.ref (26 + i)), some (.int (Int32.ofInt v_3)), none] [.ref o_9] (zN L X (zhi s) R G nc ns) Q
    refine zW.run 4 (pc' := 46) (ls' := [some (.ref 7), some (.ref (26 + i)), some (.int (Int32.ofInt v_3)), some (.ref o_9)]) (st' := [.ref (26 + i), .int (Int32.ofInt v_3), .ref o_9]) (σ' := (zN L X (zhi s) R G nc ns)) (fun n => rfl) ?_
    refine zW.jget (v := (s (26 + i) 2)) rfl (zk_gun (by omega)) (fun _ _ _ => rfl) rfl ?_
    refine zW.jmul rfl ?_
    refine zW.callV rfl (by decide) rfl rfl rfl rfl (zk_sid (by omega)) (Nat.le_of_ble_eq_true rfl) ?_
    refine t_Side_spend S V (o := o_9) (x := (v_3 * (s (26 + i) 2))) (by omega) (by rcases (show (s (26 + i) 0 = 1 ∧ o_9 = 22) ∨ (¬ s (26 + i) 0 = 1 ∧ o_9 = 21) by omega) with ⟨h1, h2⟩ | ⟨h1, h2⟩ <;> subst h2 <;> exact ⟨Int.mul_nonneg (by omega) (by omega), by omega⟩) (fun s11 V12 => ?_)
    show zW ro 88 53 [some (.ref 7), some (.ref (26 + i)), some (.int (Int32.ofInt v_3)), some (.ref o_9)] [] (zN L X (zhi s11) R G nc ns) Q
    refine zW.run 2 (pc' := 55) (ls' := [some (.ref 7), some (.ref (26 + i)), some (.int (Int32.ofInt v_3)), some (.ref o_9)]) (st' := [.ref o_9, .ref o_9]) (σ' := (zN L X (zhi s11) R G nc ns)) (fun n => rfl) ?_
    refine zW.jget (v := (s11 o_9 5)) rfl (zk_sid (by omega)) (fun _ _ _ => rfl) rfl ?_
    refine zW.run 1 (pc' := 59) (ls' := [some (.ref 7), some (.ref (26 + i)), some (.int (Int32.ofInt v_3)), some (.ref o_9)]) (st' := [.int (Int32.ofInt v_3), .int (Int32.ofInt (s11 o_9 5)), .ref o_9]) (σ' := (zN L X (zhi s11) R G nc ns)) (fun n => rfl) ?_
    refine zW.jadd rfl ?_
    refine zW.jput rfl (zk_sid (by omega)) rfl ?_
    refine zW.run 2 (pc' := 65) (ls' := [some (.ref 7), some (.ref (26 + i)), some (.int (Int32.ofInt v_3)), some (.ref o_9)]) (st' := [.ref (26 + i), .ref (26 + i)]) (σ' := (zN L X (zhi (zup s11 o_9 5 ((s11 o_9 5) + v_3))) R G nc ns)) (fun n => rfl) ?_
    have f13 := zV_gun V12 (i := i) (by omega)
    refine zW.jget (v := (s11 (26 + i) 3)) rfl (zk_gun (by omega)) (fun _ _ _ => rfl) (zup_nj (by omega)) ?_
    refine zW.run 1 (pc' := 69) (ls' := [some (.ref 7), some (.ref (26 + i)), some (.int (Int32.ofInt v_3)), some (.ref o_9)]) (st' := [.int (Int32.ofInt 3), .int (Int32.ofInt (s11 (26 + i) 3)), .ref (26 + i)]) (σ' := (zN L X (zhi (zup s11 o_9 5 ((s11 o_9 5) + v_3))) R G nc ns)) (fun n => rfl) ?_
    have J15 : ∀ (v14 : Int), ((s11 (26 + i) 3) ≥ 3 ∧ v14 = 3) ∨ ((s11 (26 + i) 3) < 3 ∧ v14 = ((s11 (26 + i) 3) + 1)) → zW ro 88 82 [some (.ref 7), some (.ref (26 + i)), some (.int (Int32.ofInt v_3)), some (.ref o_9)] [.int (Int32.ofInt v14), .ref (26 + i)] (zN L X (zhi (zup s11 o_9 5 ((s11 o_9 5) + v_3))) R G nc ns) Q := by
      intro v14 c16
      refine zW.jput rfl (zk_gun (by omega)) rfl ?_
      refine zW.run 1 (pc' := 86) (ls' := [some (.ref 7), some (.ref (26 + i)), some (.int (Int32.ofInt v_3)), some (.ref o_9)]) (st' := [.int (Int32.ofInt v_3)]) (σ' := (zN L X (zhi (zup (zup s11 o_9 5 ((s11 o_9 5) + v_3)) (26 + i) 3 v14)) R G nc ns)) (fun n => rfl) ?_
      have V17 : zV g U F T B ph (zup (zup s11 o_9 5 ((s11 o_9 5) + v_3)) (26 + i) 3 v14) := (V_heat (V_irr V12 (by omega)) (by omega) (by omega))
      generalize hs18 : (zup (zup s11 o_9 5 ((s11 o_9 5) + v_3)) (26 + i) 3 v14) = s18 at V17 ⊢
      exact zW.jret rfl rfl (hQ0 v_3 s18 V17 (by omega))
    refine zW.jcmp_ge rfl (by omega) (fun c19 => ?_) (fun c19 => ?_)
    · skip
      refine zW.run 1 (pc' := 82) (ls' := [some (.ref 7), some (.ref (26 + i)), some (.int (Int32.ofInt v_3)), some (.ref o_9)]) (st' := [.int (Int32.ofInt 3), .ref (26 + i)]) (σ' := (zN L X (zhi (zup s11 o_9 5 ((s11 o_9 5) + v_3))) R G nc ns)) (fun n => rfl) ?_
      exact J15 3 (by omega)
    · skip
      refine zW.run 1 (pc' := 73) (ls' := [some (.ref 7), some (.ref (26 + i)), some (.int (Int32.ofInt v_3)), some (.ref o_9)]) (st' := [.ref (26 + i), .ref (26 + i)]) (σ' := (zN L X (zhi (zup s11 o_9 5 ((s11 o_9 5) + v_3))) R G nc ns)) (fun n => rfl) ?_
      refine zW.jget (v := (s11 (26 + i) 3)) rfl (zk_gun (by omega)) (fun _ _ _ => rfl) (zup_nj (by omega)) ?_
      refine zW.run 1 (pc' := 77) (ls' := [some (.ref 7), some (.ref (26 + i)), some (.int (Int32.ofInt v_3)), some (.ref o_9)]) (st' := [.int (Int32.ofInt 1), .int (Int32.ofInt (s11 (26 + i) 3)), .ref (26 + i)]) (σ' := (zN L X (zhi (zup s11 o_9 5 ((s11 o_9 5) + v_3))) R G nc ns)) (fun n => rfl) ?_
      refine zW.jadd rfl ?_
      refine zW.run 1 (pc' := 82) (ls' := [some (.ref 7), some (.ref (26 + i)), some (.int (Int32.ofInt v_3)), some (.ref o_9)]) (st' := [.int (Int32.ofInt ((s11 (26 + i) 3) + 1)), .ref (26 + i)]) (σ' := (zN L X (zhi (zup s11 o_9 5 ((s11 o_9 5) + v_3))) R G nc ns)) (fun n => rfl) ?_
      exact J15 ((s11 (26 + i) 3) + 1) (by omega)
  · skip
    refine zW.run 2 (pc' := 13) (ls' := [some (.ref 7), some (.ref (26 + i)), some (.int (Int32.ofInt v_3)), none]) (st' := [.ref (26 + i), .ref (26 + i)]) (σ' := (zN L X (zhi s) R G nc ns)) (fun n => rfl) ?_
    refine zW.jget (v := (s (26 + i) 3)) rfl (zk_gun (by omega)) (fun _ _ _ => rfl) rfl ?_
    have J21 : ∀ (v20 : Int), ((s (26 + i) 3) ≤ 0 ∧ v20 = 0) ∨ ((s (26 + i) 3) > 0 ∧ v20 = ((s (26 + i) 3) - 1)) → zW ro 88 29 [some (.ref 7), some (.ref (26 + i)), some (.int (Int32.ofInt v_3)), none] [.int (Int32.ofInt v20), .ref (26 + i)] (zN L X (zhi s) R G nc ns) Q := by
      intro v20 c22
      refine zW.jput rfl (zk_gun (by omega)) rfl ?_
      refine zW.run 1 (pc' := 33) (ls' := [some (.ref 7), some (.ref (26 + i)), some (.int (Int32.ofInt v_3)), none]) (st' := [.int (Int32.ofInt 0)]) (σ' := (zN L X (zhi (zup s (26 + i) 3 v20)) R G nc ns)) (fun n => rfl) ?_
      have V23 : zV g U F T B ph (zup s (26 + i) 3 v20) := (V_heat V (by omega) (by omega))
      generalize hs24 : (zup s (26 + i) 3 v20) = s24 at V23 ⊢
      exact zW.jret rfl rfl (hQ0 0 s24 V23 (by omega))
    refine zW.jif_le rfl (by omega) (fun c25 => ?_) (fun c25 => ?_)
    · skip
      refine zW.run 1 (pc' := 29) (ls' := [some (.ref 7), some (.ref (26 + i)), some (.int (Int32.ofInt v_3)), none]) (st' := [.int (Int32.ofInt 0), .ref (26 + i)]) (σ' := (zN L X (zhi s) R G nc ns)) (fun n => rfl) ?_
      exact J21 0 (by omega)
    · skip
      refine zW.run 1 (pc' := 20) (ls' := [some (.ref 7), some (.ref (26 + i)), some (.int (Int32.ofInt v_3)), none]) (st' := [.ref (26 + i), .ref (26 + i)]) (σ' := (zN L X (zhi s) R G nc ns)) (fun n => rfl) ?_
      refine zW.jget (v := (s (26 + i) 3)) rfl (zk_gun (by omega)) (fun _ _ _ => rfl) rfl ?_
      refine zW.run 1 (pc' := 24) (ls' := [some (.ref 7), some (.ref (26 + i)), some (.int (Int32.ofInt v_3)), none]) (st' := [.int (Int32.ofInt 1), .int (Int32.ofInt (s (26 + i) 3)), .ref (26 + i)]) (σ' := (zN L X (zhi s) R G nc ns)) (fun n => rfl) ?_
      refine zW.jsub rfl ?_
      refine zW.run 1 (pc' := 29) (ls' := [some (.ref 7), some (.ref (26 + i)), some (.int (Int32.ofInt v_3)), none]) (st' := [.int (Int32.ofInt ((s (26 + i) 3) - 1)), .ref (26 + i)]) (σ' := (zN L X (zhi s) R G nc ns)) (fun n => rfl) ?_
      exact J21 ((s (26 + i) 3) - 1) (by omega)
set_option maxHeartbeats 4000000 in
theorem t_Gunnery_strike (S : zSR R) (V : zV g U F T B ph s) {i : Nat} {x : Int} (p0 : i < 16) (p1 : 1 ≤ x ∧ x ≤ 4) (p2 : B + 65 ≤ 1000000000) (hQ0 : ∀ (s1 : zJ), zV g U F T (B + 65) ph s1 → Q (.inl none) (zN L X (zhi s1) R G nc ns)) : zW ro 93 0 (zfst [.ref 7, .ref (26 + i), .int (Int32.ofInt x)] 9) [] (zN L X (zhi s) R G nc ns) Q := by
  show zW ro 93 0 [some (.ref 7), some (.ref (26 + i)), some (.int (Int32.ofInt x)), none, none, none, none, none, none] [] (zN L X (zhi s) R G nc ns) Q
  have f1 := zA_geo (zV_zA V)
  have hB0 := zV_B V
  refine zW.run 2 (pc' := 2) (ls' := [some (.ref 7), some (.ref (26 + i)), some (.int (Int32.ofInt x)), none, none, none, none, none, none]) (st' := [.ref (26 + i), .int (Int32.ofInt 1)]) (σ' := (zN L X (zhi s) R G nc ns)) (fun n => rfl) ?_
  have f2 := zV_gun V (i := i) (by omega)
  refine zW.jget (v := (s (26 + i) 0)) rfl (zk_gun (by omega)) (fun _ _ _ => rfl) rfl ?_
  refine zW.jsub rfl ?_
  refine zW.run 3 (pc' := 9) (ls' := [some (.ref 7), some (.ref (26 + i)), some (.int (Int32.ofInt x)), some (.int (Int32.ofInt (1 - (s (26 + i) 0)))), none, none, none, none, none]) (st' := [.ref (26 + i), .ref 7]) (σ' := (zN L X (zhi s) R G nc ns)) (fun n => rfl) ?_
  refine zW.jget (v := (s (26 + i) 6)) rfl (zk_gun (by omega)) (fun _ _ _ => rfl) rfl ?_
  refine zW.run 2 (pc' := 14) (ls' := [some (.ref 7), some (.ref (26 + i)), some (.int (Int32.ofInt x)), some (.int (Int32.ofInt (1 - (s (26 + i) 0)))), none, none, none, none, none]) (st' := [.ref (26 + i), .int (Int32.ofInt x), .int (Int32.ofInt (s (26 + i) 6)), .ref 7]) (σ' := (zN L X (zhi s) R G nc ns)) (fun n => rfl) ?_
  refine zW.jget (v := (s (26 + i) 2)) rfl (zk_gun (by omega)) (fun _ _ _ => rfl) rfl ?_
  refine zW.jmul rfl ?_
  refine zW.callV rfl (by decide) rfl rfl rfl rfl rfl (Nat.le_of_ble_eq_true rfl) ?_
  refine t_Siege_batter S V (x := (s (26 + i) 6)) (d := (x * (s (26 + i) 2))) (by omega) (zpr (by omega) (by omega)) (by omega) (fun s3 V4 => ?_)
  show zW ro 93 21 [some (.ref 7), some (.ref (26 + i)), some (.int (Int32.ofInt x)), some (.int (Int32.ofInt (1 - (s (26 + i) 0)))), none, none, none, none, none] [] (zN L X (zhi s3) R G nc ns) Q
  refine zW.run 1 (pc' := 22) (ls' := [some (.ref 7), some (.ref (26 + i)), some (.int (Int32.ofInt x)), some (.int (Int32.ofInt (1 - (s (26 + i) 0)))), none, none, none, none, none]) (st' := [.ref 7]) (σ' := (zN L X (zhi s3) R G nc ns)) (fun n => rfl) ?_
  refine zW.getf (v := .ref 18) rfl rfl (zr_7_1 S) ?_
  refine zW.run 2 (pc' := 29) (ls' := [some (.ref 7), some (.ref (26 + i)), some (.int (Int32.ofInt x)), some (.int (Int32.ofInt (1 - (s (26 + i) 0)))), some (.ref 18), none, none, none, none]) (st' := [.ref 18]) (σ' := (zN L X (zhi s3) R G nc ns)) (fun n => rfl) ?_
  refine zW.alen rfl rfl (by decide) ?_
  show zW ro 93 30 [some (.ref 7), some (.ref (26 + i)), some (.int (Int32.ofInt x)), some (.int (Int32.ofInt (1 - (s (26 + i) 0)))), some (.ref 18), none, none, none, none] [.int (Int32.ofInt 16)] (zN L X (zhi s3) R G nc ns) Q
  refine zW.run 3 (pc' := 35) (ls' := [some (.ref 7), some (.ref (26 + i)), some (.int (Int32.ofInt x)), some (.int (Int32.ofInt (1 - (s (26 + i) 0)))), some (.ref 18), some (.int (Int32.ofInt 16)), some (.int (Int32.ofInt 0)), none, none]) (st' := []) (σ' := (zN L X (zhi s3) R G nc ns)) (fun n => rfl) ?_
  have J11 : ∀ m : Nat, ∀ (i_5 : Nat) (w6 : Option Value) (w7 : Option Value) (s8 : zJ), zV g U F T (B + 1 + 4 * i_5) ph s8 → i_5 ≤ 16 → 17 - i_5 < m → zW ro 93 35 [some (.ref 7), some (.ref (26 + i)), some (.int (Int32.ofInt x)), some (.int (Int32.ofInt (1 - (s (26 + i) 0)))), some (.ref 18), some (.int (Int32.ofInt 16)), some (.int (Int32.ofInt (i_5 : Int))), w6, w7] [] (zN L X (zhi s8) R G nc ns) Q := by
    intro m
    induction m with
    | zero => intros; omega
    | succ m ih12 =>
      intro i_5 w6 w7 s8 V9 c10 hm13
      refine zW.run 2 (pc' := 39) (ls' := [some (.ref 7), some (.ref (26 + i)), some (.int (Int32.ofInt x)), some (.int (Int32.ofInt (1 - (s (26 + i) 0)))), some (.ref 18), some (.int (Int32.ofInt 16)), some (.int (Int32.ofInt (i_5 : Int))), w6, w7]) (st' := [.int (Int32.ofInt 16), .int (Int32.ofInt (i_5 : Int))]) (σ' := (zN L X (zhi s8) R G nc ns)) (fun n => rfl) ?_
      refine zW.jcmp_ge rfl (by omega) (fun c14 => ?_) (fun c14 => ?_)
      · skip
        refine zW.run 3 (pc' := 114) (ls' := [some (.ref 7), some (.ref (26 + i)), some (.int (Int32.ofInt x)), some (.int (Int32.ofInt (1 - (s (26 + i) 0)))), some (.ref 18), some (.int (Int32.ofInt 16)), some (.int (Int32.ofInt (i_5 : Int))), w6, w7]) (st' := [.int (Int32.ofInt x), .ref (26 + i), .ref 7]) (σ' := (zN L X (zhi s8) R G nc ns)) (fun n => rfl) ?_
        refine zW.callS rfl rfl rfl rfl rfl (Nat.le_of_ble_eq_true rfl) ?_
        refine t_Gunnery_lossBy S V9 (i := i) (x := x) (by omega) (by omega) (fun v_15 f16 => ?_)
        show zW ro 93 117 [some (.ref 7), some (.ref (26 + i)), some (.int (Int32.ofInt x)), some (.int (Int32.ofInt (1 - (s (26 + i) 0)))), some (.ref 18), some (.int (Int32.ofInt 16)), some (.int (Int32.ofInt (i_5 : Int))), w6, w7] [.int (Int32.ofInt v_15)] (zN L X (zhi s8) R G nc ns) Q
        refine zW.run 2 (pc' := 120) (ls' := [some (.ref 7), some (.ref (26 + i)), some (.int (Int32.ofInt x)), some (.int (Int32.ofInt (1 - (s (26 + i) 0)))), some (.int (Int32.ofInt v_15)), some (.int (Int32.ofInt 16)), some (.int (Int32.ofInt (i_5 : Int))), w6, w7]) (st' := [.ref 7]) (σ' := (zN L X (zhi s8) R G nc ns)) (fun n => rfl) ?_
        refine zW.getf (v := .ref 19) rfl rfl (zr_7_2 S) ?_
        refine zW.run 2 (pc' := 127) (ls' := [some (.ref 7), some (.ref (26 + i)), some (.int (Int32.ofInt x)), some (.int (Int32.ofInt (1 - (s (26 + i) 0)))), some (.int (Int32.ofInt v_15)), some (.ref 19), some (.int (Int32.ofInt (i_5 : Int))), w6, w7]) (st' := [.ref 19]) (σ' := (zN L X (zhi s8) R G nc ns)) (fun n => rfl) ?_
        refine zW.alen rfl rfl (by decide) ?_
        show zW ro 93 128 [some (.ref 7), some (.ref (26 + i)), some (.int (Int32.ofInt x)), some (.int (Int32.ofInt (1 - (s (26 + i) 0)))), some (.int (Int32.ofInt v_15)), some (.ref 19), some (.int (Int32.ofInt (i_5 : Int))), w6, w7] [.int (Int32.ofInt 12)] (zN L X (zhi s8) R G nc ns) Q
        refine zW.run 3 (pc' := 133) (ls' := [some (.ref 7), some (.ref (26 + i)), some (.int (Int32.ofInt x)), some (.int (Int32.ofInt (1 - (s (26 + i) 0)))), some (.int (Int32.ofInt v_15)), some (.ref 19), some (.int (Int32.ofInt 12)), some (.int (Int32.ofInt 0)), w7]) (st' := []) (σ' := (zN L X (zhi s8) R G nc ns)) (fun n => rfl) ?_
        have J22 : ∀ m : Nat, ∀ (i_17 : Nat) (w18 : Option Value) (s19 : zJ), zV g U F T (B + 65) ph s19 → i_17 ≤ 12 → 13 - i_17 < m → zW ro 93 133 [some (.ref 7), some (.ref (26 + i)), some (.int (Int32.ofInt x)), some (.int (Int32.ofInt (1 - (s (26 + i) 0)))), some (.int (Int32.ofInt v_15)), some (.ref 19), some (.int (Int32.ofInt 12)), some (.int (Int32.ofInt (i_17 : Int))), w18] [] (zN L X (zhi s19) R G nc ns) Q := by
          intro m
          induction m with
          | zero => intros; omega
          | succ m ih23 =>
            intro i_17 w18 s19 V20 c21 hm24
            refine zW.run 2 (pc' := 137) (ls' := [some (.ref 7), some (.ref (26 + i)), some (.int (Int32.ofInt x)), some (.int (Int32.ofInt (1 - (s (26 + i) 0)))), some (.int (Int32.ofInt v_15)), some (.ref 19), some (.int (Int32.ofInt 12)), some (.int (Int32.ofInt (i_17 : Int))), w18]) (st' := [.int (Int32.ofInt 12), .int (Int32.ofInt (i_17 : Int))]) (σ' := (zN L X (zhi s19) R G nc ns)) (fun n => rfl) ?_
            refine zW.jcmp_ge rfl (by omega) (fun c25 => ?_) (fun c25 => ?_)
            · skip
              refine zW.run 1 (pc' := 176) (ls' := [some (.ref 7), some (.ref (26 + i)), some (.int (Int32.ofInt x)), some (.int (Int32.ofInt (1 - (s (26 + i) 0)))), some (.int (Int32.ofInt v_15)), some (.ref 19), some (.int (Int32.ofInt 12)), some (.int (Int32.ofInt (i_17 : Int))), w18]) (st' := [.ref (26 + i)]) (σ' := (zN L X (zhi s19) R G nc ns)) (fun n => rfl) ?_
              have f26 := zV_gun V20 (i := i) (by omega)
              refine zW.jget (v := (s19 (26 + i) 2)) rfl (zk_gun (by omega)) (fun _ _ _ => rfl) rfl ?_
              refine zW.run 1 (pc' := 180) (ls' := [some (.ref 7), some (.ref (26 + i)), some (.int (Int32.ofInt x)), some (.int (Int32.ofInt (1 - (s (26 + i) 0)))), some (.int (Int32.ofInt v_15)), some (.ref 19), some (.int (Int32.ofInt 12)), some (.int (Int32.ofInt (i_17 : Int))), w18]) (st' := [.int (Int32.ofInt 3), .int (Int32.ofInt (s19 (26 + i) 2))]) (σ' := (zN L X (zhi s19) R G nc ns)) (fun n => rfl) ?_
              refine zW.jcmp_ne rfl (by omega) (fun c27 => ?_) (fun c27 => ?_)
              · skip
                exact zW.vret rfl (hQ0 s19 V20)
              · skip
                refine zW.run 1 (pc' := 184) (ls' := [some (.ref 7), some (.ref (26 + i)), some (.int (Int32.ofInt x)), some (.int (Int32.ofInt (1 - (s (26 + i) 0)))), some (.int (Int32.ofInt v_15)), some (.ref 19), some (.int (Int32.ofInt 12)), some (.int (Int32.ofInt (i_17 : Int))), w18]) (st' := [.ref 7]) (σ' := (zN L X (zhi s19) R G nc ns)) (fun n => rfl) ?_
                refine zW.getf (v := .ref 8) rfl rfl (zr_7_0 S) ?_
                refine zW.run 1 (pc' := 188) (ls' := [some (.ref 7), some (.ref (26 + i)), some (.int (Int32.ofInt x)), some (.int (Int32.ofInt (1 - (s (26 + i) 0)))), some (.int (Int32.ofInt v_15)), some (.ref 19), some (.int (Int32.ofInt 12)), some (.int (Int32.ofInt (i_17 : Int))), w18]) (st' := [.ref (26 + i), .ref 8]) (σ' := (zN L X (zhi s19) R G nc ns)) (fun n => rfl) ?_
                refine zW.jget (v := (s19 (26 + i) 6)) rfl (zk_gun (by omega)) (fun _ _ _ => rfl) rfl ?_
                refine zW.callV rfl (by decide) rfl rfl rfl rfl rfl (Nat.le_of_ble_eq_true rfl) ?_
                refine t_Ground_workOf S V20 (x := (s19 (26 + i) 6)) (by omega) (fun v_28 f29 f30 => ?_)
                show zW ro 93 194 [some (.ref 7), some (.ref (26 + i)), some (.int (Int32.ofInt x)), some (.int (Int32.ofInt (1 - (s (26 + i) 0)))), some (.int (Int32.ofInt v_15)), some (.ref 19), some (.int (Int32.ofInt 12)), some (.int (Int32.ofInt (i_17 : Int))), w18] [.int (Int32.ofInt v_28)] (zN L X (zhi s19) R G nc ns) Q
                refine zW.run 1 (pc' := 195) (ls' := [some (.ref 7), some (.ref (26 + i)), some (.int (Int32.ofInt x)), some (.int (Int32.ofInt (1 - (s (26 + i) 0)))), some (.int (Int32.ofInt v_15)), some (.ref 19), some (.int (Int32.ofInt 12)), some (.int (Int32.ofInt (i_17 : Int))), w18]) (st' := [.int (Int32.ofInt 3), .int (Int32.ofInt v_28)]) (σ' := (zN L X (zhi s19) R G nc ns)) (fun n => rfl) ?_
                refine zW.jcmp_ne rfl (by omega) (fun c31 => ?_) (fun c31 => ?_)
                · skip
                  exact zW.vret rfl (hQ0 s19 V20)
                · skip
                  refine zW.run 2 (pc' := 200) (ls' := [some (.ref 7), some (.ref (26 + i)), some (.int (Int32.ofInt x)), some (.int (Int32.ofInt (1 - (s (26 + i) 0)))), some (.int (Int32.ofInt v_15)), some (.ref 19), some (.int (Int32.ofInt 12)), some (.int (Int32.ofInt (i_17 : Int))), w18]) (st' := [.ref 7, .ref 7]) (σ' := (zN L X (zhi s19) R G nc ns)) (fun n => rfl) ?_
                  have f32 := zV_sie V20
                  refine zW.run 2 (pc' := 204) (ls' := [some (.ref 7), some (.ref (26 + i)), some (.int (Int32.ofInt x)), some (.int (Int32.ofInt (1 - (s (26 + i) 0)))), some (.int (Int32.ofInt v_15)), some (.ref 19), some (.int (Int32.ofInt 12)), some (.int (Int32.ofInt (i_17 : Int))), w18]) (st' := [.int (Int32.ofInt x), .int (Int32.ofInt (s19 7 16)), .ref 7]) (σ' := (zN L X (zhi s19) R G nc ns)) (fun n => rfl) ?_
                  refine zW.jadd rfl ?_
                  refine zW.jput rfl rfl rfl ?_
                  have V33 : zV g U F T (B + 65) ph (zup s19 7 16 ((s19 7 16) + x)) := (V_irr V20 (by omega))
                  generalize hs34 : (zup s19 7 16 ((s19 7 16) + x)) = s34 at V33 ⊢
                  exact zW.vret rfl (hQ0 s34 V33)
            · skip
              refine zW.run 2 (pc' := 144) (ls' := [some (.ref 7), some (.ref (26 + i)), some (.int (Int32.ofInt x)), some (.int (Int32.ofInt (1 - (s (26 + i) 0)))), some (.int (Int32.ofInt v_15)), some (.ref 19), some (.int (Int32.ofInt 12)), some (.int (Int32.ofInt (i_17 : Int))), w18]) (st' := [.int (Int32.ofInt (i_17 : Int)), .ref 19]) (σ' := (zN L X (zhi s19) R G nc ns)) (fun n => rfl) ?_
              refine zW.jaald (n := 12) (v := .ref (42 + i_17)) rfl rfl (by decide) (by decide) (by omega) (zr_com S (by omega)) ?_
              refine zW.run 4 (pc' := 151) (ls' := [some (.ref 7), some (.ref (26 + i)), some (.int (Int32.ofInt x)), some (.int (Int32.ofInt (1 - (s (26 + i) 0)))), some (.int (Int32.ofInt v_15)), some (.ref 19), some (.int (Int32.ofInt 12)), some (.int (Int32.ofInt (i_17 : Int))), some (.ref (42 + i_17))]) (st' := [.ref (26 + i), .int (Int32.ofInt (1 - (s (26 + i) 0))), .ref (42 + i_17)]) (σ' := (zN L X (zhi s19) R G nc ns)) (fun n => rfl) ?_
              have f35 := zV_gun V20 (i := i) (by omega)
              refine zW.jget (v := (s19 (26 + i) 6)) rfl (zk_gun (by omega)) (fun _ _ _ => rfl) rfl ?_
              refine zW.callV rfl (by decide) rfl rfl rfl rfl (zk_com (by omega)) (Nat.le_of_ble_eq_true rfl) ?_
              refine t_Company_isAt S V20 (i := i_17) (x := (1 - (s (26 + i) 0))) (y := (s19 (26 + i) 6)) (by omega) (by omega) (by omega) (fun f36 f37 f38 => ?_) (fun f39 => ?_)
              · skip
                show zW ro 93 157 [some (.ref 7), some (.ref (26 + i)), some (.int (Int32.ofInt x)), some (.int (Int32.ofInt (1 - (s (26 + i) 0)))), some (.int (Int32.ofInt v_15)), some (.ref 19), some (.int (Int32.ofInt 12)), some (.int (Int32.ofInt (i_17 : Int))), some (.ref (42 + i_17))] [.int (Int32.ofInt 1)] (zN L X (zhi s19) R G nc ns) Q
                refine zW.run 4 (pc' := 165) (ls' := [some (.ref 7), some (.ref (26 + i)), some (.int (Int32.ofInt x)), some (.int (Int32.ofInt (1 - (s (26 + i) 0)))), some (.int (Int32.ofInt v_15)), some (.ref 19), some (.int (Int32.ofInt 12)), some (.int (Int32.ofInt (i_17 : Int))), some (.ref (42 + i_17))]) (st' := [.int (Int32.ofInt v_15), .ref (42 + i_17), .ref 7]) (σ' := (zN L X (zhi s19) R G nc ns)) (fun n => rfl) ?_
                refine zW.callV rfl (by decide) rfl rfl rfl rfl rfl (Nat.le_of_ble_eq_true rfl) ?_
                refine t_Siege_takeMen S V20 (i := i_17) (x := v_15) (by omega) (by omega) (fun v_40 s41 V42 f43 => ?_)
                show zW ro 93 168 [some (.ref 7), some (.ref (26 + i)), some (.int (Int32.ofInt x)), some (.int (Int32.ofInt (1 - (s (26 + i) 0)))), some (.int (Int32.ofInt v_15)), some (.ref 19), some (.int (Int32.ofInt 12)), some (.int (Int32.ofInt (i_17 : Int))), some (.ref (42 + i_17))] [.int (Int32.ofInt v_40)] (zN L X (zhi s41) R G nc ns) Q
                refine zW.run 1 (pc' := 169) (ls' := [some (.ref 7), some (.ref (26 + i)), some (.int (Int32.ofInt x)), some (.int (Int32.ofInt (1 - (s (26 + i) 0)))), some (.int (Int32.ofInt v_15)), some (.ref 19), some (.int (Int32.ofInt 12)), some (.int (Int32.ofInt (i_17 : Int))), some (.ref (42 + i_17))]) (st' := []) (σ' := (zN L X (zhi s41) R G nc ns)) (fun n => rfl) ?_
                refine zW.jinc (ls' := [some (.ref 7), some (.ref (26 + i)), some (.int (Int32.ofInt x)), some (.int (Int32.ofInt (1 - (s (26 + i) 0)))), some (.int (Int32.ofInt v_15)), some (.ref 19), some (.int (Int32.ofInt 12)), some (.int (Int32.ofInt ((i_17 : Int) + 1))), some (.ref (42 + i_17))]) rfl (Nat.le_of_ble_eq_true rfl) rfl rfl ?_
                refine zW.run 1 (pc' := 133) (ls' := [some (.ref 7), some (.ref (26 + i)), some (.int (Int32.ofInt x)), some (.int (Int32.ofInt (1 - (s (26 + i) 0)))), some (.int (Int32.ofInt v_15)), some (.ref 19), some (.int (Int32.ofInt 12)), some (.int (Int32.ofInt ((i_17 : Int) + 1))), some (.ref (42 + i_17))]) (st' := []) (σ' := (zN L X (zhi s41) R G nc ns)) (fun n => rfl) ?_
                exact ih23 (i_17 + 1) (some (.ref (42 + i_17))) s41 (zV_mono V42 (by omega) (by omega)) (by omega) (by omega)
              · skip
                show zW ro 93 157 [some (.ref 7), some (.ref (26 + i)), some (.int (Int32.ofInt x)), some (.int (Int32.ofInt (1 - (s (26 + i) 0)))), some (.int (Int32.ofInt v_15)), some (.ref 19), some (.int (Int32.ofInt 12)), some (.int (Int32.ofInt (i_17 : Int))), some (.ref (42 + i_17))] [.int (Int32.ofInt 0)] (zN L X (zhi s19) R G nc ns) Q
                refine zW.run 1 (pc' := 169) (ls' := [some (.ref 7), some (.ref (26 + i)), some (.int (Int32.ofInt x)), some (.int (Int32.ofInt (1 - (s (26 + i) 0)))), some (.int (Int32.ofInt v_15)), some (.ref 19), some (.int (Int32.ofInt 12)), some (.int (Int32.ofInt (i_17 : Int))), some (.ref (42 + i_17))]) (st' := []) (σ' := (zN L X (zhi s19) R G nc ns)) (fun n => rfl) ?_
                refine zW.jinc (ls' := [some (.ref 7), some (.ref (26 + i)), some (.int (Int32.ofInt x)), some (.int (Int32.ofInt (1 - (s (26 + i) 0)))), some (.int (Int32.ofInt v_15)), some (.ref 19), some (.int (Int32.ofInt 12)), some (.int (Int32.ofInt ((i_17 : Int) + 1))), some (.ref (42 + i_17))]) rfl (Nat.le_of_ble_eq_true rfl) rfl rfl ?_
                refine zW.run 1 (pc' := 133) (ls' := [some (.ref 7), some (.ref (26 + i)), some (.int (Int32.ofInt x)), some (.int (Int32.ofInt (1 - (s (26 + i) 0)))), some (.int (Int32.ofInt v_15)), some (.ref 19), some (.int (Int32.ofInt 12)), some (.int (Int32.ofInt ((i_17 : Int) + 1))), some (.ref (42 + i_17))]) (st' := []) (σ' := (zN L X (zhi s19) R G nc ns)) (fun n => rfl) ?_
                exact ih23 (i_17 + 1) (some (.ref (42 + i_17))) s19 (zV_mono V20 (by omega) (by omega)) (by omega) (by omega)
        exact J22 _ 0 w7 s8 (zV_mono V9 (by omega) (by omega)) (by omega) (Nat.lt_succ_self _)
      · skip
        refine zW.run 2 (pc' := 46) (ls' := [some (.ref 7), some (.ref (26 + i)), some (.int (Int32.ofInt x)), some (.int (Int32.ofInt (1 - (s (26 + i) 0)))), some (.ref 18), some (.int (Int32.ofInt 16)), some (.int (Int32.ofInt (i_5 : Int))), w6, w7]) (st' := [.int (Int32.ofInt (i_5 : Int)), .ref 18]) (σ' := (zN L X (zhi s8) R G nc ns)) (fun n => rfl) ?_
        refine zW.jaald (n := 16) (v := .ref (26 + i_5)) rfl rfl (by decide) (by decide) (by omega) (zr_gun S (by omega)) ?_
        refine zW.run 2 (pc' := 51) (ls' := [some (.ref 7), some (.ref (26 + i)), some (.int (Int32.ofInt x)), some (.int (Int32.ofInt (1 - (s (26 + i) 0)))), some (.ref 18), some (.int (Int32.ofInt 16)), some (.int (Int32.ofInt (i_5 : Int))), some (.ref (26 + i_5)), w7]) (st' := [.ref (26 + i_5)]) (σ' := (zN L X (zhi s8) R G nc ns)) (fun n => rfl) ?_
        have f44 := zV_gun V9 (i := i_5) (by omega)
        refine zW.jget (v := (s8 (26 + i_5) 0)) rfl (zk_gun (by omega)) (fun _ _ _ => rfl) rfl ?_
        refine zW.run 1 (pc' := 55) (ls' := [some (.ref 7), some (.ref (26 + i)), some (.int (Int32.ofInt x)), some (.int (Int32.ofInt (1 - (s (26 + i) 0)))), some (.ref 18), some (.int (Int32.ofInt 16)), some (.int (Int32.ofInt (i_5 : Int))), some (.ref (26 + i_5)), w7]) (st' := [.int (Int32.ofInt (1 - (s (26 + i) 0))), .int (Int32.ofInt (s8 (26 + i_5) 0))]) (σ' := (zN L X (zhi s8) R G nc ns)) (fun n => rfl) ?_
        refine zW.jcmp_ne rfl (by omega) (fun c45 => ?_) (fun c45 => ?_)
        · skip
          refine zW.jinc (ls' := [some (.ref 7), some (.ref (26 + i)), some (.int (Int32.ofInt x)), some (.int (Int32.ofInt (1 - (s (26 + i) 0)))), some (.ref 18), some (.int (Int32.ofInt 16)), some (.int (Int32.ofInt ((i_5 : Int) + 1))), some (.ref (26 + i_5)), w7]) rfl (Nat.le_of_ble_eq_true rfl) rfl rfl ?_
          refine zW.run 1 (pc' := 35) (ls' := [some (.ref 7), some (.ref (26 + i)), some (.int (Int32.ofInt x)), some (.int (Int32.ofInt (1 - (s (26 + i) 0)))), some (.ref 18), some (.int (Int32.ofInt 16)), some (.int (Int32.ofInt ((i_5 : Int) + 1))), some (.ref (26 + i_5)), w7]) (st' := []) (σ' := (zN L X (zhi s8) R G nc ns)) (fun n => rfl) ?_
          exact ih12 (i_5 + 1) (some (.ref (26 + i_5))) w7 s8 (zV_mono V9 (by omega) (by omega)) (by omega) (by omega)
        · skip
          refine zW.run 1 (pc' := 60) (ls' := [some (.ref 7), some (.ref (26 + i)), some (.int (Int32.ofInt x)), some (.int (Int32.ofInt (1 - (s (26 + i) 0)))), some (.ref 18), some (.int (Int32.ofInt 16)), some (.int (Int32.ofInt (i_5 : Int))), some (.ref (26 + i_5)), w7]) (st' := [.ref (26 + i_5)]) (σ' := (zN L X (zhi s8) R G nc ns)) (fun n => rfl) ?_
          refine zW.jget (v := (s8 (26 + i_5) 1)) rfl (zk_gun (by omega)) (fun _ _ _ => rfl) rfl ?_
          refine zW.run 1 (pc' := 64) (ls' := [some (.ref 7), some (.ref (26 + i)), some (.int (Int32.ofInt x)), some (.int (Int32.ofInt (1 - (s (26 + i) 0)))), some (.ref 18), some (.int (Int32.ofInt 16)), some (.int (Int32.ofInt (i_5 : Int))), some (.ref (26 + i_5)), w7]) (st' := [.ref (26 + i), .int (Int32.ofInt (s8 (26 + i_5) 1))]) (σ' := (zN L X (zhi s8) R G nc ns)) (fun n => rfl) ?_
          have f46 := zV_gun V9 (i := i) (by omega)
          refine zW.jget (v := (s8 (26 + i) 6)) rfl (zk_gun (by omega)) (fun _ _ _ => rfl) rfl ?_
          refine zW.jcmp_ne rfl (by omega) (fun c47 => ?_) (fun c47 => ?_)
          · skip
            refine zW.jinc (ls' := [some (.ref 7), some (.ref (26 + i)), some (.int (Int32.ofInt x)), some (.int (Int32.ofInt (1 - (s (26 + i) 0)))), some (.ref 18), some (.int (Int32.ofInt 16)), some (.int (Int32.ofInt ((i_5 : Int) + 1))), some (.ref (26 + i_5)), w7]) rfl (Nat.le_of_ble_eq_true rfl) rfl rfl ?_
            refine zW.run 1 (pc' := 35) (ls' := [some (.ref 7), some (.ref (26 + i)), some (.int (Int32.ofInt x)), some (.int (Int32.ofInt (1 - (s (26 + i) 0)))), some (.ref 18), some (.int (Int32.ofInt 16)), some (.int (Int32.ofInt ((i_5 : Int) + 1))), some (.ref (26 + i_5)), w7]) (st' := []) (σ' := (zN L X (zhi s8) R G nc ns)) (fun n => rfl) ?_
            exact ih12 (i_5 + 1) (some (.ref (26 + i_5))) w7 s8 (zV_mono V9 (by omega) (by omega)) (by omega) (by omega)
          · skip
            refine zW.run 2 (pc' := 73) (ls' := [some (.ref 7), some (.ref (26 + i)), some (.int (Int32.ofInt x)), some (.int (Int32.ofInt (1 - (s (26 + i) 0)))), some (.ref 18), some (.int (Int32.ofInt 16)), some (.int (Int32.ofInt (i_5 : Int))), some (.ref (26 + i_5)), w7]) (st' := [.ref (26 + i_5), .ref (26 + i_5)]) (σ' := (zN L X (zhi s8) R G nc ns)) (fun n => rfl) ?_
            refine zW.jget (v := (s8 (26 + i_5) 4)) rfl (zk_gun (by omega)) (fun _ _ _ => rfl) rfl ?_
            refine zW.run 1 (pc' := 77) (ls' := [some (.ref 7), some (.ref (26 + i)), some (.int (Int32.ofInt x)), some (.int (Int32.ofInt (1 - (s (26 + i) 0)))), some (.ref 18), some (.int (Int32.ofInt 16)), some (.int (Int32.ofInt (i_5 : Int))), some (.ref (26 + i_5)), w7]) (st' := [.int (Int32.ofInt x), .int (Int32.ofInt (s8 (26 + i_5) 4)), .ref (26 + i_5)]) (σ' := (zN L X (zhi s8) R G nc ns)) (fun n => rfl) ?_
            refine zW.jadd rfl ?_
            refine zW.jput rfl (zk_gun (by omega)) rfl ?_
            refine zW.run 1 (pc' := 83) (ls' := [some (.ref 7), some (.ref (26 + i)), some (.int (Int32.ofInt x)), some (.int (Int32.ofInt (1 - (s (26 + i) 0)))), some (.ref 18), some (.int (Int32.ofInt 16)), some (.int (Int32.ofInt (i_5 : Int))), some (.ref (26 + i_5)), w7]) (st' := [.ref (26 + i_5)]) (σ' := (zN L X (zhi (zup s8 (26 + i_5) 4 ((s8 (26 + i_5) 4) + x))) R G nc ns)) (fun n => rfl) ?_
            refine zW.jget (v := ((s8 (26 + i_5) 4) + x)) rfl (zk_gun (by omega)) (fun _ _ _ => rfl) zup_ej ?_
            refine zW.run 1 (pc' := 88) (ls' := [some (.ref 7), some (.ref (26 + i)), some (.int (Int32.ofInt x)), some (.int (Int32.ofInt (1 - (s (26 + i) 0)))), some (.ref 18), some (.int (Int32.ofInt 16)), some (.int (Int32.ofInt (i_5 : Int))), some (.ref (26 + i_5)), w7]) (st' := [.int (Int32.ofInt 10), .int (Int32.ofInt ((s8 (26 + i_5) 4) + x))]) (σ' := (zN L X (zhi (zup s8 (26 + i_5) 4 ((s8 (26 + i_5) 4) + x))) R G nc ns)) (fun n => rfl) ?_
            refine zW.jcmp_lt rfl (by omega) (fun c48 => ?_) (fun c48 => ?_)
            · skip
              refine zW.jinc (ls' := [some (.ref 7), some (.ref (26 + i)), some (.int (Int32.ofInt x)), some (.int (Int32.ofInt (1 - (s (26 + i) 0)))), some (.ref 18), some (.int (Int32.ofInt 16)), some (.int (Int32.ofInt ((i_5 : Int) + 1))), some (.ref (26 + i_5)), w7]) rfl (Nat.le_of_ble_eq_true rfl) rfl rfl ?_
              refine zW.run 1 (pc' := 35) (ls' := [some (.ref 7), some (.ref (26 + i)), some (.int (Int32.ofInt x)), some (.int (Int32.ofInt (1 - (s (26 + i) 0)))), some (.ref 18), some (.int (Int32.ofInt 16)), some (.int (Int32.ofInt ((i_5 : Int) + 1))), some (.ref (26 + i_5)), w7]) (st' := []) (σ' := (zN L X (zhi (zup s8 (26 + i_5) 4 ((s8 (26 + i_5) 4) + x))) R G nc ns)) (fun n => rfl) ?_
              have V49 : zV g U F T (B + 1 + 4 * i_5 + 4) ph (zup s8 (26 + i_5) 4 ((s8 (26 + i_5) 4) + x)) := (V_hits (zV_mono V9 (B2 := B + 1 + 4 * i_5 + 4) (by omega) (by omega)) (by omega) (by omega) (by omega))
              generalize hs50 : (zup s8 (26 + i_5) 4 ((s8 (26 + i_5) 4) + x)) = s50 at V49 ⊢
              exact ih12 (i_5 + 1) (some (.ref (26 + i_5))) w7 s50 (zV_mono V49 (by omega) (by omega)) (by omega) (by omega)
            · skip
              refine zW.run 1 (pc' := 93) (ls' := [some (.ref 7), some (.ref (26 + i)), some (.int (Int32.ofInt x)), some (.int (Int32.ofInt (1 - (s (26 + i) 0)))), some (.ref 18), some (.int (Int32.ofInt 16)), some (.int (Int32.ofInt (i_5 : Int))), some (.ref (26 + i_5)), w7]) (st' := [.ref (26 + i_5)]) (σ' := (zN L X (zhi (zup s8 (26 + i_5) 4 ((s8 (26 + i_5) 4) + x))) R G nc ns)) (fun n => rfl) ?_
              refine zW.jget (v := (s8 (26 + i_5) 5)) rfl (zk_gun (by omega)) (fun _ _ _ => rfl) (zup_nj (by omega)) ?_
              refine zW.jif_ne rfl (by omega) (fun c51 => ?_) (fun c51 => ?_)
              · skip
                refine zW.jinc (ls' := [some (.ref 7), some (.ref (26 + i)), some (.int (Int32.ofInt x)), some (.int (Int32.ofInt (1 - (s (26 + i) 0)))), some (.ref 18), some (.int (Int32.ofInt 16)), some (.int (Int32.ofInt ((i_5 : Int) + 1))), some (.ref (26 + i_5)), w7]) rfl (Nat.le_of_ble_eq_true rfl) rfl rfl ?_
                refine zW.run 1 (pc' := 35) (ls' := [some (.ref 7), some (.ref (26 + i)), some (.int (Int32.ofInt x)), some (.int (Int32.ofInt (1 - (s (26 + i) 0)))), some (.ref 18), some (.int (Int32.ofInt 16)), some (.int (Int32.ofInt ((i_5 : Int) + 1))), some (.ref (26 + i_5)), w7]) (st' := []) (σ' := (zN L X (zhi (zup s8 (26 + i_5) 4 ((s8 (26 + i_5) 4) + x))) R G nc ns)) (fun n => rfl) ?_
                have V52 : zV g U F T (B + 1 + 4 * i_5 + 4) ph (zup s8 (26 + i_5) 4 ((s8 (26 + i_5) 4) + x)) := (V_hits (zV_mono V9 (B2 := B + 1 + 4 * i_5 + 4) (by omega) (by omega)) (by omega) (by omega) (by omega))
                generalize hs53 : (zup s8 (26 + i_5) 4 ((s8 (26 + i_5) 4) + x)) = s53 at V52 ⊢
                exact ih12 (i_5 + 1) (some (.ref (26 + i_5))) w7 s53 (zV_mono V52 (by omega) (by omega)) (by omega) (by omega)
              · skip
                refine zW.run 2 (pc' := 102) (ls' := [some (.ref 7), some (.ref (26 + i)), some (.int (Int32.ofInt x)), some (.int (Int32.ofInt (1 - (s (26 + i) 0)))), some (.ref 18), some (.int (Int32.ofInt 16)), some (.int (Int32.ofInt (i_5 : Int))), some (.ref (26 + i_5)), w7]) (st' := [.int (Int32.ofInt 1), .ref (26 + i_5)]) (σ' := (zN L X (zhi (zup s8 (26 + i_5) 4 ((s8 (26 + i_5) 4) + x))) R G nc ns)) (fun n => rfl) ?_
                refine zW.jput rfl (zk_gun (by omega)) rfl ?_
                refine zW.jinc (ls' := [some (.ref 7), some (.ref (26 + i)), some (.int (Int32.ofInt x)), some (.int (Int32.ofInt (1 - (s (26 + i) 0)))), some (.ref 18), some (.int (Int32.ofInt 16)), some (.int (Int32.ofInt ((i_5 : Int) + 1))), some (.ref (26 + i_5)), w7]) rfl (Nat.le_of_ble_eq_true rfl) rfl rfl ?_
                refine zW.run 1 (pc' := 35) (ls' := [some (.ref 7), some (.ref (26 + i)), some (.int (Int32.ofInt x)), some (.int (Int32.ofInt (1 - (s (26 + i) 0)))), some (.ref 18), some (.int (Int32.ofInt 16)), some (.int (Int32.ofInt ((i_5 : Int) + 1))), some (.ref (26 + i_5)), w7]) (st' := []) (σ' := (zN L X (zhi (zup (zup s8 (26 + i_5) 4 ((s8 (26 + i_5) 4) + x)) (26 + i_5) 5 1)) R G nc ns)) (fun n => rfl) ?_
                have V54 : zV g U F T (B + 1 + 4 * i_5 + 4) ph (zup (zup s8 (26 + i_5) 4 ((s8 (26 + i_5) 4) + x)) (26 + i_5) 5 1) := (V_hitd (zV_mono V9 (B2 := B + 1 + 4 * i_5 + 4) (by omega) (by omega)) (by omega) (by omega))
                generalize hs55 : (zup (zup s8 (26 + i_5) 4 ((s8 (26 + i_5) 4) + x)) (26 + i_5) 5 1) = s55 at V54 ⊢
                exact ih12 (i_5 + 1) (some (.ref (26 + i_5))) w7 s55 (zV_mono V54 (by omega) (by omega)) (by omega) (by omega)
  exact J11 _ 0 none none s3 (zV_mono V4 (by omega) (by omega)) (by omega) (Nat.lt_succ_self _)
set_option maxHeartbeats 4000000 in
theorem t_Duties_makeGabions (S : zSR R) (V : zV g U F T B ph s) {i : Nat} (p0 : i < 12) (p1 : B + 20 ≤ 1000000000) (hQ0 : ∀ (s1 : zJ), zV g U F T (B + 20) ph s1 → Q (.inl none) (zN L X (zhi s1) R G nc ns)) : zW ro 47 0 (zfst [.ref 7, .ref (42 + i)] 2) [] (zN L X (zhi s) R G nc ns) Q := by
  show zW ro 47 0 [some (.ref 7), some (.ref (42 + i))] [] (zN L X (zhi s) R G nc ns) Q
  have f1 := zA_geo (zV_zA V)
  have hB0 := zV_B V
  refine zW.run 1 (pc' := 1) (ls' := [some (.ref 7), some (.ref (42 + i))]) (st' := [.ref (42 + i)]) (σ' := (zN L X (zhi s) R G nc ns)) (fun n => rfl) ?_
  have f2 := zV_com V (i := i) (by omega)
  refine zW.jget (v := (s (42 + i) 1)) rfl (zk_com (by omega)) (fun _ _ _ => rfl) rfl ?_
  refine zW.run 1 (pc' := 5) (ls' := [some (.ref 7), some (.ref (42 + i))]) (st' := [.ref 7, .int (Int32.ofInt (s (42 + i) 1))]) (σ' := (zN L X (zhi s) R G nc ns)) (fun n => rfl) ?_
  refine zW.getf (v := .ref 8) rfl rfl (zr_7_0 S) ?_
  refine zW.run 1 (pc' := 11) (ls' := [some (.ref 7), some (.ref (42 + i))]) (st' := [.int (Int32.ofInt (s 8 12)), .int (Int32.ofInt (s (42 + i) 1))]) (σ' := (zN L X (zhi s) R G nc ns)) (fun n => rfl) ?_
  refine zW.jcmp_eq rfl (by omega) (fun c3 => ?_) (fun c3 => ?_)
  · skip
    refine zW.run 2 (pc' := 31) (ls' := [some (.ref 7), some (.ref (42 + i))]) (st' := [.ref (42 + i), .ref 7]) (σ' := (zN L X (zhi s) R G nc ns)) (fun n => rfl) ?_
    refine zW.jget (v := (s (42 + i) 0)) rfl (zk_com (by omega)) (fun _ _ _ => rfl) rfl ?_
    refine zW.callV rfl (by decide) rfl rfl rfl rfl rfl (Nat.le_of_ble_eq_true rfl) ?_
    refine t_Siege_of S (x := (s (42 + i) 0)) (by omega) (fun o_4 f5 => ?_)
    show zW ro 47 37 [some (.ref 7), some (.ref (42 + i))] [.ref o_4] (zN L X (zhi s) R G nc ns) Q
    refine zW.run 1 (pc' := 38) (ls' := [some (.ref 7), some (.ref (42 + i))]) (st' := [.ref o_4, .ref o_4]) (σ' := (zN L X (zhi s) R G nc ns)) (fun n => rfl) ?_
    have f6 := zV_sid V (o := o_4) (by omega)
    refine zW.jget (v := (s o_4 2)) rfl (zk_sid (by omega)) (fun _ _ _ => rfl) rfl ?_
    refine zW.run 1 (pc' := 42) (ls' := [some (.ref 7), some (.ref (42 + i))]) (st' := [.ref (42 + i), .int (Int32.ofInt (s o_4 2)), .ref o_4]) (σ' := (zN L X (zhi s) R G nc ns)) (fun n => rfl) ?_
    refine zW.jget (v := (s (42 + i) 2)) rfl (zk_com (by omega)) (fun _ _ _ => rfl) rfl ?_
    refine zW.run 1 (pc' := 47) (ls' := [some (.ref 7), some (.ref (42 + i))]) (st' := [.int (Int32.ofInt 20), .int (Int32.ofInt (s (42 + i) 2)), .int (Int32.ofInt (s o_4 2)), .ref o_4]) (σ' := (zN L X (zhi s) R G nc ns)) (fun n => rfl) ?_
    refine zW.jdiv rfl (by omega) ?_
    refine zW.jadd rfl ?_
    refine zW.jput rfl (zk_sid (by omega)) rfl ?_
    have V7 : zV g U F T (B + 20) ph (zup s o_4 2 ((s o_4 2) + ((s (42 + i) 2) / 20))) := (V_gab (zV_mono V (B2 := B + 20) (by omega) (by omega)) (by omega) (by omega))
    generalize hs8 : (zup s o_4 2 ((s o_4 2) + ((s (42 + i) 2) / 20))) = s8 at V7 ⊢
    exact zW.vret rfl (hQ0 s8 V7)
  · skip
    refine zW.run 1 (pc' := 15) (ls' := [some (.ref 7), some (.ref (42 + i))]) (st' := [.ref 7]) (σ' := (zN L X (zhi s) R G nc ns)) (fun n => rfl) ?_
    refine zW.getf (v := .ref 8) rfl rfl (zr_7_0 S) ?_
    refine zW.run 1 (pc' := 19) (ls' := [some (.ref 7), some (.ref (42 + i))]) (st' := [.ref (42 + i), .ref 8]) (σ' := (zN L X (zhi s) R G nc ns)) (fun n => rfl) ?_
    refine zW.jget (v := (s (42 + i) 1)) rfl (zk_com (by omega)) (fun _ _ _ => rfl) rfl ?_
    refine zW.callV rfl (by decide) rfl rfl rfl rfl rfl (Nat.le_of_ble_eq_true rfl) ?_
    refine t_Ground_workOf S V (x := (s (42 + i) 1)) (by omega) (fun v_9 f10 f11 => ?_)
    show zW ro 47 25 [some (.ref 7), some (.ref (42 + i))] [.int (Int32.ofInt v_9)] (zN L X (zhi s) R G nc ns) Q
    refine zW.run 1 (pc' := 26) (ls' := [some (.ref 7), some (.ref (42 + i))]) (st' := [.int (Int32.ofInt 3), .int (Int32.ofInt v_9)]) (σ' := (zN L X (zhi s) R G nc ns)) (fun n => rfl) ?_
    refine zW.jcmp_ne rfl (by omega) (fun c12 => ?_) (fun c12 => ?_)
    · skip
      exact zW.vret rfl (hQ0 s (zV_mono V (by omega) (by omega)))
    · skip
      refine zW.run 2 (pc' := 31) (ls' := [some (.ref 7), some (.ref (42 + i))]) (st' := [.ref (42 + i), .ref 7]) (σ' := (zN L X (zhi s) R G nc ns)) (fun n => rfl) ?_
      refine zW.jget (v := (s (42 + i) 0)) rfl (zk_com (by omega)) (fun _ _ _ => rfl) rfl ?_
      refine zW.callV rfl (by decide) rfl rfl rfl rfl rfl (Nat.le_of_ble_eq_true rfl) ?_
      refine t_Siege_of S (x := (s (42 + i) 0)) (by omega) (fun o_13 f14 => ?_)
      show zW ro 47 37 [some (.ref 7), some (.ref (42 + i))] [.ref o_13] (zN L X (zhi s) R G nc ns) Q
      refine zW.run 1 (pc' := 38) (ls' := [some (.ref 7), some (.ref (42 + i))]) (st' := [.ref o_13, .ref o_13]) (σ' := (zN L X (zhi s) R G nc ns)) (fun n => rfl) ?_
      have f15 := zV_sid V (o := o_13) (by omega)
      refine zW.jget (v := (s o_13 2)) rfl (zk_sid (by omega)) (fun _ _ _ => rfl) rfl ?_
      refine zW.run 1 (pc' := 42) (ls' := [some (.ref 7), some (.ref (42 + i))]) (st' := [.ref (42 + i), .int (Int32.ofInt (s o_13 2)), .ref o_13]) (σ' := (zN L X (zhi s) R G nc ns)) (fun n => rfl) ?_
      refine zW.jget (v := (s (42 + i) 2)) rfl (zk_com (by omega)) (fun _ _ _ => rfl) rfl ?_
      refine zW.run 1 (pc' := 47) (ls' := [some (.ref 7), some (.ref (42 + i))]) (st' := [.int (Int32.ofInt 20), .int (Int32.ofInt (s (42 + i) 2)), .int (Int32.ofInt (s o_13 2)), .ref o_13]) (σ' := (zN L X (zhi s) R G nc ns)) (fun n => rfl) ?_
      refine zW.jdiv rfl (by omega) ?_
      refine zW.jadd rfl ?_
      refine zW.jput rfl (zk_sid (by omega)) rfl ?_
      have V16 : zV g U F T (B + 20) ph (zup s o_13 2 ((s o_13 2) + ((s (42 + i) 2) / 20))) := (V_gab (zV_mono V (B2 := B + 20) (by omega) (by omega)) (by omega) (by omega))
      generalize hs17 : (zup s o_13 2 ((s o_13 2) + ((s (42 + i) 2) / 20))) = s17 at V16 ⊢
      exact zW.vret rfl (hQ0 s17 V16)
set_option maxHeartbeats 4000000 in
theorem t_Duties_barWays (S : zSR R) (V : zV g U F T B ph s) {x : Int} {y : Int} (p0 : -1 ≤ x ∧ x ≤ 1) (p1 : -2147483648 ≤ y ∧ y < 2147483648) (hQ0 : ∀ (s1 : zJ), zV g U F T B ph s1 → Q (.inl none) (zN L X (zhi s1) R G nc ns)) : zW ro 41 0 (zfst [.ref 7, .int (Int32.ofInt x), .int (Int32.ofInt y)] 8) [] (zN L X (zhi s) R G nc ns) Q := by
  show zW ro 41 0 [some (.ref 7), some (.int (Int32.ofInt x)), some (.int (Int32.ofInt y)), none, none, none, none, none] [] (zN L X (zhi s) R G nc ns) Q
  have f1 := zA_geo (zV_zA V)
  have hB0 := zV_B V
  refine zW.run 1 (pc' := 1) (ls' := [some (.ref 7), some (.int (Int32.ofInt x)), some (.int (Int32.ofInt y)), none, none, none, none, none]) (st' := [.ref 7]) (σ' := (zN L X (zhi s) R G nc ns)) (fun n => rfl) ?_
  refine zW.getf (v := .ref 8) rfl rfl (zr_7_0 S) ?_
  refine zW.run 3 (pc' := 8) (ls' := [some (.ref 7), some (.int (Int32.ofInt x)), some (.int (Int32.ofInt y)), some (.ref 8), some (.int (Int32.ofInt 0)), none, none, none]) (st' := []) (σ' := (zN L X (zhi s) R G nc ns)) (fun n => rfl) ?_
  have J9 : ∀ m : Nat, ∀ (k_2 : Nat) (w3 : Option Value) (w4 : Option Value) (w5 : Option Value) (s6 : zJ), zV g U F T B ph s6 → k_2 ≤ 144 → 145 - k_2 < m → zW ro 41 8 [some (.ref 7), some (.int (Int32.ofInt x)), some (.int (Int32.ofInt y)), some (.ref 8), some (.int (Int32.ofInt (k_2 : Int))), w3, w4, w5] [] (zN L X (zhi s6) R G nc ns) Q := by
    intro m
    induction m with
    | zero => intros; omega
    | succ m ih10 =>
      intro k_2 w3 w4 w5 s6 V7 c8 hm11
      refine zW.run 2 (pc' := 11) (ls' := [some (.ref 7), some (.int (Int32.ofInt x)), some (.int (Int32.ofInt y)), some (.ref 8), some (.int (Int32.ofInt (k_2 : Int))), w3, w4, w5]) (st' := [.ref 8, .int (Int32.ofInt (k_2 : Int))]) (σ' := (zN L X (zhi s6) R G nc ns)) (fun n => rfl) ?_
      have f12 := zA_geo (zV_zA V7)
      refine zW.run 1 (pc' := 14) (ls' := [some (.ref 7), some (.int (Int32.ofInt x)), some (.int (Int32.ofInt y)), some (.ref 8), some (.int (Int32.ofInt (k_2 : Int))), w3, w4, w5]) (st' := [.int (Int32.ofInt (s6 8 11)), .int (Int32.ofInt (k_2 : Int))]) (σ' := (zN L X (zhi s6) R G nc ns)) (fun n => rfl) ?_
      refine zW.jcmp_ge rfl (by omega) (fun c13 => ?_) (fun c13 => ?_)
      · skip
        refine zW.run 1 (pc' := 110) (ls' := [some (.ref 7), some (.int (Int32.ofInt x)), some (.int (Int32.ofInt y)), some (.ref 8), some (.int (Int32.ofInt (k_2 : Int))), w3, w4, w5]) (st' := [.ref 7]) (σ' := (zN L X (zhi s6) R G nc ns)) (fun n => rfl) ?_
        refine zW.getf (v := .ref 19) rfl rfl (zr_7_2 S) ?_
        refine zW.run 2 (pc' := 117) (ls' := [some (.ref 7), some (.int (Int32.ofInt x)), some (.int (Int32.ofInt y)), some (.ref 8), some (.ref 19), w3, w4, w5]) (st' := [.ref 19]) (σ' := (zN L X (zhi s6) R G nc ns)) (fun n => rfl) ?_
        refine zW.alen rfl rfl (by decide) ?_
        show zW ro 41 118 [some (.ref 7), some (.int (Int32.ofInt x)), some (.int (Int32.ofInt y)), some (.ref 8), some (.ref 19), w3, w4, w5] [.int (Int32.ofInt 12)] (zN L X (zhi s6) R G nc ns) Q
        refine zW.run 3 (pc' := 123) (ls' := [some (.ref 7), some (.int (Int32.ofInt x)), some (.int (Int32.ofInt y)), some (.ref 8), some (.ref 19), some (.int (Int32.ofInt 12)), some (.int (Int32.ofInt 0)), w5]) (st' := []) (σ' := (zN L X (zhi s6) R G nc ns)) (fun n => rfl) ?_
        have J19 : ∀ m : Nat, ∀ (i_14 : Nat) (w15 : Option Value) (s16 : zJ), zV g U F T B ph s16 → i_14 ≤ 12 → 13 - i_14 < m → zW ro 41 123 [some (.ref 7), some (.int (Int32.ofInt x)), some (.int (Int32.ofInt y)), some (.ref 8), some (.ref 19), some (.int (Int32.ofInt 12)), some (.int (Int32.ofInt (i_14 : Int))), w15] [] (zN L X (zhi s16) R G nc ns) Q := by
          intro m
          induction m with
          | zero => intros; omega
          | succ m ih20 =>
            intro i_14 w15 s16 V17 c18 hm21
            refine zW.run 2 (pc' := 127) (ls' := [some (.ref 7), some (.int (Int32.ofInt x)), some (.int (Int32.ofInt y)), some (.ref 8), some (.ref 19), some (.int (Int32.ofInt 12)), some (.int (Int32.ofInt (i_14 : Int))), w15]) (st' := [.int (Int32.ofInt 12), .int (Int32.ofInt (i_14 : Int))]) (σ' := (zN L X (zhi s16) R G nc ns)) (fun n => rfl) ?_
            refine zW.jcmp_ge rfl (by omega) (fun c22 => ?_) (fun c22 => ?_)
            · skip
              exact zW.vret rfl (hQ0 s16 V17)
            · skip
              refine zW.run 2 (pc' := 134) (ls' := [some (.ref 7), some (.int (Int32.ofInt x)), some (.int (Int32.ofInt y)), some (.ref 8), some (.ref 19), some (.int (Int32.ofInt 12)), some (.int (Int32.ofInt (i_14 : Int))), w15]) (st' := [.int (Int32.ofInt (i_14 : Int)), .ref 19]) (σ' := (zN L X (zhi s16) R G nc ns)) (fun n => rfl) ?_
              refine zW.jaald (n := 12) (v := .ref (42 + i_14)) rfl rfl (by decide) (by decide) (by omega) (zr_com S (by omega)) ?_
              refine zW.run 2 (pc' := 139) (ls' := [some (.ref 7), some (.int (Int32.ofInt x)), some (.int (Int32.ofInt y)), some (.ref 8), some (.ref 19), some (.int (Int32.ofInt 12)), some (.int (Int32.ofInt (i_14 : Int))), some (.ref (42 + i_14))]) (st' := [.ref (42 + i_14)]) (σ' := (zN L X (zhi s16) R G nc ns)) (fun n => rfl) ?_
              have f23 := zV_com V17 (i := i_14) (by omega)
              refine zW.jget (v := (s16 (42 + i_14) 2)) rfl (zk_com (by omega)) (fun _ _ _ => rfl) rfl ?_
              refine zW.jif_le rfl (by omega) (fun c24 => ?_) (fun c24 => ?_)
              · skip
                refine zW.jinc (ls' := [some (.ref 7), some (.int (Int32.ofInt x)), some (.int (Int32.ofInt y)), some (.ref 8), some (.ref 19), some (.int (Int32.ofInt 12)), some (.int (Int32.ofInt ((i_14 : Int) + 1))), some (.ref (42 + i_14))]) rfl (Nat.le_of_ble_eq_true rfl) rfl rfl ?_
                refine zW.run 1 (pc' := 123) (ls' := [some (.ref 7), some (.int (Int32.ofInt x)), some (.int (Int32.ofInt y)), some (.ref 8), some (.ref 19), some (.int (Int32.ofInt 12)), some (.int (Int32.ofInt ((i_14 : Int) + 1))), some (.ref (42 + i_14))]) (st' := []) (σ' := (zN L X (zhi s16) R G nc ns)) (fun n => rfl) ?_
                exact ih20 (i_14 + 1) (some (.ref (42 + i_14))) s16 (zV_mono V17 (by omega) (by omega)) (by omega) (by omega)
              · skip
                refine zW.run 1 (pc' := 147) (ls' := [some (.ref 7), some (.int (Int32.ofInt x)), some (.int (Int32.ofInt y)), some (.ref 8), some (.ref 19), some (.int (Int32.ofInt 12)), some (.int (Int32.ofInt (i_14 : Int))), some (.ref (42 + i_14))]) (st' := [.ref (42 + i_14)]) (σ' := (zN L X (zhi s16) R G nc ns)) (fun n => rfl) ?_
                refine zW.jget (v := (s16 (42 + i_14) 0)) rfl (zk_com (by omega)) (fun _ _ _ => rfl) rfl ?_
                refine zW.run 2 (pc' := 152) (ls' := [some (.ref 7), some (.int (Int32.ofInt x)), some (.int (Int32.ofInt y)), some (.ref 8), some (.ref 19), some (.int (Int32.ofInt 12)), some (.int (Int32.ofInt (i_14 : Int))), some (.ref (42 + i_14))]) (st' := [.int (Int32.ofInt x), .int (Int32.ofInt 1), .int (Int32.ofInt (s16 (42 + i_14) 0))]) (σ' := (zN L X (zhi s16) R G nc ns)) (fun n => rfl) ?_
                refine zW.jsub rfl ?_
                refine zW.jcmp_ne rfl (by omega) (fun c25 => ?_) (fun c25 => ?_)
                · skip
                  refine zW.jinc (ls' := [some (.ref 7), some (.int (Int32.ofInt x)), some (.int (Int32.ofInt y)), some (.ref 8), some (.ref 19), some (.int (Int32.ofInt 12)), some (.int (Int32.ofInt ((i_14 : Int) + 1))), some (.ref (42 + i_14))]) rfl (Nat.le_of_ble_eq_true rfl) rfl rfl ?_
                  refine zW.run 1 (pc' := 123) (ls' := [some (.ref 7), some (.int (Int32.ofInt x)), some (.int (Int32.ofInt y)), some (.ref 8), some (.ref 19), some (.int (Int32.ofInt 12)), some (.int (Int32.ofInt ((i_14 : Int) + 1))), some (.ref (42 + i_14))]) (st' := []) (σ' := (zN L X (zhi s16) R G nc ns)) (fun n => rfl) ?_
                  exact ih20 (i_14 + 1) (some (.ref (42 + i_14))) s16 (zV_mono V17 (by omega) (by omega)) (by omega) (by omega)
                · skip
                  refine zW.run 2 (pc' := 159) (ls' := [some (.ref 7), some (.int (Int32.ofInt x)), some (.int (Int32.ofInt y)), some (.ref 8), some (.ref 19), some (.int (Int32.ofInt 12)), some (.int (Int32.ofInt (i_14 : Int))), some (.ref (42 + i_14))]) (st' := [.ref (42 + i_14), .ref 8]) (σ' := (zN L X (zhi s16) R G nc ns)) (fun n => rfl) ?_
                  refine zW.jget (v := (s16 (42 + i_14) 1)) rfl (zk_com (by omega)) (fun _ _ _ => rfl) rfl ?_
                  refine zW.callV rfl (by decide) rfl rfl rfl rfl rfl (Nat.le_of_ble_eq_true rfl) ?_
                  refine t_Ground_isOn S (zV_zA V17) (x := (s16 (42 + i_14) 1)) (by omega) (fun f26 f27 => ?_) (fun f28 => ?_)
                  · skip
                    show zW ro 41 165 [some (.ref 7), some (.int (Int32.ofInt x)), some (.int (Int32.ofInt y)), some (.ref 8), some (.ref 19), some (.int (Int32.ofInt 12)), some (.int (Int32.ofInt (i_14 : Int))), some (.ref (42 + i_14))] [.int (Int32.ofInt 1)] (zN L X (zhi s16) R G nc ns) Q
                    refine zW.run 2 (pc' := 169) (ls' := [some (.ref 7), some (.int (Int32.ofInt x)), some (.int (Int32.ofInt y)), some (.ref 8), some (.ref 19), some (.int (Int32.ofInt 12)), some (.int (Int32.ofInt (i_14 : Int))), some (.ref (42 + i_14))]) (st' := [.ref 8]) (σ' := (zN L X (zhi s16) R G nc ns)) (fun n => rfl) ?_
                    refine zW.getf (v := .ref 16) rfl rfl (zr_8 S (f := 7) (by decide)) ?_
                    refine zW.run 1 (pc' := 174) (ls' := [some (.ref 7), some (.int (Int32.ofInt x)), some (.int (Int32.ofInt y)), some (.ref 8), some (.ref 19), some (.int (Int32.ofInt 12)), some (.int (Int32.ofInt (i_14 : Int))), some (.ref (42 + i_14))]) (st' := [.ref (42 + i_14), .ref 16]) (σ' := (zN L X (zhi s16) R G nc ns)) (fun n => rfl) ?_
                    refine zW.jget (v := (s16 (42 + i_14) 1)) rfl (zk_com (by omega)) (fun _ _ _ => rfl) rfl ?_
                    refine zW.run 1 (pc' := 179) (ls' := [some (.ref 7), some (.int (Int32.ofInt x)), some (.int (Int32.ofInt y)), some (.ref 8), some (.ref 19), some (.int (Int32.ofInt 12)), some (.int (Int32.ofInt (i_14 : Int))), some (.ref (42 + i_14))]) (st' := [.int (Int32.ofInt (-2)), .int (Int32.ofInt (s16 (42 + i_14) 1)), .ref 16]) (σ' := (zN L X (zhi s16) R G nc ns)) (fun n => rfl) ?_
                    refine zW.jast (n := 144) rfl rfl (by decide) (by omega) ?_
                    refine zW.jinc (ls' := [some (.ref 7), some (.int (Int32.ofInt x)), some (.int (Int32.ofInt y)), some (.ref 8), some (.ref 19), some (.int (Int32.ofInt 12)), some (.int (Int32.ofInt ((i_14 : Int) + 1))), some (.ref (42 + i_14))]) rfl (Nat.le_of_ble_eq_true rfl) rfl rfl ?_
                    refine zW.run 1 (pc' := 123) (ls' := [some (.ref 7), some (.int (Int32.ofInt x)), some (.int (Int32.ofInt y)), some (.ref 8), some (.ref 19), some (.int (Int32.ofInt 12)), some (.int (Int32.ofInt ((i_14 : Int) + 1))), some (.ref (42 + i_14))]) (st' := []) (σ' := (zN L X (zhi (zup s16 16 ((s16 (42 + i_14) 1).toNat) (-2))) R G nc ns)) (fun n => rfl) ?_
                    have V29 : zV g U F T B ph (zup s16 16 ((s16 (42 + i_14) 1).toNat) (-2)) := (V_irr V17 (by omega))
                    generalize hs30 : (zup s16 16 ((s16 (42 + i_14) 1).toNat) (-2)) = s30 at V29 ⊢
                    exact ih20 (i_14 + 1) (some (.ref (42 + i_14))) s30 (zV_mono V29 (by omega) (by omega)) (by omega) (by omega)
                  · skip
                    show zW ro 41 165 [some (.ref 7), some (.int (Int32.ofInt x)), some (.int (Int32.ofInt y)), some (.ref 8), some (.ref 19), some (.int (Int32.ofInt 12)), some (.int (Int32.ofInt (i_14 : Int))), some (.ref (42 + i_14))] [.int (Int32.ofInt 0)] (zN L X (zhi s16) R G nc ns) Q
                    refine zW.run 1 (pc' := 180) (ls' := [some (.ref 7), some (.int (Int32.ofInt x)), some (.int (Int32.ofInt y)), some (.ref 8), some (.ref 19), some (.int (Int32.ofInt 12)), some (.int (Int32.ofInt (i_14 : Int))), some (.ref (42 + i_14))]) (st' := []) (σ' := (zN L X (zhi s16) R G nc ns)) (fun n => rfl) ?_
                    refine zW.jinc (ls' := [some (.ref 7), some (.int (Int32.ofInt x)), some (.int (Int32.ofInt y)), some (.ref 8), some (.ref 19), some (.int (Int32.ofInt 12)), some (.int (Int32.ofInt ((i_14 : Int) + 1))), some (.ref (42 + i_14))]) rfl (Nat.le_of_ble_eq_true rfl) rfl rfl ?_
                    refine zW.run 1 (pc' := 123) (ls' := [some (.ref 7), some (.int (Int32.ofInt x)), some (.int (Int32.ofInt y)), some (.ref 8), some (.ref 19), some (.int (Int32.ofInt 12)), some (.int (Int32.ofInt ((i_14 : Int) + 1))), some (.ref (42 + i_14))]) (st' := []) (σ' := (zN L X (zhi s16) R G nc ns)) (fun n => rfl) ?_
                    exact ih20 (i_14 + 1) (some (.ref (42 + i_14))) s16 (zV_mono V17 (by omega) (by omega)) (by omega) (by omega)
        exact J19 _ 0 w5 s6 (zV_mono V7 (by omega) (by omega)) (by omega) (Nat.lt_succ_self _)
      · skip
        refine zW.run 2 (pc' := 22) (ls' := [some (.ref 7), some (.int (Int32.ofInt x)), some (.int (Int32.ofInt y)), some (.ref 8), some (.int (Int32.ofInt (k_2 : Int))), w3, w4, w5]) (st' := [.int (Int32.ofInt 144), .int (Int32.ofInt (k_2 : Int))]) (σ' := (zN L X (zhi s6) R G nc ns)) (fun n => rfl) ?_
        refine zW.jcmp_ge rfl (by omega) (fun c31 => ?_) (fun c31 => ?_)
        · skip
          refine zW.run 1 (pc' := 110) (ls' := [some (.ref 7), some (.int (Int32.ofInt x)), some (.int (Int32.ofInt y)), some (.ref 8), some (.int (Int32.ofInt (k_2 : Int))), w3, w4, w5]) (st' := [.ref 7]) (σ' := (zN L X (zhi s6) R G nc ns)) (fun n => rfl) ?_
          refine zW.getf (v := .ref 19) rfl rfl (zr_7_2 S) ?_
          refine zW.run 2 (pc' := 117) (ls' := [some (.ref 7), some (.int (Int32.ofInt x)), some (.int (Int32.ofInt y)), some (.ref 8), some (.ref 19), w3, w4, w5]) (st' := [.ref 19]) (σ' := (zN L X (zhi s6) R G nc ns)) (fun n => rfl) ?_
          refine zW.alen rfl rfl (by decide) ?_
          show zW ro 41 118 [some (.ref 7), some (.int (Int32.ofInt x)), some (.int (Int32.ofInt y)), some (.ref 8), some (.ref 19), w3, w4, w5] [.int (Int32.ofInt 12)] (zN L X (zhi s6) R G nc ns) Q
          refine zW.run 3 (pc' := 123) (ls' := [some (.ref 7), some (.int (Int32.ofInt x)), some (.int (Int32.ofInt y)), some (.ref 8), some (.ref 19), some (.int (Int32.ofInt 12)), some (.int (Int32.ofInt 0)), w5]) (st' := []) (σ' := (zN L X (zhi s6) R G nc ns)) (fun n => rfl) ?_
          have J37 : ∀ m : Nat, ∀ (i_32 : Nat) (w33 : Option Value) (s34 : zJ), zV g U F T B ph s34 → i_32 ≤ 12 → 13 - i_32 < m → zW ro 41 123 [some (.ref 7), some (.int (Int32.ofInt x)), some (.int (Int32.ofInt y)), some (.ref 8), some (.ref 19), some (.int (Int32.ofInt 12)), some (.int (Int32.ofInt (i_32 : Int))), w33] [] (zN L X (zhi s34) R G nc ns) Q := by
            intro m
            induction m with
            | zero => intros; omega
            | succ m ih38 =>
              intro i_32 w33 s34 V35 c36 hm39
              refine zW.run 2 (pc' := 127) (ls' := [some (.ref 7), some (.int (Int32.ofInt x)), some (.int (Int32.ofInt y)), some (.ref 8), some (.ref 19), some (.int (Int32.ofInt 12)), some (.int (Int32.ofInt (i_32 : Int))), w33]) (st' := [.int (Int32.ofInt 12), .int (Int32.ofInt (i_32 : Int))]) (σ' := (zN L X (zhi s34) R G nc ns)) (fun n => rfl) ?_
              refine zW.jcmp_ge rfl (by omega) (fun c40 => ?_) (fun c40 => ?_)
              · skip
                exact zW.vret rfl (hQ0 s34 V35)
              · skip
                refine zW.run 2 (pc' := 134) (ls' := [some (.ref 7), some (.int (Int32.ofInt x)), some (.int (Int32.ofInt y)), some (.ref 8), some (.ref 19), some (.int (Int32.ofInt 12)), some (.int (Int32.ofInt (i_32 : Int))), w33]) (st' := [.int (Int32.ofInt (i_32 : Int)), .ref 19]) (σ' := (zN L X (zhi s34) R G nc ns)) (fun n => rfl) ?_
                refine zW.jaald (n := 12) (v := .ref (42 + i_32)) rfl rfl (by decide) (by decide) (by omega) (zr_com S (by omega)) ?_
                refine zW.run 2 (pc' := 139) (ls' := [some (.ref 7), some (.int (Int32.ofInt x)), some (.int (Int32.ofInt y)), some (.ref 8), some (.ref 19), some (.int (Int32.ofInt 12)), some (.int (Int32.ofInt (i_32 : Int))), some (.ref (42 + i_32))]) (st' := [.ref (42 + i_32)]) (σ' := (zN L X (zhi s34) R G nc ns)) (fun n => rfl) ?_
                have f41 := zV_com V35 (i := i_32) (by omega)
                refine zW.jget (v := (s34 (42 + i_32) 2)) rfl (zk_com (by omega)) (fun _ _ _ => rfl) rfl ?_
                refine zW.jif_le rfl (by omega) (fun c42 => ?_) (fun c42 => ?_)
                · skip
                  refine zW.jinc (ls' := [some (.ref 7), some (.int (Int32.ofInt x)), some (.int (Int32.ofInt y)), some (.ref 8), some (.ref 19), some (.int (Int32.ofInt 12)), some (.int (Int32.ofInt ((i_32 : Int) + 1))), some (.ref (42 + i_32))]) rfl (Nat.le_of_ble_eq_true rfl) rfl rfl ?_
                  refine zW.run 1 (pc' := 123) (ls' := [some (.ref 7), some (.int (Int32.ofInt x)), some (.int (Int32.ofInt y)), some (.ref 8), some (.ref 19), some (.int (Int32.ofInt 12)), some (.int (Int32.ofInt ((i_32 : Int) + 1))), some (.ref (42 + i_32))]) (st' := []) (σ' := (zN L X (zhi s34) R G nc ns)) (fun n => rfl) ?_
                  exact ih38 (i_32 + 1) (some (.ref (42 + i_32))) s34 (zV_mono V35 (by omega) (by omega)) (by omega) (by omega)
                · skip
                  refine zW.run 1 (pc' := 147) (ls' := [some (.ref 7), some (.int (Int32.ofInt x)), some (.int (Int32.ofInt y)), some (.ref 8), some (.ref 19), some (.int (Int32.ofInt 12)), some (.int (Int32.ofInt (i_32 : Int))), some (.ref (42 + i_32))]) (st' := [.ref (42 + i_32)]) (σ' := (zN L X (zhi s34) R G nc ns)) (fun n => rfl) ?_
                  refine zW.jget (v := (s34 (42 + i_32) 0)) rfl (zk_com (by omega)) (fun _ _ _ => rfl) rfl ?_
                  refine zW.run 2 (pc' := 152) (ls' := [some (.ref 7), some (.int (Int32.ofInt x)), some (.int (Int32.ofInt y)), some (.ref 8), some (.ref 19), some (.int (Int32.ofInt 12)), some (.int (Int32.ofInt (i_32 : Int))), some (.ref (42 + i_32))]) (st' := [.int (Int32.ofInt x), .int (Int32.ofInt 1), .int (Int32.ofInt (s34 (42 + i_32) 0))]) (σ' := (zN L X (zhi s34) R G nc ns)) (fun n => rfl) ?_
                  refine zW.jsub rfl ?_
                  refine zW.jcmp_ne rfl (by omega) (fun c43 => ?_) (fun c43 => ?_)
                  · skip
                    refine zW.jinc (ls' := [some (.ref 7), some (.int (Int32.ofInt x)), some (.int (Int32.ofInt y)), some (.ref 8), some (.ref 19), some (.int (Int32.ofInt 12)), some (.int (Int32.ofInt ((i_32 : Int) + 1))), some (.ref (42 + i_32))]) rfl (Nat.le_of_ble_eq_true rfl) rfl rfl ?_
                    refine zW.run 1 (pc' := 123) (ls' := [some (.ref 7), some (.int (Int32.ofInt x)), some (.int (Int32.ofInt y)), some (.ref 8), some (.ref 19), some (.int (Int32.ofInt 12)), some (.int (Int32.ofInt ((i_32 : Int) + 1))), some (.ref (42 + i_32))]) (st' := []) (σ' := (zN L X (zhi s34) R G nc ns)) (fun n => rfl) ?_
                    exact ih38 (i_32 + 1) (some (.ref (42 + i_32))) s34 (zV_mono V35 (by omega) (by omega)) (by omega) (by omega)
                  · skip
                    refine zW.run 2 (pc' := 159) (ls' := [some (.ref 7), some (.int (Int32.ofInt x)), some (.int (Int32.ofInt y)), some (.ref 8), some (.ref 19), some (.int (Int32.ofInt 12)), some (.int (Int32.ofInt (i_32 : Int))), some (.ref (42 + i_32))]) (st' := [.ref (42 + i_32), .ref 8]) (σ' := (zN L X (zhi s34) R G nc ns)) (fun n => rfl) ?_
                    refine zW.jget (v := (s34 (42 + i_32) 1)) rfl (zk_com (by omega)) (fun _ _ _ => rfl) rfl ?_
                    refine zW.callV rfl (by decide) rfl rfl rfl rfl rfl (Nat.le_of_ble_eq_true rfl) ?_
                    refine t_Ground_isOn S (zV_zA V35) (x := (s34 (42 + i_32) 1)) (by omega) (fun f44 f45 => ?_) (fun f46 => ?_)
                    · skip
                      show zW ro 41 165 [some (.ref 7), some (.int (Int32.ofInt x)), some (.int (Int32.ofInt y)), some (.ref 8), some (.ref 19), some (.int (Int32.ofInt 12)), some (.int (Int32.ofInt (i_32 : Int))), some (.ref (42 + i_32))] [.int (Int32.ofInt 1)] (zN L X (zhi s34) R G nc ns) Q
                      refine zW.run 2 (pc' := 169) (ls' := [some (.ref 7), some (.int (Int32.ofInt x)), some (.int (Int32.ofInt y)), some (.ref 8), some (.ref 19), some (.int (Int32.ofInt 12)), some (.int (Int32.ofInt (i_32 : Int))), some (.ref (42 + i_32))]) (st' := [.ref 8]) (σ' := (zN L X (zhi s34) R G nc ns)) (fun n => rfl) ?_
                      refine zW.getf (v := .ref 16) rfl rfl (zr_8 S (f := 7) (by decide)) ?_
                      refine zW.run 1 (pc' := 174) (ls' := [some (.ref 7), some (.int (Int32.ofInt x)), some (.int (Int32.ofInt y)), some (.ref 8), some (.ref 19), some (.int (Int32.ofInt 12)), some (.int (Int32.ofInt (i_32 : Int))), some (.ref (42 + i_32))]) (st' := [.ref (42 + i_32), .ref 16]) (σ' := (zN L X (zhi s34) R G nc ns)) (fun n => rfl) ?_
                      refine zW.jget (v := (s34 (42 + i_32) 1)) rfl (zk_com (by omega)) (fun _ _ _ => rfl) rfl ?_
                      refine zW.run 1 (pc' := 179) (ls' := [some (.ref 7), some (.int (Int32.ofInt x)), some (.int (Int32.ofInt y)), some (.ref 8), some (.ref 19), some (.int (Int32.ofInt 12)), some (.int (Int32.ofInt (i_32 : Int))), some (.ref (42 + i_32))]) (st' := [.int (Int32.ofInt (-2)), .int (Int32.ofInt (s34 (42 + i_32) 1)), .ref 16]) (σ' := (zN L X (zhi s34) R G nc ns)) (fun n => rfl) ?_
                      refine zW.jast (n := 144) rfl rfl (by decide) (by omega) ?_
                      refine zW.jinc (ls' := [some (.ref 7), some (.int (Int32.ofInt x)), some (.int (Int32.ofInt y)), some (.ref 8), some (.ref 19), some (.int (Int32.ofInt 12)), some (.int (Int32.ofInt ((i_32 : Int) + 1))), some (.ref (42 + i_32))]) rfl (Nat.le_of_ble_eq_true rfl) rfl rfl ?_
                      refine zW.run 1 (pc' := 123) (ls' := [some (.ref 7), some (.int (Int32.ofInt x)), some (.int (Int32.ofInt y)), some (.ref 8), some (.ref 19), some (.int (Int32.ofInt 12)), some (.int (Int32.ofInt ((i_32 : Int) + 1))), some (.ref (42 + i_32))]) (st' := []) (σ' := (zN L X (zhi (zup s34 16 ((s34 (42 + i_32) 1).toNat) (-2))) R G nc ns)) (fun n => rfl) ?_
                      have V47 : zV g U F T B ph (zup s34 16 ((s34 (42 + i_32) 1).toNat) (-2)) := (V_irr V35 (by omega))
                      generalize hs48 : (zup s34 16 ((s34 (42 + i_32) 1).toNat) (-2)) = s48 at V47 ⊢
                      exact ih38 (i_32 + 1) (some (.ref (42 + i_32))) s48 (zV_mono V47 (by omega) (by omega)) (by omega) (by omega)
                    · skip
                      show zW ro 41 165 [some (.ref 7), some (.int (Int32.ofInt x)), some (.int (Int32.ofInt y)), some (.ref 8), some (.ref 19), some (.int (Int32.ofInt 12)), some (.int (Int32.ofInt (i_32 : Int))), some (.ref (42 + i_32))] [.int (Int32.ofInt 0)] (zN L X (zhi s34) R G nc ns) Q
                      refine zW.run 1 (pc' := 180) (ls' := [some (.ref 7), some (.int (Int32.ofInt x)), some (.int (Int32.ofInt y)), some (.ref 8), some (.ref 19), some (.int (Int32.ofInt 12)), some (.int (Int32.ofInt (i_32 : Int))), some (.ref (42 + i_32))]) (st' := []) (σ' := (zN L X (zhi s34) R G nc ns)) (fun n => rfl) ?_
                      refine zW.jinc (ls' := [some (.ref 7), some (.int (Int32.ofInt x)), some (.int (Int32.ofInt y)), some (.ref 8), some (.ref 19), some (.int (Int32.ofInt 12)), some (.int (Int32.ofInt ((i_32 : Int) + 1))), some (.ref (42 + i_32))]) rfl (Nat.le_of_ble_eq_true rfl) rfl rfl ?_
                      refine zW.run 1 (pc' := 123) (ls' := [some (.ref 7), some (.int (Int32.ofInt x)), some (.int (Int32.ofInt y)), some (.ref 8), some (.ref 19), some (.int (Int32.ofInt 12)), some (.int (Int32.ofInt ((i_32 : Int) + 1))), some (.ref (42 + i_32))]) (st' := []) (σ' := (zN L X (zhi s34) R G nc ns)) (fun n => rfl) ?_
                      exact ih38 (i_32 + 1) (some (.ref (42 + i_32))) s34 (zV_mono V35 (by omega) (by omega)) (by omega) (by omega)
          exact J37 _ 0 w5 s6 (zV_mono V7 (by omega) (by omega)) (by omega) (Nat.lt_succ_self _)
        · skip
          refine zW.run 1 (pc' := 26) (ls' := [some (.ref 7), some (.int (Int32.ofInt x)), some (.int (Int32.ofInt y)), some (.ref 8), some (.int (Int32.ofInt (k_2 : Int))), w3, w4, w5]) (st' := [.ref 8]) (σ' := (zN L X (zhi s6) R G nc ns)) (fun n => rfl) ?_
          refine zW.getf (v := .ref 11) rfl rfl (zr_8 S (f := 2) (by decide)) ?_
          refine zW.run 1 (pc' := 31) (ls' := [some (.ref 7), some (.int (Int32.ofInt x)), some (.int (Int32.ofInt y)), some (.ref 8), some (.int (Int32.ofInt (k_2 : Int))), w3, w4, w5]) (st' := [.int (Int32.ofInt (k_2 : Int)), .ref 11]) (σ' := (zN L X (zhi s6) R G nc ns)) (fun n => rfl) ?_
          refine zW.jald (n := 144) (v := (s6 11 k_2)) rfl rfl (by decide) (by omega) rfl ?_
          have f49 := zV_sq V7 (k := k_2) (by omega)
          refine zW.run 1 (pc' := 33) (ls' := [some (.ref 7), some (.int (Int32.ofInt x)), some (.int (Int32.ofInt y)), some (.ref 8), some (.int (Int32.ofInt (k_2 : Int))), w3, w4, w5]) (st' := [.int (Int32.ofInt 2), .int (Int32.ofInt (s6 11 k_2))]) (σ' := (zN L X (zhi s6) R G nc ns)) (fun n => rfl) ?_
          have J51 : ∀ (v50 : Int), ((s6 11 k_2) = 2 ∧ v50 = 1) ∨ (¬ (s6 11 k_2) = 2 ∧ ¬ (s6 11 k_2) = 7 ∧ v50 = 0) ∨ (¬ (s6 11 k_2) = 2 ∧ (s6 11 k_2) = 7 ∧ v50 = 1) → zW ro 41 53 [some (.ref 7), some (.int (Int32.ofInt x)), some (.int (Int32.ofInt y)), some (.ref 8), some (.int (Int32.ofInt (k_2 : Int))), w3, w4, w5] [.int (Int32.ofInt v50)] (zN L X (zhi s6) R G nc ns) Q := by
            intro v50 c52
            refine zW.run 3 (pc' := 58) (ls' := [some (.ref 7), some (.int (Int32.ofInt x)), some (.int (Int32.ofInt y)), some (.ref 8), some (.int (Int32.ofInt (k_2 : Int))), some (.int (Int32.ofInt v50)), w4, w5]) (st' := [.int (Int32.ofInt (k_2 : Int)), .ref 8]) (σ' := (zN L X (zhi s6) R G nc ns)) (fun n => rfl) ?_
            refine zW.callV rfl (by decide) rfl rfl rfl rfl rfl (Nat.le_of_ble_eq_true rfl) ?_
            refine t_Ground_belongsTo S V7 (x := (k_2 : Int)) (by omega) (fun v_53 f54 => ?_)
            show zW ro 41 61 [some (.ref 7), some (.int (Int32.ofInt x)), some (.int (Int32.ofInt y)), some (.ref 8), some (.int (Int32.ofInt (k_2 : Int))), some (.int (Int32.ofInt v50)), w4, w5] [.int (Int32.ofInt v_53)] (zN L X (zhi s6) R G nc ns) Q
            refine zW.run 2 (pc' := 63) (ls' := [some (.ref 7), some (.int (Int32.ofInt x)), some (.int (Int32.ofInt y)), some (.ref 8), some (.int (Int32.ofInt (k_2 : Int))), some (.int (Int32.ofInt v50)), w4, w5]) (st' := [.int (Int32.ofInt x), .int (Int32.ofInt 1), .int (Int32.ofInt v_53)]) (σ' := (zN L X (zhi s6) R G nc ns)) (fun n => rfl) ?_
            refine zW.jsub rfl ?_
            have J56 : ∀ (v55 : Int), (v_53 = (1 - x) ∧ v55 = 1) ∨ (¬ v_53 = (1 - x) ∧ v50 = 0 ∧ v55 = 0) ∨ (¬ v_53 = (1 - x) ∧ ¬ v50 = 0 ∧ (k_2 : Int) = y ∧ v55 = 0) ∨ (¬ v_53 = (1 - x) ∧ ¬ v50 = 0 ∧ ¬ (k_2 : Int) = y ∧ v55 = 1) → zW ro 41 83 [some (.ref 7), some (.int (Int32.ofInt x)), some (.int (Int32.ofInt y)), some (.ref 8), some (.int (Int32.ofInt (k_2 : Int))), some (.int (Int32.ofInt v50)), w4, w5] [.int (Int32.ofInt v55)] (zN L X (zhi s6) R G nc ns) Q := by
              intro v55 c57
              refine zW.run 2 (pc' := 86) (ls' := [some (.ref 7), some (.int (Int32.ofInt x)), some (.int (Int32.ofInt y)), some (.ref 8), some (.int (Int32.ofInt (k_2 : Int))), some (.int (Int32.ofInt v50)), some (.int (Int32.ofInt v55)), w5]) (st' := [.ref 8]) (σ' := (zN L X (zhi s6) R G nc ns)) (fun n => rfl) ?_
              refine zW.getf (v := .ref 16) rfl rfl (zr_8 S (f := 7) (by decide)) ?_
              refine zW.run 2 (pc' := 93) (ls' := [some (.ref 7), some (.int (Int32.ofInt x)), some (.int (Int32.ofInt y)), some (.ref 8), some (.int (Int32.ofInt (k_2 : Int))), some (.int (Int32.ofInt v50)), some (.int (Int32.ofInt v55)), w5]) (st' := [.int (Int32.ofInt v55), .int (Int32.ofInt (k_2 : Int)), .ref 16]) (σ' := (zN L X (zhi s6) R G nc ns)) (fun n => rfl) ?_
              have J59 : ∀ (v58 : Int), (v55 = 0 ∧ v58 = (-1)) ∨ (¬ v55 = 0 ∧ v58 = (-2)) → zW ro 41 102 [some (.ref 7), some (.int (Int32.ofInt x)), some (.int (Int32.ofInt y)), some (.ref 8), some (.int (Int32.ofInt (k_2 : Int))), some (.int (Int32.ofInt v50)), some (.int (Int32.ofInt v55)), w5] [.int (Int32.ofInt v58), .int (Int32.ofInt (k_2 : Int)), .ref 16] (zN L X (zhi s6) R G nc ns) Q := by
                intro v58 c60
                refine zW.jast (n := 144) rfl rfl (by decide) (by omega) ?_
                refine zW.jinc (ls' := [some (.ref 7), some (.int (Int32.ofInt x)), some (.int (Int32.ofInt y)), some (.ref 8), some (.int (Int32.ofInt ((k_2 : Int) + 1))), some (.int (Int32.ofInt v50)), some (.int (Int32.ofInt v55)), w5]) rfl (Nat.le_of_ble_eq_true rfl) rfl rfl ?_
                refine zW.run 1 (pc' := 8) (ls' := [some (.ref 7), some (.int (Int32.ofInt x)), some (.int (Int32.ofInt y)), some (.ref 8), some (.int (Int32.ofInt ((k_2 : Int) + 1))), some (.int (Int32.ofInt v50)), some (.int (Int32.ofInt v55)), w5]) (st' := []) (σ' := (zN L X (zhi (zup s6 16 k_2 v58)) R G nc ns)) (fun n => rfl) ?_
                have V61 : zV g U F T B ph (zup s6 16 k_2 v58) := (V_irr V7 (by omega))
                generalize hs62 : (zup s6 16 k_2 v58) = s62 at V61 ⊢
                exact ih10 (k_2 + 1) (some (.int (Int32.ofInt v50))) (some (.int (Int32.ofInt v55))) w5 s62 (zV_mono V61 (by omega) (by omega)) (by omega) (by omega)
              refine zW.jif_eq rfl (by omega) (fun c63 => ?_) (fun c63 => ?_)
              · skip
                refine zW.run 1 (pc' := 102) (ls' := [some (.ref 7), some (.int (Int32.ofInt x)), some (.int (Int32.ofInt y)), some (.ref 8), some (.int (Int32.ofInt (k_2 : Int))), some (.int (Int32.ofInt v50)), some (.int (Int32.ofInt v55)), w5]) (st' := [.int (Int32.ofInt (-1)), .int (Int32.ofInt (k_2 : Int)), .ref 16]) (σ' := (zN L X (zhi s6) R G nc ns)) (fun n => rfl) ?_
                exact J59 (-1) (by omega)
              · skip
                refine zW.run 2 (pc' := 102) (ls' := [some (.ref 7), some (.int (Int32.ofInt x)), some (.int (Int32.ofInt y)), some (.ref 8), some (.int (Int32.ofInt (k_2 : Int))), some (.int (Int32.ofInt v50)), some (.int (Int32.ofInt v55)), w5]) (st' := [.int (Int32.ofInt (-2)), .int (Int32.ofInt (k_2 : Int)), .ref 16]) (σ' := (zN L X (zhi s6) R G nc ns)) (fun n => rfl) ?_
                exact J59 (-2) (by omega)
            refine zW.jcmp_eq rfl (by omega) (fun c64 => ?_) (fun c64 => ?_)
            · skip
              refine zW.run 2 (pc' := 83) (ls' := [some (.ref 7), some (.int (Int32.ofInt x)), some (.int (Int32.ofInt y)), some (.ref 8), some (.int (Int32.ofInt (k_2 : Int))), some (.int (Int32.ofInt v50)), w4, w5]) (st' := [.int (Int32.ofInt 1)]) (σ' := (zN L X (zhi s6) R G nc ns)) (fun n => rfl) ?_
              exact J56 1 (by omega)
            · skip
              refine zW.run 1 (pc' := 69) (ls' := [some (.ref 7), some (.int (Int32.ofInt x)), some (.int (Int32.ofInt y)), some (.ref 8), some (.int (Int32.ofInt (k_2 : Int))), some (.int (Int32.ofInt v50)), w4, w5]) (st' := [.int (Int32.ofInt v50)]) (σ' := (zN L X (zhi s6) R G nc ns)) (fun n => rfl) ?_
              refine zW.jif_eq rfl (by omega) (fun c65 => ?_) (fun c65 => ?_)
              · skip
                refine zW.run 1 (pc' := 83) (ls' := [some (.ref 7), some (.int (Int32.ofInt x)), some (.int (Int32.ofInt y)), some (.ref 8), some (.int (Int32.ofInt (k_2 : Int))), some (.int (Int32.ofInt v50)), w4, w5]) (st' := [.int (Int32.ofInt 0)]) (σ' := (zN L X (zhi s6) R G nc ns)) (fun n => rfl) ?_
                exact J56 0 (by omega)
              · skip
                refine zW.run 2 (pc' := 75) (ls' := [some (.ref 7), some (.int (Int32.ofInt x)), some (.int (Int32.ofInt y)), some (.ref 8), some (.int (Int32.ofInt (k_2 : Int))), some (.int (Int32.ofInt v50)), w4, w5]) (st' := [.int (Int32.ofInt y), .int (Int32.ofInt (k_2 : Int))]) (σ' := (zN L X (zhi s6) R G nc ns)) (fun n => rfl) ?_
                refine zW.jcmp_eq rfl (by omega) (fun c66 => ?_) (fun c66 => ?_)
                · skip
                  refine zW.run 1 (pc' := 83) (ls' := [some (.ref 7), some (.int (Int32.ofInt x)), some (.int (Int32.ofInt y)), some (.ref 8), some (.int (Int32.ofInt (k_2 : Int))), some (.int (Int32.ofInt v50)), w4, w5]) (st' := [.int (Int32.ofInt 0)]) (σ' := (zN L X (zhi s6) R G nc ns)) (fun n => rfl) ?_
                  exact J56 0 (by omega)
                · skip
                  refine zW.run 2 (pc' := 83) (ls' := [some (.ref 7), some (.int (Int32.ofInt x)), some (.int (Int32.ofInt y)), some (.ref 8), some (.int (Int32.ofInt (k_2 : Int))), some (.int (Int32.ofInt v50)), w4, w5]) (st' := [.int (Int32.ofInt 1)]) (σ' := (zN L X (zhi s6) R G nc ns)) (fun n => rfl) ?_
                  exact J56 1 (by omega)
          refine zW.jcmp_eq rfl (by omega) (fun c67 => ?_) (fun c67 => ?_)
          · skip
            refine zW.run 2 (pc' := 53) (ls' := [some (.ref 7), some (.int (Int32.ofInt x)), some (.int (Int32.ofInt y)), some (.ref 8), some (.int (Int32.ofInt (k_2 : Int))), w3, w4, w5]) (st' := [.int (Int32.ofInt 1)]) (σ' := (zN L X (zhi s6) R G nc ns)) (fun n => rfl) ?_
            exact J51 1 (by omega)
          · skip
            refine zW.run 1 (pc' := 37) (ls' := [some (.ref 7), some (.int (Int32.ofInt x)), some (.int (Int32.ofInt y)), some (.ref 8), some (.int (Int32.ofInt (k_2 : Int))), w3, w4, w5]) (st' := [.ref 8]) (σ' := (zN L X (zhi s6) R G nc ns)) (fun n => rfl) ?_
            refine zW.getf (v := .ref 11) rfl rfl (zr_8 S (f := 2) (by decide)) ?_
            refine zW.run 1 (pc' := 42) (ls' := [some (.ref 7), some (.int (Int32.ofInt x)), some (.int (Int32.ofInt y)), some (.ref 8), some (.int (Int32.ofInt (k_2 : Int))), w3, w4, w5]) (st' := [.int (Int32.ofInt (k_2 : Int)), .ref 11]) (σ' := (zN L X (zhi s6) R G nc ns)) (fun n => rfl) ?_
            refine zW.jald (n := 144) (v := (s6 11 k_2)) rfl rfl (by decide) (by omega) rfl ?_
            refine zW.run 1 (pc' := 45) (ls' := [some (.ref 7), some (.int (Int32.ofInt x)), some (.int (Int32.ofInt y)), some (.ref 8), some (.int (Int32.ofInt (k_2 : Int))), w3, w4, w5]) (st' := [.int (Int32.ofInt 7), .int (Int32.ofInt (s6 11 k_2))]) (σ' := (zN L X (zhi s6) R G nc ns)) (fun n => rfl) ?_
            refine zW.jcmp_ne rfl (by omega) (fun c68 => ?_) (fun c68 => ?_)
            · skip
              refine zW.run 1 (pc' := 53) (ls' := [some (.ref 7), some (.int (Int32.ofInt x)), some (.int (Int32.ofInt y)), some (.ref 8), some (.int (Int32.ofInt (k_2 : Int))), w3, w4, w5]) (st' := [.int (Int32.ofInt 0)]) (σ' := (zN L X (zhi s6) R G nc ns)) (fun n => rfl) ?_
              exact J51 0 (by omega)
            · skip
              refine zW.run 2 (pc' := 53) (ls' := [some (.ref 7), some (.int (Int32.ofInt x)), some (.int (Int32.ofInt y)), some (.ref 8), some (.int (Int32.ofInt (k_2 : Int))), w3, w4, w5]) (st' := [.int (Int32.ofInt 1)]) (σ' := (zN L X (zhi s6) R G nc ns)) (fun n => rfl) ?_
              exact J51 1 (by omega)
  exact J9 _ 0 none none none s (zV_mono V (by omega) (by omega)) (by omega) (Nat.lt_succ_self _)
set_option maxHeartbeats 4000000 in
theorem t_Duties_measureWays (S : zSR R) (V : zV g U F T B ph s) {y : Int} (p0 : -2147483648 ≤ y ∧ y < 2147483648) (hQ0 : ∀ (s1 : zJ), zV g U F T B ph s1 → Q (.inl none) (zN L X (zhi s1) R G nc ns)) : zW ro 48 0 (zfst [.ref 8, .int (Int32.ofInt y)] 7) [] (zN L X (zhi s) R G nc ns) Q := by
  show zW ro 48 0 [some (.ref 8), some (.int (Int32.ofInt y)), none, none, none, none, none] [] (zN L X (zhi s) R G nc ns) Q
  have f1 := zA_geo (zV_zA V)
  have hB0 := zV_B V
  refine zW.run 2 (pc' := 2) (ls' := [some (.ref 8), some (.int (Int32.ofInt y)), none, none, none, none, none]) (st' := [.int (Int32.ofInt y), .ref 8]) (σ' := (zN L X (zhi s) R G nc ns)) (fun n => rfl) ?_
  refine zW.callV rfl (by decide) rfl rfl rfl rfl rfl (Nat.le_of_ble_eq_true rfl) ?_
  refine t_Ground_isOn S (zV_zA V) (x := y) (by omega) (fun f2 f3 => ?_) (fun f4 => ?_)
  · skip
    show zW ro 48 5 [some (.ref 8), some (.int (Int32.ofInt y)), none, none, none, none, none] [.int (Int32.ofInt 1)] (zN L X (zhi s) R G nc ns) Q
    refine zW.run 2 (pc' := 10) (ls' := [some (.ref 8), some (.int (Int32.ofInt y)), none, none, none, none, none]) (st' := [.ref 8]) (σ' := (zN L X (zhi s) R G nc ns)) (fun n => rfl) ?_
    refine zW.getf (v := .ref 16) rfl rfl (zr_8 S (f := 7) (by decide)) ?_
    refine zW.run 2 (pc' := 15) (ls' := [some (.ref 8), some (.int (Int32.ofInt y)), none, none, none, none, none]) (st' := [.int (Int32.ofInt 0), .int (Int32.ofInt y), .ref 16]) (σ' := (zN L X (zhi s) R G nc ns)) (fun n => rfl) ?_
    refine zW.jast (n := 144) rfl rfl (by decide) (by omega) ?_
    refine zW.run 1 (pc' := 17) (ls' := [some (.ref 8), some (.int (Int32.ofInt y)), none, none, none, none, none]) (st' := [.ref 8]) (σ' := (zN L X (zhi (zup s 16 y.toNat 0)) R G nc ns)) (fun n => rfl) ?_
    refine zW.getf (v := .ref 17) rfl rfl (zr_8 S (f := 8) (by decide)) ?_
    refine zW.run 2 (pc' := 22) (ls' := [some (.ref 8), some (.int (Int32.ofInt y)), none, none, none, none, none]) (st' := [.int (Int32.ofInt y), .int (Int32.ofInt 0), .ref 17]) (σ' := (zN L X (zhi (zup s 16 y.toNat 0)) R G nc ns)) (fun n => rfl) ?_
    refine zW.jast (n := 144) rfl rfl (by decide) (by omega) ?_
    refine zW.run 4 (pc' := 27) (ls' := [some (.ref 8), some (.int (Int32.ofInt y)), some (.int (Int32.ofInt 1)), some (.int (Int32.ofInt 0)), none, none, none]) (st' := []) (σ' := (zN L X (zhi (zup (zup s 16 y.toNat 0) 17 0 y)) R G nc ns)) (fun n => rfl) ?_
    have V5 : zV g U F T B ph (zup (zup s 16 y.toNat 0) 17 0 y) := (V_irr (V_irr V (by omega)) (by omega))
    generalize hs6 : (zup (zup s 16 y.toNat 0) 17 0 y) = s6 at V5 ⊢
    have J16 : ∀ m : Nat, ∀ (k_7 : Nat) (f_8 : Nat) (w9 : Option Value) (w10 : Option Value) (w11 : Option Value) (s12 : zJ), zV g U F T B ph s12 → k_7 ≤ 144 → f_8 ≤ 144 → 145 - k_7 < m → zW ro 48 27 [some (.ref 8), some (.int (Int32.ofInt y)), some (.int (Int32.ofInt (f_8 : Int))), some (.int (Int32.ofInt (k_7 : Int))), w9, w10, w11] [] (zN L X (zhi s12) R G nc ns) Q := by
      intro m
      induction m with
      | zero => intros; omega
      | succ m ih17 =>
        intro k_7 f_8 w9 w10 w11 s12 V13 c14 c15 hm18
        refine zW.run 2 (pc' := 29) (ls' := [some (.ref 8), some (.int (Int32.ofInt y)), some (.int (Int32.ofInt (f_8 : Int))), some (.int (Int32.ofInt (k_7 : Int))), w9, w10, w11]) (st' := [.int (Int32.ofInt (f_8 : Int)), .int (Int32.ofInt (k_7 : Int))]) (σ' := (zN L X (zhi s12) R G nc ns)) (fun n => rfl) ?_
        refine zW.jcmp_ge rfl (by omega) (fun c19 => ?_) (fun c19 => ?_)
        · skip
          exact zW.vret rfl (hQ0 s12 V13)
        · skip
          refine zW.run 2 (pc' := 36) (ls' := [some (.ref 8), some (.int (Int32.ofInt y)), some (.int (Int32.ofInt (f_8 : Int))), some (.int (Int32.ofInt (k_7 : Int))), w9, w10, w11]) (st' := [.int (Int32.ofInt 144), .int (Int32.ofInt (k_7 : Int))]) (σ' := (zN L X (zhi s12) R G nc ns)) (fun n => rfl) ?_
          refine zW.jcmp_ge rfl (by omega) (fun c20 => ?_) (fun c20 => ?_)
          · skip
            exact zW.vret rfl (hQ0 s12 V13)
          · skip
            refine zW.run 1 (pc' := 40) (ls' := [some (.ref 8), some (.int (Int32.ofInt y)), some (.int (Int32.ofInt (f_8 : Int))), some (.int (Int32.ofInt (k_7 : Int))), w9, w10, w11]) (st' := [.ref 8]) (σ' := (zN L X (zhi s12) R G nc ns)) (fun n => rfl) ?_
            refine zW.getf (v := .ref 17) rfl rfl (zr_8 S (f := 8) (by decide)) ?_
            refine zW.run 1 (pc' := 44) (ls' := [some (.ref 8), some (.int (Int32.ofInt y)), some (.int (Int32.ofInt (f_8 : Int))), some (.int (Int32.ofInt (k_7 : Int))), w9, w10, w11]) (st' := [.int (Int32.ofInt (k_7 : Int)), .ref 17]) (σ' := (zN L X (zhi s12) R G nc ns)) (fun n => rfl) ?_
            refine zW.jald (n := 144) (v := (s12 17 k_7)) rfl rfl (by decide) (by omega) rfl ?_
            refine zW.run 1 (pc' := 47) (ls' := [some (.ref 8), some (.int (Int32.ofInt y)), some (.int (Int32.ofInt (f_8 : Int))), some (.int (Int32.ofInt (k_7 : Int))), some (.int (Int32.ofInt (s12 17 k_7))), w10, w11]) (st' := []) (σ' := (zN L X (zhi s12) R G nc ns)) (fun n => rfl) ?_
            obtain ⟨u21, ru21, eu21⟩ := zj_n (s12 17 k_7)
            rw [eu21]
            refine zW.run 2 (pc' := 50) (ls' := [some (.ref 8), some (.int (Int32.ofInt y)), some (.int (Int32.ofInt (f_8 : Int))), some (.int (Int32.ofInt (k_7 : Int))), some (.int (Int32.ofInt u21)), some (.int (Int32.ofInt 0)), w11]) (st' := []) (σ' := (zN L X (zhi s12) R G nc ns)) (fun n => rfl) ?_
            have J29 : ∀ m : Nat, ∀ (d_22 : Nat) (f_23 : Nat) (w24 : Option Value) (s25 : zJ), zV g U F T B ph s25 → d_22 ≤ 4 → f_23 ≤ 144 → 5 - d_22 < m → zW ro 48 50 [some (.ref 8), some (.int (Int32.ofInt y)), some (.int (Int32.ofInt (f_23 : Int))), some (.int (Int32.ofInt (k_7 : Int))), some (.int (Int32.ofInt u21)), some (.int (Int32.ofInt (d_22 : Int))), w24] [] (zN L X (zhi s25) R G nc ns) Q := by
              intro m
              induction m with
              | zero => intros; omega
              | succ m ih30 =>
                intro d_22 f_23 w24 s25 V26 c27 c28 hm31
                refine zW.run 2 (pc' := 53) (ls' := [some (.ref 8), some (.int (Int32.ofInt y)), some (.int (Int32.ofInt (f_23 : Int))), some (.int (Int32.ofInt (k_7 : Int))), some (.int (Int32.ofInt u21)), some (.int (Int32.ofInt (d_22 : Int))), w24]) (st' := [.int (Int32.ofInt 4), .int (Int32.ofInt (d_22 : Int))]) (σ' := (zN L X (zhi s25) R G nc ns)) (fun n => rfl) ?_
                refine zW.jcmp_ge rfl (by omega) (fun c32 => ?_) (fun c32 => ?_)
                · skip
                  refine zW.jinc (ls' := [some (.ref 8), some (.int (Int32.ofInt y)), some (.int (Int32.ofInt (f_23 : Int))), some (.int (Int32.ofInt ((k_7 : Int) + 1))), some (.int (Int32.ofInt u21)), some (.int (Int32.ofInt (d_22 : Int))), w24]) rfl (Nat.le_of_ble_eq_true rfl) rfl rfl ?_
                  refine zW.run 1 (pc' := 27) (ls' := [some (.ref 8), some (.int (Int32.ofInt y)), some (.int (Int32.ofInt (f_23 : Int))), some (.int (Int32.ofInt ((k_7 : Int) + 1))), some (.int (Int32.ofInt u21)), some (.int (Int32.ofInt (d_22 : Int))), w24]) (st' := []) (σ' := (zN L X (zhi s25) R G nc ns)) (fun n => rfl) ?_
                  exact ih17 (k_7 + 1) f_23 (some (.int (Int32.ofInt u21))) (some (.int (Int32.ofInt (d_22 : Int)))) w24 s25 (zV_mono V26 (by omega) (by omega)) (by omega) (by omega) (by omega)
                · skip
                  refine zW.run 3 (pc' := 61) (ls' := [some (.ref 8), some (.int (Int32.ofInt y)), some (.int (Int32.ofInt (f_23 : Int))), some (.int (Int32.ofInt (k_7 : Int))), some (.int (Int32.ofInt u21)), some (.int (Int32.ofInt (d_22 : Int))), w24]) (st' := [.int (Int32.ofInt (d_22 : Int)), .int (Int32.ofInt u21), .ref 8]) (σ' := (zN L X (zhi s25) R G nc ns)) (fun n => rfl) ?_
                  refine zW.callV rfl (by decide) rfl rfl rfl rfl rfl (Nat.le_of_ble_eq_true rfl) ?_
                  refine t_Ground_next S (zV_zA V26) (x := u21) (d := (d_22 : Int)) (by omega) (by omega) (fun v_33 f34 => ?_)
                  show zW ro 48 64 [some (.ref 8), some (.int (Int32.ofInt y)), some (.int (Int32.ofInt (f_23 : Int))), some (.int (Int32.ofInt (k_7 : Int))), some (.int (Int32.ofInt u21)), some (.int (Int32.ofInt (d_22 : Int))), w24] [.int (Int32.ofInt v_33)] (zN L X (zhi s25) R G nc ns) Q
                  refine zW.run 3 (pc' := 69) (ls' := [some (.ref 8), some (.int (Int32.ofInt y)), some (.int (Int32.ofInt (f_23 : Int))), some (.int (Int32.ofInt (k_7 : Int))), some (.int (Int32.ofInt u21)), some (.int (Int32.ofInt (d_22 : Int))), some (.int (Int32.ofInt v_33))]) (st' := [.int (Int32.ofInt v_33), .ref 8]) (σ' := (zN L X (zhi s25) R G nc ns)) (fun n => rfl) ?_
                  refine zW.callV rfl (by decide) rfl rfl rfl rfl rfl (Nat.le_of_ble_eq_true rfl) ?_
                  refine t_Ground_isOn S (zV_zA V26) (x := v_33) (by omega) (fun f35 f36 => ?_) (fun f37 => ?_)
                  · skip
                    show zW ro 48 72 [some (.ref 8), some (.int (Int32.ofInt y)), some (.int (Int32.ofInt (f_23 : Int))), some (.int (Int32.ofInt (k_7 : Int))), some (.int (Int32.ofInt u21)), some (.int (Int32.ofInt (d_22 : Int))), some (.int (Int32.ofInt v_33))] [.int (Int32.ofInt 1)] (zN L X (zhi s25) R G nc ns) Q
                    refine zW.run 3 (pc' := 78) (ls' := [some (.ref 8), some (.int (Int32.ofInt y)), some (.int (Int32.ofInt (f_23 : Int))), some (.int (Int32.ofInt (k_7 : Int))), some (.int (Int32.ofInt u21)), some (.int (Int32.ofInt (d_22 : Int))), some (.int (Int32.ofInt v_33))]) (st' := [.int (Int32.ofInt u21), .ref 8]) (σ' := (zN L X (zhi s25) R G nc ns)) (fun n => rfl) ?_
                    refine zW.callV rfl (by decide) rfl rfl rfl rfl rfl (Nat.le_of_ble_eq_true rfl) ?_
                    refine t_Ground_isOn S (zV_zA V26) (x := u21) (by omega) (fun f38 f39 => ?_) (fun f40 => ?_)
                    · skip
                      show zW ro 48 81 [some (.ref 8), some (.int (Int32.ofInt y)), some (.int (Int32.ofInt (f_23 : Int))), some (.int (Int32.ofInt (k_7 : Int))), some (.int (Int32.ofInt u21)), some (.int (Int32.ofInt (d_22 : Int))), some (.int (Int32.ofInt v_33))] [.int (Int32.ofInt 1)] (zN L X (zhi s25) R G nc ns) Q
                      refine zW.run 2 (pc' := 85) (ls' := [some (.ref 8), some (.int (Int32.ofInt y)), some (.int (Int32.ofInt (f_23 : Int))), some (.int (Int32.ofInt (k_7 : Int))), some (.int (Int32.ofInt u21)), some (.int (Int32.ofInt (d_22 : Int))), some (.int (Int32.ofInt v_33))]) (st' := [.ref 8]) (σ' := (zN L X (zhi s25) R G nc ns)) (fun n => rfl) ?_
                      refine zW.getf (v := .ref 16) rfl rfl (zr_8 S (f := 7) (by decide)) ?_
                      refine zW.run 1 (pc' := 90) (ls' := [some (.ref 8), some (.int (Int32.ofInt y)), some (.int (Int32.ofInt (f_23 : Int))), some (.int (Int32.ofInt (k_7 : Int))), some (.int (Int32.ofInt u21)), some (.int (Int32.ofInt (d_22 : Int))), some (.int (Int32.ofInt v_33))]) (st' := [.int (Int32.ofInt v_33), .ref 16]) (σ' := (zN L X (zhi s25) R G nc ns)) (fun n => rfl) ?_
                      refine zW.jald (n := 144) (v := (s25 16 v_33.toNat)) rfl rfl (by decide) (by omega) rfl ?_
                      refine zW.run 1 (pc' := 92) (ls' := [some (.ref 8), some (.int (Int32.ofInt y)), some (.int (Int32.ofInt (f_23 : Int))), some (.int (Int32.ofInt (k_7 : Int))), some (.int (Int32.ofInt u21)), some (.int (Int32.ofInt (d_22 : Int))), some (.int (Int32.ofInt v_33))]) (st' := [.int (Int32.ofInt (-1)), .int (Int32.ofInt (s25 16 v_33.toNat))]) (σ' := (zN L X (zhi s25) R G nc ns)) (fun n => rfl) ?_
                      refine zW.icmp_ne rfl (fun _ => ?_) (fun _ => ?_)
                      · skip
                        refine zW.jinc (ls' := [some (.ref 8), some (.int (Int32.ofInt y)), some (.int (Int32.ofInt (f_23 : Int))), some (.int (Int32.ofInt (k_7 : Int))), some (.int (Int32.ofInt u21)), some (.int (Int32.ofInt ((d_22 : Int) + 1))), some (.int (Int32.ofInt v_33))]) rfl (Nat.le_of_ble_eq_true rfl) rfl rfl ?_
                        refine zW.run 1 (pc' := 50) (ls' := [some (.ref 8), some (.int (Int32.ofInt y)), some (.int (Int32.ofInt (f_23 : Int))), some (.int (Int32.ofInt (k_7 : Int))), some (.int (Int32.ofInt u21)), some (.int (Int32.ofInt ((d_22 : Int) + 1))), some (.int (Int32.ofInt v_33))]) (st' := []) (σ' := (zN L X (zhi s25) R G nc ns)) (fun n => rfl) ?_
                        exact ih30 (d_22 + 1) f_23 (some (.int (Int32.ofInt v_33))) s25 (zV_mono V26 (by omega) (by omega)) (by omega) (by omega) (by omega)
                      · skip
                        refine zW.run 2 (pc' := 99) (ls' := [some (.ref 8), some (.int (Int32.ofInt y)), some (.int (Int32.ofInt (f_23 : Int))), some (.int (Int32.ofInt (k_7 : Int))), some (.int (Int32.ofInt u21)), some (.int (Int32.ofInt (d_22 : Int))), some (.int (Int32.ofInt v_33))]) (st' := [.int (Int32.ofInt 144), .int (Int32.ofInt (f_23 : Int))]) (σ' := (zN L X (zhi s25) R G nc ns)) (fun n => rfl) ?_
                        refine zW.jcmp_ge rfl (by omega) (fun c42 => ?_) (fun c42 => ?_)
                        · skip
                          refine zW.jinc (ls' := [some (.ref 8), some (.int (Int32.ofInt y)), some (.int (Int32.ofInt (f_23 : Int))), some (.int (Int32.ofInt (k_7 : Int))), some (.int (Int32.ofInt u21)), some (.int (Int32.ofInt ((d_22 : Int) + 1))), some (.int (Int32.ofInt v_33))]) rfl (Nat.le_of_ble_eq_true rfl) rfl rfl ?_
                          refine zW.run 1 (pc' := 50) (ls' := [some (.ref 8), some (.int (Int32.ofInt y)), some (.int (Int32.ofInt (f_23 : Int))), some (.int (Int32.ofInt (k_7 : Int))), some (.int (Int32.ofInt u21)), some (.int (Int32.ofInt ((d_22 : Int) + 1))), some (.int (Int32.ofInt v_33))]) (st' := []) (σ' := (zN L X (zhi s25) R G nc ns)) (fun n => rfl) ?_
                          exact ih30 (d_22 + 1) f_23 (some (.int (Int32.ofInt v_33))) s25 (zV_mono V26 (by omega) (by omega)) (by omega) (by omega) (by omega)
                        · skip
                          refine zW.run 1 (pc' := 103) (ls' := [some (.ref 8), some (.int (Int32.ofInt y)), some (.int (Int32.ofInt (f_23 : Int))), some (.int (Int32.ofInt (k_7 : Int))), some (.int (Int32.ofInt u21)), some (.int (Int32.ofInt (d_22 : Int))), some (.int (Int32.ofInt v_33))]) (st' := [.ref 8]) (σ' := (zN L X (zhi s25) R G nc ns)) (fun n => rfl) ?_
                          refine zW.getf (v := .ref 16) rfl rfl (zr_8 S (f := 7) (by decide)) ?_
                          refine zW.run 2 (pc' := 109) (ls' := [some (.ref 8), some (.int (Int32.ofInt y)), some (.int (Int32.ofInt (f_23 : Int))), some (.int (Int32.ofInt (k_7 : Int))), some (.int (Int32.ofInt u21)), some (.int (Int32.ofInt (d_22 : Int))), some (.int (Int32.ofInt v_33))]) (st' := [.ref 8, .int (Int32.ofInt v_33), .ref 16]) (σ' := (zN L X (zhi s25) R G nc ns)) (fun n => rfl) ?_
                          refine zW.getf (v := .ref 16) rfl rfl (zr_8 S (f := 7) (by decide)) ?_
                          refine zW.run 1 (pc' := 114) (ls' := [some (.ref 8), some (.int (Int32.ofInt y)), some (.int (Int32.ofInt (f_23 : Int))), some (.int (Int32.ofInt (k_7 : Int))), some (.int (Int32.ofInt u21)), some (.int (Int32.ofInt (d_22 : Int))), some (.int (Int32.ofInt v_33))]) (st' := [.int (Int32.ofInt u21), .ref 16, .int (Int32.ofInt v_33), .ref 16]) (σ' := (zN L X (zhi s25) R G nc ns)) (fun n => rfl) ?_
                          refine zW.jald (n := 144) (v := (s25 16 u21.toNat)) rfl rfl (by decide) (by omega) rfl ?_
                          refine zW.run 1 (pc' := 116) (ls' := [some (.ref 8), some (.int (Int32.ofInt y)), some (.int (Int32.ofInt (f_23 : Int))), some (.int (Int32.ofInt (k_7 : Int))), some (.int (Int32.ofInt u21)), some (.int (Int32.ofInt (d_22 : Int))), some (.int (Int32.ofInt v_33))]) (st' := [.int (Int32.ofInt 1), .int (Int32.ofInt (s25 16 u21.toNat)), .int (Int32.ofInt v_33), .ref 16]) (σ' := (zN L X (zhi s25) R G nc ns)) (fun n => rfl) ?_
                          refine zW.jadd rfl ?_
                          refine zW.jast (n := 144) rfl rfl (by decide) (by omega) ?_
                          refine zW.run 1 (pc' := 119) (ls' := [some (.ref 8), some (.int (Int32.ofInt y)), some (.int (Int32.ofInt (f_23 : Int))), some (.int (Int32.ofInt (k_7 : Int))), some (.int (Int32.ofInt u21)), some (.int (Int32.ofInt (d_22 : Int))), some (.int (Int32.ofInt v_33))]) (st' := [.ref 8]) (σ' := (zN L X (zhi (zup s25 16 v_33.toNat ((s25 16 u21.toNat) + 1))) R G nc ns)) (fun n => rfl) ?_
                          refine zW.getf (v := .ref 17) rfl rfl (zr_8 S (f := 8) (by decide)) ?_
                          refine zW.run 2 (pc' := 125) (ls' := [some (.ref 8), some (.int (Int32.ofInt y)), some (.int (Int32.ofInt (f_23 : Int))), some (.int (Int32.ofInt (k_7 : Int))), some (.int (Int32.ofInt u21)), some (.int (Int32.ofInt (d_22 : Int))), some (.int (Int32.ofInt v_33))]) (st' := [.int (Int32.ofInt v_33), .int (Int32.ofInt (f_23 : Int)), .ref 17]) (σ' := (zN L X (zhi (zup s25 16 v_33.toNat ((s25 16 u21.toNat) + 1))) R G nc ns)) (fun n => rfl) ?_
                          refine zW.jast (n := 144) rfl rfl (by decide) (by omega) ?_
                          refine zW.jinc (ls' := [some (.ref 8), some (.int (Int32.ofInt y)), some (.int (Int32.ofInt ((f_23 : Int) + 1))), some (.int (Int32.ofInt (k_7 : Int))), some (.int (Int32.ofInt u21)), some (.int (Int32.ofInt (d_22 : Int))), some (.int (Int32.ofInt v_33))]) rfl (Nat.le_of_ble_eq_true rfl) rfl rfl ?_
                          refine zW.jinc (ls' := [some (.ref 8), some (.int (Int32.ofInt y)), some (.int (Int32.ofInt ((f_23 : Int) + 1))), some (.int (Int32.ofInt (k_7 : Int))), some (.int (Int32.ofInt u21)), some (.int (Int32.ofInt ((d_22 : Int) + 1))), some (.int (Int32.ofInt v_33))]) rfl (Nat.le_of_ble_eq_true rfl) rfl rfl ?_
                          refine zW.run 1 (pc' := 50) (ls' := [some (.ref 8), some (.int (Int32.ofInt y)), some (.int (Int32.ofInt ((f_23 : Int) + 1))), some (.int (Int32.ofInt (k_7 : Int))), some (.int (Int32.ofInt u21)), some (.int (Int32.ofInt ((d_22 : Int) + 1))), some (.int (Int32.ofInt v_33))]) (st' := []) (σ' := (zN L X (zhi (zup (zup s25 16 v_33.toNat ((s25 16 u21.toNat) + 1)) 17 f_23 v_33)) R G nc ns)) (fun n => rfl) ?_
                          have V43 : zV g U F T B ph (zup (zup s25 16 v_33.toNat ((s25 16 u21.toNat) + 1)) 17 f_23 v_33) := (V_irr (V_irr V26 (by omega)) (by omega))
                          generalize hs44 : (zup (zup s25 16 v_33.toNat ((s25 16 u21.toNat) + 1)) 17 f_23 v_33) = s44 at V43 ⊢
                          exact ih30 (d_22 + 1) (f_23 + 1) (some (.int (Int32.ofInt v_33))) s44 (zV_mono V43 (by omega) (by omega)) (by omega) (by omega) (by omega)
                    · skip
                      show zW ro 48 81 [some (.ref 8), some (.int (Int32.ofInt y)), some (.int (Int32.ofInt (f_23 : Int))), some (.int (Int32.ofInt (k_7 : Int))), some (.int (Int32.ofInt u21)), some (.int (Int32.ofInt (d_22 : Int))), some (.int (Int32.ofInt v_33))] [.int (Int32.ofInt 0)] (zN L X (zhi s25) R G nc ns) Q
                      refine zW.run 1 (pc' := 129) (ls' := [some (.ref 8), some (.int (Int32.ofInt y)), some (.int (Int32.ofInt (f_23 : Int))), some (.int (Int32.ofInt (k_7 : Int))), some (.int (Int32.ofInt u21)), some (.int (Int32.ofInt (d_22 : Int))), some (.int (Int32.ofInt v_33))]) (st' := []) (σ' := (zN L X (zhi s25) R G nc ns)) (fun n => rfl) ?_
                      refine zW.jinc (ls' := [some (.ref 8), some (.int (Int32.ofInt y)), some (.int (Int32.ofInt (f_23 : Int))), some (.int (Int32.ofInt (k_7 : Int))), some (.int (Int32.ofInt u21)), some (.int (Int32.ofInt ((d_22 : Int) + 1))), some (.int (Int32.ofInt v_33))]) rfl (Nat.le_of_ble_eq_true rfl) rfl rfl ?_
                      refine zW.run 1 (pc' := 50) (ls' := [some (.ref 8), some (.int (Int32.ofInt y)), some (.int (Int32.ofInt (f_23 : Int))), some (.int (Int32.ofInt (k_7 : Int))), some (.int (Int32.ofInt u21)), some (.int (Int32.ofInt ((d_22 : Int) + 1))), some (.int (Int32.ofInt v_33))]) (st' := []) (σ' := (zN L X (zhi s25) R G nc ns)) (fun n => rfl) ?_
                      exact ih30 (d_22 + 1) f_23 (some (.int (Int32.ofInt v_33))) s25 (zV_mono V26 (by omega) (by omega)) (by omega) (by omega) (by omega)
                  · skip
                    show zW ro 48 72 [some (.ref 8), some (.int (Int32.ofInt y)), some (.int (Int32.ofInt (f_23 : Int))), some (.int (Int32.ofInt (k_7 : Int))), some (.int (Int32.ofInt u21)), some (.int (Int32.ofInt (d_22 : Int))), some (.int (Int32.ofInt v_33))] [.int (Int32.ofInt 0)] (zN L X (zhi s25) R G nc ns) Q
                    refine zW.run 1 (pc' := 129) (ls' := [some (.ref 8), some (.int (Int32.ofInt y)), some (.int (Int32.ofInt (f_23 : Int))), some (.int (Int32.ofInt (k_7 : Int))), some (.int (Int32.ofInt u21)), some (.int (Int32.ofInt (d_22 : Int))), some (.int (Int32.ofInt v_33))]) (st' := []) (σ' := (zN L X (zhi s25) R G nc ns)) (fun n => rfl) ?_
                    refine zW.jinc (ls' := [some (.ref 8), some (.int (Int32.ofInt y)), some (.int (Int32.ofInt (f_23 : Int))), some (.int (Int32.ofInt (k_7 : Int))), some (.int (Int32.ofInt u21)), some (.int (Int32.ofInt ((d_22 : Int) + 1))), some (.int (Int32.ofInt v_33))]) rfl (Nat.le_of_ble_eq_true rfl) rfl rfl ?_
                    refine zW.run 1 (pc' := 50) (ls' := [some (.ref 8), some (.int (Int32.ofInt y)), some (.int (Int32.ofInt (f_23 : Int))), some (.int (Int32.ofInt (k_7 : Int))), some (.int (Int32.ofInt u21)), some (.int (Int32.ofInt ((d_22 : Int) + 1))), some (.int (Int32.ofInt v_33))]) (st' := []) (σ' := (zN L X (zhi s25) R G nc ns)) (fun n => rfl) ?_
                    exact ih30 (d_22 + 1) f_23 (some (.int (Int32.ofInt v_33))) s25 (zV_mono V26 (by omega) (by omega)) (by omega) (by omega) (by omega)
            exact J29 _ 0 f_8 w11 s12 (zV_mono V13 (by omega) (by omega)) (by omega) (by omega) (Nat.lt_succ_self _)
    exact J16 _ 0 1 none none none s6 (zV_mono V5 (by omega) (by omega)) (by omega) (by omega) (Nat.lt_succ_self _)
  · skip
    show zW ro 48 5 [some (.ref 8), some (.int (Int32.ofInt y)), none, none, none, none, none] [.int (Int32.ofInt 0)] (zN L X (zhi s) R G nc ns) Q
    refine zW.run 1 (pc' := 8) (ls' := [some (.ref 8), some (.int (Int32.ofInt y)), none, none, none, none, none]) (st' := []) (σ' := (zN L X (zhi s) R G nc ns)) (fun n => rfl) ?_
    exact zW.vret rfl (hQ0 s V)
set_option maxHeartbeats 4000000 in
theorem t_Duties_stepTo (S : zSR R) (V : zV g U F T B ph s) {i : Nat} {y : Int} (p0 : i < 12) (p1 : -2147483648 ≤ y ∧ y < 2147483648) (hQ0 : ∀ (v : Int) (s1 : zJ), zV g U F T B ph s1 → -1 ≤ v ∧ v < g 2 → Q (.inl (some (.int (Int32.ofInt v)))) (zN L X (zhi s1) R G nc ns)) : zW ro 54 0 (zfst [.ref 7, .ref (42 + i), .int (Int32.ofInt y)] 11) [] (zN L X (zhi s) R G nc ns) Q := by
  show zW ro 54 0 [some (.ref 7), some (.ref (42 + i)), some (.int (Int32.ofInt y)), none, none, none, none, none, none, none, none] [] (zN L X (zhi s) R G nc ns) Q
  have f1 := zA_geo (zV_zA V)
  have hB0 := zV_B V
  refine zW.run 1 (pc' := 1) (ls' := [some (.ref 7), some (.ref (42 + i)), some (.int (Int32.ofInt y)), none, none, none, none, none, none, none, none]) (st' := [.ref 7]) (σ' := (zN L X (zhi s) R G nc ns)) (fun n => rfl) ?_
  refine zW.getf (v := .ref 8) rfl rfl (zr_7_0 S) ?_
  refine zW.run 3 (pc' := 7) (ls' := [some (.ref 7), some (.ref (42 + i)), some (.int (Int32.ofInt y)), some (.ref 8), none, none, none, none, none, none, none]) (st' := [.int (Int32.ofInt y), .ref 8]) (σ' := (zN L X (zhi s) R G nc ns)) (fun n => rfl) ?_
  refine zW.callV rfl (by decide) rfl rfl rfl rfl rfl (Nat.le_of_ble_eq_true rfl) ?_
  refine t_Ground_isOn S (zV_zA V) (x := y) (by omega) (fun f2 f3 => ?_) (fun f4 => ?_)
  · skip
    show zW ro 54 10 [some (.ref 7), some (.ref (42 + i)), some (.int (Int32.ofInt y)), some (.ref 8), none, none, none, none, none, none, none] [.int (Int32.ofInt 1)] (zN L X (zhi s) R G nc ns) Q
    refine zW.run 3 (pc' := 17) (ls' := [some (.ref 7), some (.ref (42 + i)), some (.int (Int32.ofInt y)), some (.ref 8), none, none, none, none, none, none, none]) (st' := [.ref (42 + i), .ref 7]) (σ' := (zN L X (zhi s) R G nc ns)) (fun n => rfl) ?_
    have f5 := zV_com V (i := i) (by omega)
    refine zW.jget (v := (s (42 + i) 0)) rfl (zk_com (by omega)) (fun _ _ _ => rfl) rfl ?_
    refine zW.run 1 (pc' := 21) (ls' := [some (.ref 7), some (.ref (42 + i)), some (.int (Int32.ofInt y)), some (.ref 8), none, none, none, none, none, none, none]) (st' := [.int (Int32.ofInt y), .int (Int32.ofInt (s (42 + i) 0)), .ref 7]) (σ' := (zN L X (zhi s) R G nc ns)) (fun n => rfl) ?_
    refine zW.callS rfl rfl rfl rfl rfl (Nat.le_of_ble_eq_true rfl) ?_
    refine t_Duties_barWays S V (x := (s (42 + i) 0)) (y := y) (by omega) (by omega) (fun s6 V7 => ?_)
    show zW ro 54 24 [some (.ref 7), some (.ref (42 + i)), some (.int (Int32.ofInt y)), some (.ref 8), none, none, none, none, none, none, none] [] (zN L X (zhi s6) R G nc ns) Q
    refine zW.run 1 (pc' := 25) (ls' := [some (.ref 7), some (.ref (42 + i)), some (.int (Int32.ofInt y)), some (.ref 8), none, none, none, none, none, none, none]) (st' := [.ref 8]) (σ' := (zN L X (zhi s6) R G nc ns)) (fun n => rfl) ?_
    refine zW.getf (v := .ref 16) rfl rfl (zr_8 S (f := 7) (by decide)) ?_
    refine zW.run 1 (pc' := 29) (ls' := [some (.ref 7), some (.ref (42 + i)), some (.int (Int32.ofInt y)), some (.ref 8), none, none, none, none, none, none, none]) (st' := [.int (Int32.ofInt y), .ref 16]) (σ' := (zN L X (zhi s6) R G nc ns)) (fun n => rfl) ?_
    refine zW.jald (n := 144) (v := (s6 16 y.toNat)) rfl rfl (by decide) (by omega) rfl ?_
    refine zW.run 1 (pc' := 32) (ls' := [some (.ref 7), some (.ref (42 + i)), some (.int (Int32.ofInt y)), some (.ref 8), none, none, none, none, none, none, none]) (st' := [.int (Int32.ofInt (-2)), .int (Int32.ofInt (s6 16 y.toNat))]) (σ' := (zN L X (zhi s6) R G nc ns)) (fun n => rfl) ?_
    refine zW.icmp_ne rfl (fun _ => ?_) (fun _ => ?_)
    · skip
      refine zW.run 2 (pc' := 39) (ls' := [some (.ref 7), some (.ref (42 + i)), some (.int (Int32.ofInt y)), some (.ref 8), none, none, none, none, none, none, none]) (st' := [.int (Int32.ofInt y), .ref 8]) (σ' := (zN L X (zhi s6) R G nc ns)) (fun n => rfl) ?_
      refine zW.callS rfl rfl rfl rfl rfl (Nat.le_of_ble_eq_true rfl) ?_
      refine t_Duties_measureWays S V7 (y := y) (by omega) (fun s9 V10 => ?_)
      show zW ro 54 42 [some (.ref 7), some (.ref (42 + i)), some (.int (Int32.ofInt y)), some (.ref 8), none, none, none, none, none, none, none] [] (zN L X (zhi s9) R G nc ns) Q
      refine zW.run 7 (pc' := 57) (ls' := [some (.ref 7), some (.ref (42 + i)), some (.int (Int32.ofInt y)), some (.ref 8), some (.int (Int32.ofInt (-1))), some (.int (Int32.ofInt 144)), some (.ref 0), none, none, none, none]) (st' := [.ref 0]) (σ' := (zN L X (zhi s9) R G nc ns)) (fun n => rfl) ?_
      refine zW.alen rfl rfl (by decide) ?_
      show zW ro 54 58 [some (.ref 7), some (.ref (42 + i)), some (.int (Int32.ofInt y)), some (.ref 8), some (.int (Int32.ofInt (-1))), some (.int (Int32.ofInt 144)), some (.ref 0), none, none, none, none] [.int (Int32.ofInt 4)] (zN L X (zhi s9) R G nc ns) Q
      refine zW.run 3 (pc' := 63) (ls' := [some (.ref 7), some (.ref (42 + i)), some (.int (Int32.ofInt y)), some (.ref 8), some (.int (Int32.ofInt (-1))), some (.int (Int32.ofInt 144)), some (.ref 0), some (.int (Int32.ofInt 4)), some (.int (Int32.ofInt 0)), none, none]) (st' := []) (σ' := (zN L X (zhi s9) R G nc ns)) (fun n => rfl) ?_
      have J18 : ∀ m : Nat, ∀ (i_11 : Nat) (b_12 : Int) (l_13 : Int) (w14 : Option Value) (w15 : Option Value), i_11 ≤ 4 → -1 ≤ b_12 ∧ b_12 < g 2 → 5 - i_11 < m → zW ro 54 63 [some (.ref 7), some (.ref (42 + i)), some (.int (Int32.ofInt y)), some (.ref 8), some (.int (Int32.ofInt b_12)), some (.int (Int32.ofInt l_13)), some (.ref 0), some (.int (Int32.ofInt 4)), some (.int (Int32.ofInt (i_11 : Int))), w14, w15] [] (zN L X (zhi s9) R G nc ns) Q := by
        intro m
        induction m with
        | zero => intros; omega
        | succ m ih19 =>
          intro i_11 b_12 l_13 w14 w15 c16 c17 hm20
          refine zW.run 2 (pc' := 67) (ls' := [some (.ref 7), some (.ref (42 + i)), some (.int (Int32.ofInt y)), some (.ref 8), some (.int (Int32.ofInt b_12)), some (.int (Int32.ofInt l_13)), some (.ref 0), some (.int (Int32.ofInt 4)), some (.int (Int32.ofInt (i_11 : Int))), w14, w15]) (st' := [.int (Int32.ofInt 4), .int (Int32.ofInt (i_11 : Int))]) (σ' := (zN L X (zhi s9) R G nc ns)) (fun n => rfl) ?_
          refine zW.jcmp_ge rfl (by omega) (fun c21 => ?_) (fun c21 => ?_)
          · skip
            refine zW.run 1 (pc' := 141) (ls' := [some (.ref 7), some (.ref (42 + i)), some (.int (Int32.ofInt y)), some (.ref 8), some (.int (Int32.ofInt b_12)), some (.int (Int32.ofInt l_13)), some (.ref 0), some (.int (Int32.ofInt 4)), some (.int (Int32.ofInt (i_11 : Int))), w14, w15]) (st' := [.int (Int32.ofInt b_12)]) (σ' := (zN L X (zhi s9) R G nc ns)) (fun n => rfl) ?_
            exact zW.jret rfl rfl (hQ0 b_12 s9 V10 (by omega))
          · skip
            refine zW.run 2 (pc' := 74) (ls' := [some (.ref 7), some (.ref (42 + i)), some (.int (Int32.ofInt y)), some (.ref 8), some (.int (Int32.ofInt b_12)), some (.int (Int32.ofInt l_13)), some (.ref 0), some (.int (Int32.ofInt 4)), some (.int (Int32.ofInt (i_11 : Int))), w14, w15]) (st' := [.int (Int32.ofInt (i_11 : Int)), .ref 0]) (σ' := (zN L X (zhi s9) R G nc ns)) (fun n => rfl) ?_
            refine zW.jals (n := 4) (v := (s9 0 i_11)) rfl rfl (by decide) (by omega) rfl ?_
            have f22 := zA_st (zV_zA V10) (p := 0) (k := i_11) (by omega) (by omega)
            refine zW.run 3 (pc' := 79) (ls' := [some (.ref 7), some (.ref (42 + i)), some (.int (Int32.ofInt y)), some (.ref 8), some (.int (Int32.ofInt b_12)), some (.int (Int32.ofInt l_13)), some (.ref 0), some (.int (Int32.ofInt 4)), some (.int (Int32.ofInt (i_11 : Int))), some (.int (Int32.ofInt (s9 0 i_11))), w15]) (st' := [.ref (42 + i), .ref 8]) (σ' := (zN L X (zhi s9) R G nc ns)) (fun n => rfl) ?_
            have f23 := zV_com V10 (i := i) (by omega)
            refine zW.jget (v := (s9 (42 + i) 1)) rfl (zk_com (by omega)) (fun _ _ _ => rfl) rfl ?_
            refine zW.run 1 (pc' := 84) (ls' := [some (.ref 7), some (.ref (42 + i)), some (.int (Int32.ofInt y)), some (.ref 8), some (.int (Int32.ofInt b_12)), some (.int (Int32.ofInt l_13)), some (.ref 0), some (.int (Int32.ofInt 4)), some (.int (Int32.ofInt (i_11 : Int))), some (.int (Int32.ofInt (s9 0 i_11))), w15]) (st' := [.int (Int32.ofInt (s9 0 i_11)), .int (Int32.ofInt (s9 (42 + i) 1)), .ref 8]) (σ' := (zN L X (zhi s9) R G nc ns)) (fun n => rfl) ?_
            refine zW.callV rfl (by decide) rfl rfl rfl rfl rfl (Nat.le_of_ble_eq_true rfl) ?_
            refine t_Ground_next S (zV_zA V10) (x := (s9 (42 + i) 1)) (d := (s9 0 i_11)) (by omega) (by omega) (fun v_24 f25 => ?_)
            show zW ro 54 87 [some (.ref 7), some (.ref (42 + i)), some (.int (Int32.ofInt y)), some (.ref 8), some (.int (Int32.ofInt b_12)), some (.int (Int32.ofInt l_13)), some (.ref 0), some (.int (Int32.ofInt 4)), some (.int (Int32.ofInt (i_11 : Int))), some (.int (Int32.ofInt (s9 0 i_11))), w15] [.int (Int32.ofInt v_24)] (zN L X (zhi s9) R G nc ns) Q
            refine zW.run 3 (pc' := 92) (ls' := [some (.ref 7), some (.ref (42 + i)), some (.int (Int32.ofInt y)), some (.ref 8), some (.int (Int32.ofInt b_12)), some (.int (Int32.ofInt l_13)), some (.ref 0), some (.int (Int32.ofInt 4)), some (.int (Int32.ofInt (i_11 : Int))), some (.int (Int32.ofInt (s9 0 i_11))), some (.int (Int32.ofInt v_24))]) (st' := [.int (Int32.ofInt v_24), .ref 8]) (σ' := (zN L X (zhi s9) R G nc ns)) (fun n => rfl) ?_
            refine zW.callV rfl (by decide) rfl rfl rfl rfl rfl (Nat.le_of_ble_eq_true rfl) ?_
            refine t_Ground_isOn S (zV_zA V10) (x := v_24) (by omega) (fun f26 f27 => ?_) (fun f28 => ?_)
            · skip
              show zW ro 54 95 [some (.ref 7), some (.ref (42 + i)), some (.int (Int32.ofInt y)), some (.ref 8), some (.int (Int32.ofInt b_12)), some (.int (Int32.ofInt l_13)), some (.ref 0), some (.int (Int32.ofInt 4)), some (.int (Int32.ofInt (i_11 : Int))), some (.int (Int32.ofInt (s9 0 i_11))), some (.int (Int32.ofInt v_24))] [.int (Int32.ofInt 1)] (zN L X (zhi s9) R G nc ns) Q
              refine zW.run 2 (pc' := 99) (ls' := [some (.ref 7), some (.ref (42 + i)), some (.int (Int32.ofInt y)), some (.ref 8), some (.int (Int32.ofInt b_12)), some (.int (Int32.ofInt l_13)), some (.ref 0), some (.int (Int32.ofInt 4)), some (.int (Int32.ofInt (i_11 : Int))), some (.int (Int32.ofInt (s9 0 i_11))), some (.int (Int32.ofInt v_24))]) (st' := [.ref 8]) (σ' := (zN L X (zhi s9) R G nc ns)) (fun n => rfl) ?_
              refine zW.getf (v := .ref 16) rfl rfl (zr_8 S (f := 7) (by decide)) ?_
              refine zW.run 1 (pc' := 104) (ls' := [some (.ref 7), some (.ref (42 + i)), some (.int (Int32.ofInt y)), some (.ref 8), some (.int (Int32.ofInt b_12)), some (.int (Int32.ofInt l_13)), some (.ref 0), some (.int (Int32.ofInt 4)), some (.int (Int32.ofInt (i_11 : Int))), some (.int (Int32.ofInt (s9 0 i_11))), some (.int (Int32.ofInt v_24))]) (st' := [.int (Int32.ofInt v_24), .ref 16]) (σ' := (zN L X (zhi s9) R G nc ns)) (fun n => rfl) ?_
              refine zW.jald (n := 144) (v := (s9 16 v_24.toNat)) rfl rfl (by decide) (by omega) rfl ?_
              have J31 : ∀ (v29 : Int) (v30 : Int), (v29 = b_12 ∧ v30 = l_13) ∨ (v29 = b_12 ∧ v30 = l_13) ∨ (v29 = v_24 ∧ v30 = (s9 16 v_24.toNat)) → zW ro 54 133 [some (.ref 7), some (.ref (42 + i)), some (.int (Int32.ofInt y)), some (.ref 8), some (.int (Int32.ofInt v29)), some (.int (Int32.ofInt v30)), some (.ref 0), some (.int (Int32.ofInt 4)), some (.int (Int32.ofInt (i_11 : Int))), some (.int (Int32.ofInt (s9 0 i_11))), some (.int (Int32.ofInt v_24))] [] (zN L X (zhi s9) R G nc ns) Q := by
                intro v29 v30 c32
                refine zW.jinc (ls' := [some (.ref 7), some (.ref (42 + i)), some (.int (Int32.ofInt y)), some (.ref 8), some (.int (Int32.ofInt v29)), some (.int (Int32.ofInt v30)), some (.ref 0), some (.int (Int32.ofInt 4)), some (.int (Int32.ofInt ((i_11 : Int) + 1))), some (.int (Int32.ofInt (s9 0 i_11))), some (.int (Int32.ofInt v_24))]) rfl (Nat.le_of_ble_eq_true rfl) rfl rfl ?_
                refine zW.run 1 (pc' := 63) (ls' := [some (.ref 7), some (.ref (42 + i)), some (.int (Int32.ofInt y)), some (.ref 8), some (.int (Int32.ofInt v29)), some (.int (Int32.ofInt v30)), some (.ref 0), some (.int (Int32.ofInt 4)), some (.int (Int32.ofInt ((i_11 : Int) + 1))), some (.int (Int32.ofInt (s9 0 i_11))), some (.int (Int32.ofInt v_24))]) (st' := []) (σ' := (zN L X (zhi s9) R G nc ns)) (fun n => rfl) ?_
                exact ih19 (i_11 + 1) v29 v30 (some (.int (Int32.ofInt (s9 0 i_11)))) (some (.int (Int32.ofInt v_24))) (by omega) (by omega) (by omega)
              refine zW.if_lt rfl (fun _ => ?_) (fun _ => ?_)
              · skip
                exact J31 b_12 l_13 (by omega)
              · skip
                refine zW.run 1 (pc' := 109) (ls' := [some (.ref 7), some (.ref (42 + i)), some (.int (Int32.ofInt y)), some (.ref 8), some (.int (Int32.ofInt b_12)), some (.int (Int32.ofInt l_13)), some (.ref 0), some (.int (Int32.ofInt 4)), some (.int (Int32.ofInt (i_11 : Int))), some (.int (Int32.ofInt (s9 0 i_11))), some (.int (Int32.ofInt v_24))]) (st' := [.ref 8]) (σ' := (zN L X (zhi s9) R G nc ns)) (fun n => rfl) ?_
                refine zW.getf (v := .ref 16) rfl rfl (zr_8 S (f := 7) (by decide)) ?_
                refine zW.run 1 (pc' := 114) (ls' := [some (.ref 7), some (.ref (42 + i)), some (.int (Int32.ofInt y)), some (.ref 8), some (.int (Int32.ofInt b_12)), some (.int (Int32.ofInt l_13)), some (.ref 0), some (.int (Int32.ofInt 4)), some (.int (Int32.ofInt (i_11 : Int))), some (.int (Int32.ofInt (s9 0 i_11))), some (.int (Int32.ofInt v_24))]) (st' := [.int (Int32.ofInt v_24), .ref 16]) (σ' := (zN L X (zhi s9) R G nc ns)) (fun n => rfl) ?_
                refine zW.jald (n := 144) (v := (s9 16 v_24.toNat)) rfl rfl (by decide) (by omega) rfl ?_
                refine zW.run 1 (pc' := 117) (ls' := [some (.ref 7), some (.ref (42 + i)), some (.int (Int32.ofInt y)), some (.ref 8), some (.int (Int32.ofInt b_12)), some (.int (Int32.ofInt l_13)), some (.ref 0), some (.int (Int32.ofInt 4)), some (.int (Int32.ofInt (i_11 : Int))), some (.int (Int32.ofInt (s9 0 i_11))), some (.int (Int32.ofInt v_24))]) (st' := [.int (Int32.ofInt l_13), .int (Int32.ofInt (s9 16 v_24.toNat))]) (σ' := (zN L X (zhi s9) R G nc ns)) (fun n => rfl) ?_
                refine zW.icmp_ge rfl (fun _ => ?_) (fun _ => ?_)
                · skip
                  exact J31 b_12 l_13 (by omega)
                · skip
                  refine zW.run 3 (pc' := 125) (ls' := [some (.ref 7), some (.ref (42 + i)), some (.int (Int32.ofInt y)), some (.ref 8), some (.int (Int32.ofInt v_24)), some (.int (Int32.ofInt l_13)), some (.ref 0), some (.int (Int32.ofInt 4)), some (.int (Int32.ofInt (i_11 : Int))), some (.int (Int32.ofInt (s9 0 i_11))), some (.int (Int32.ofInt v_24))]) (st' := [.ref 8]) (σ' := (zN L X (zhi s9) R G nc ns)) (fun n => rfl) ?_
                  refine zW.getf (v := .ref 16) rfl rfl (zr_8 S (f := 7) (by decide)) ?_
                  refine zW.run 1 (pc' := 130) (ls' := [some (.ref 7), some (.ref (42 + i)), some (.int (Int32.ofInt y)), some (.ref 8), some (.int (Int32.ofInt v_24)), some (.int (Int32.ofInt l_13)), some (.ref 0), some (.int (Int32.ofInt 4)), some (.int (Int32.ofInt (i_11 : Int))), some (.int (Int32.ofInt (s9 0 i_11))), some (.int (Int32.ofInt v_24))]) (st' := [.int (Int32.ofInt v_24), .ref 16]) (σ' := (zN L X (zhi s9) R G nc ns)) (fun n => rfl) ?_
                  refine zW.jald (n := 144) (v := (s9 16 v_24.toNat)) rfl rfl (by decide) (by omega) rfl ?_
                  refine zW.run 1 (pc' := 133) (ls' := [some (.ref 7), some (.ref (42 + i)), some (.int (Int32.ofInt y)), some (.ref 8), some (.int (Int32.ofInt v_24)), some (.int (Int32.ofInt (s9 16 v_24.toNat))), some (.ref 0), some (.int (Int32.ofInt 4)), some (.int (Int32.ofInt (i_11 : Int))), some (.int (Int32.ofInt (s9 0 i_11))), some (.int (Int32.ofInt v_24))]) (st' := []) (σ' := (zN L X (zhi s9) R G nc ns)) (fun n => rfl) ?_
                  exact J31 v_24 (s9 16 v_24.toNat) (by omega)
            · skip
              show zW ro 54 95 [some (.ref 7), some (.ref (42 + i)), some (.int (Int32.ofInt y)), some (.ref 8), some (.int (Int32.ofInt b_12)), some (.int (Int32.ofInt l_13)), some (.ref 0), some (.int (Int32.ofInt 4)), some (.int (Int32.ofInt (i_11 : Int))), some (.int (Int32.ofInt (s9 0 i_11))), some (.int (Int32.ofInt v_24))] [.int (Int32.ofInt 0)] (zN L X (zhi s9) R G nc ns) Q
              refine zW.run 1 (pc' := 133) (ls' := [some (.ref 7), some (.ref (42 + i)), some (.int (Int32.ofInt y)), some (.ref 8), some (.int (Int32.ofInt b_12)), some (.int (Int32.ofInt l_13)), some (.ref 0), some (.int (Int32.ofInt 4)), some (.int (Int32.ofInt (i_11 : Int))), some (.int (Int32.ofInt (s9 0 i_11))), some (.int (Int32.ofInt v_24))]) (st' := []) (σ' := (zN L X (zhi s9) R G nc ns)) (fun n => rfl) ?_
              refine zW.jinc (ls' := [some (.ref 7), some (.ref (42 + i)), some (.int (Int32.ofInt y)), some (.ref 8), some (.int (Int32.ofInt b_12)), some (.int (Int32.ofInt l_13)), some (.ref 0), some (.int (Int32.ofInt 4)), some (.int (Int32.ofInt ((i_11 : Int) + 1))), some (.int (Int32.ofInt (s9 0 i_11))), some (.int (Int32.ofInt v_24))]) rfl (Nat.le_of_ble_eq_true rfl) rfl rfl ?_
              refine zW.run 1 (pc' := 63) (ls' := [some (.ref 7), some (.ref (42 + i)), some (.int (Int32.ofInt y)), some (.ref 8), some (.int (Int32.ofInt b_12)), some (.int (Int32.ofInt l_13)), some (.ref 0), some (.int (Int32.ofInt 4)), some (.int (Int32.ofInt ((i_11 : Int) + 1))), some (.int (Int32.ofInt (s9 0 i_11))), some (.int (Int32.ofInt v_24))]) (st' := []) (σ' := (zN L X (zhi s9) R G nc ns)) (fun n => rfl) ?_
              exact ih19 (i_11 + 1) b_12 l_13 (some (.int (Int32.ofInt (s9 0 i_11)))) (some (.int (Int32.ofInt v_24))) (by omega) (by omega) (by omega)
      exact J18 _ 0 (-1) 144 none none (by omega) (by omega) (Nat.lt_succ_self _)
    · skip
      refine zW.run 1 (pc' := 36) (ls' := [some (.ref 7), some (.ref (42 + i)), some (.int (Int32.ofInt y)), some (.ref 8), none, none, none, none, none, none, none]) (st' := [.int (Int32.ofInt (-1))]) (σ' := (zN L X (zhi s6) R G nc ns)) (fun n => rfl) ?_
      exact zW.jret rfl rfl (hQ0 (-1) s6 V7 (by omega))
  · skip
    show zW ro 54 10 [some (.ref 7), some (.ref (42 + i)), some (.int (Int32.ofInt y)), some (.ref 8), none, none, none, none, none, none, none] [.int (Int32.ofInt 0)] (zN L X (zhi s) R G nc ns) Q
    refine zW.run 2 (pc' := 14) (ls' := [some (.ref 7), some (.ref (42 + i)), some (.int (Int32.ofInt y)), some (.ref 8), none, none, none, none, none, none, none]) (st' := [.int (Int32.ofInt (-1))]) (σ' := (zN L X (zhi s) R G nc ns)) (fun n => rfl) ?_
    exact zW.jret rfl rfl (hQ0 (-1) s V (by omega))
set_option maxHeartbeats 4000000 in
theorem t_Duties_goOn (S : zSR R) (V : zV g U F T B ph s) {i : Nat} (p0 : i < 12) (hQ0 : ∀ (s1 : zJ), zV g U F T B ph s1 → Q (.inl none) (zN L X (zhi s1) R G nc ns)) : zW ro 46 0 (zfst [.ref 7, .ref (42 + i)] 3) [] (zN L X (zhi s) R G nc ns) Q := by
  show zW ro 46 0 [some (.ref 7), some (.ref (42 + i)), none] [] (zN L X (zhi s) R G nc ns) Q
  have f1 := zA_geo (zV_zA V)
  have hB0 := zV_B V
  refine zW.run 1 (pc' := 1) (ls' := [some (.ref 7), some (.ref (42 + i)), none]) (st' := [.ref (42 + i)]) (σ' := (zN L X (zhi s) R G nc ns)) (fun n => rfl) ?_
  have f2 := zV_com V (i := i) (by omega)
  refine zW.jget (v := (s (42 + i) 1)) rfl (zk_com (by omega)) (fun _ _ _ => rfl) rfl ?_
  refine zW.run 1 (pc' := 5) (ls' := [some (.ref 7), some (.ref (42 + i)), none]) (st' := [.ref (42 + i), .int (Int32.ofInt (s (42 + i) 1))]) (σ' := (zN L X (zhi s) R G nc ns)) (fun n => rfl) ?_
  refine zW.jget (v := (s (42 + i) 5)) rfl (zk_com (by omega)) (fun _ _ _ => rfl) rfl ?_
  refine zW.jcmp_eq rfl (by omega) (fun c3 => ?_) (fun c3 => ?_)
  · skip
    refine zW.run 1 (pc' := 33) (ls' := [some (.ref 7), some (.ref (42 + i)), none]) (st' := [.ref (42 + i)]) (σ' := (zN L X (zhi s) R G nc ns)) (fun n => rfl) ?_
    refine zW.jget (v := (s (42 + i) 1)) rfl (zk_com (by omega)) (fun _ _ _ => rfl) rfl ?_
    refine zW.run 1 (pc' := 37) (ls' := [some (.ref 7), some (.ref (42 + i)), none]) (st' := [.ref (42 + i), .int (Int32.ofInt (s (42 + i) 1))]) (σ' := (zN L X (zhi s) R G nc ns)) (fun n => rfl) ?_
    refine zW.jget (v := (s (42 + i) 5)) rfl (zk_com (by omega)) (fun _ _ _ => rfl) rfl ?_
    refine zW.jcmp_ne rfl (by omega) (fun c4 => ?_) (fun c4 => ?_)
    · skip
      exact zW.vret rfl (hQ0 s V)
    · skip
      refine zW.run 1 (pc' := 44) (ls' := [some (.ref 7), some (.ref (42 + i)), none]) (st' := [.ref (42 + i)]) (σ' := (zN L X (zhi s) R G nc ns)) (fun n => rfl) ?_
      refine zW.callV rfl (by decide) rfl rfl rfl rfl (zk_com (by omega)) (Nat.le_of_ble_eq_true rfl) ?_
      refine t_Company_restNow S V (i := i) (by omega) (fun s5 V6 => ?_)
      show zW ro 46 47 [some (.ref 7), some (.ref (42 + i)), none] [] (zN L X (zhi s5) R G nc ns) Q
      exact zW.vret rfl (hQ0 s5 V6)
  · skip
    refine zW.run 3 (pc' := 14) (ls' := [some (.ref 7), some (.ref (42 + i)), none]) (st' := [.ref (42 + i), .ref (42 + i), .ref 7]) (σ' := (zN L X (zhi s) R G nc ns)) (fun n => rfl) ?_
    refine zW.jget (v := (s (42 + i) 5)) rfl (zk_com (by omega)) (fun _ _ _ => rfl) rfl ?_
    refine zW.callS rfl rfl rfl rfl rfl (Nat.le_of_ble_eq_true rfl) ?_
    refine t_Duties_stepTo S V (i := i) (y := (s (42 + i) 5)) (by omega) (by omega) (fun v_7 s8 V9 f10 => ?_)
    show zW ro 46 20 [some (.ref 7), some (.ref (42 + i)), none] [.int (Int32.ofInt v_7)] (zN L X (zhi s8) R G nc ns) Q
    refine zW.run 3 (pc' := 23) (ls' := [some (.ref 7), some (.ref (42 + i)), some (.int (Int32.ofInt v_7))]) (st' := [.int (Int32.ofInt (-1)), .int (Int32.ofInt v_7)]) (σ' := (zN L X (zhi s8) R G nc ns)) (fun n => rfl) ?_
    refine zW.jcmp_ne rfl (by omega) (fun c11 => ?_) (fun c11 => ?_)
    · skip
      refine zW.run 2 (pc' := 29) (ls' := [some (.ref 7), some (.ref (42 + i)), some (.int (Int32.ofInt v_7))]) (st' := [.int (Int32.ofInt v_7), .ref (42 + i)]) (σ' := (zN L X (zhi s8) R G nc ns)) (fun n => rfl) ?_
      refine zW.jput rfl (zk_com (by omega)) rfl ?_
      have V12 : zV g U F T B ph (zup s8 (42 + i) 1 v_7) := (V_csq V9 (by omega) (by omega))
      generalize hs13 : (zup s8 (42 + i) 1 v_7) = s13 at V12 ⊢
      refine zW.run 1 (pc' := 33) (ls' := [some (.ref 7), some (.ref (42 + i)), some (.int (Int32.ofInt v_7))]) (st' := [.ref (42 + i)]) (σ' := (zN L X (zhi s13) R G nc ns)) (fun n => rfl) ?_
      have f14 := zV_com V12 (i := i) (by omega)
      refine zW.jget (v := (s13 (42 + i) 1)) rfl (zk_com (by omega)) (fun _ _ _ => rfl) rfl ?_
      refine zW.run 1 (pc' := 37) (ls' := [some (.ref 7), some (.ref (42 + i)), some (.int (Int32.ofInt v_7))]) (st' := [.ref (42 + i), .int (Int32.ofInt (s13 (42 + i) 1))]) (σ' := (zN L X (zhi s13) R G nc ns)) (fun n => rfl) ?_
      refine zW.jget (v := (s13 (42 + i) 5)) rfl (zk_com (by omega)) (fun _ _ _ => rfl) rfl ?_
      refine zW.jcmp_ne rfl (by omega) (fun c15 => ?_) (fun c15 => ?_)
      · skip
        exact zW.vret rfl (hQ0 s13 V12)
      · skip
        refine zW.run 1 (pc' := 44) (ls' := [some (.ref 7), some (.ref (42 + i)), some (.int (Int32.ofInt v_7))]) (st' := [.ref (42 + i)]) (σ' := (zN L X (zhi s13) R G nc ns)) (fun n => rfl) ?_
        refine zW.callV rfl (by decide) rfl rfl rfl rfl (zk_com (by omega)) (Nat.le_of_ble_eq_true rfl) ?_
        refine t_Company_restNow S V12 (i := i) (by omega) (fun s16 V17 => ?_)
        show zW ro 46 47 [some (.ref 7), some (.ref (42 + i)), some (.int (Int32.ofInt v_7))] [] (zN L X (zhi s16) R G nc ns) Q
        exact zW.vret rfl (hQ0 s16 V17)
    · skip
      exact zW.vret rfl (hQ0 s8 V9)
set_option maxHeartbeats 4000000 in
theorem t_Duties_dig (S : zSR R) (V : zV g U F T B ph s) {i : Nat} (p0 : i < 12) (p1 : B + 20 ≤ 1000000000) (hQ0 : ∀ (s1 : zJ), zV g U F T (B + 20) ph s1 → Q (.inl none) (zN L X (zhi s1) R G nc ns)) : zW ro 45 0 (zfst [.ref 7, .ref (42 + i)] 5) [] (zN L X (zhi s) R G nc ns) Q := by
  show zW ro 45 0 [some (.ref 7), some (.ref (42 + i)), none, none, none] [] (zN L X (zhi s) R G nc ns) Q
  have f1 := zA_geo (zV_zA V)
  have hB0 := zV_B V
  refine zW.run 1 (pc' := 1) (ls' := [some (.ref 7), some (.ref (42 + i)), none, none, none]) (st' := [.ref 7]) (σ' := (zN L X (zhi s) R G nc ns)) (fun n => rfl) ?_
  refine zW.getf (v := .ref 8) rfl rfl (zr_7_0 S) ?_
  refine zW.run 2 (pc' := 6) (ls' := [some (.ref 7), some (.ref (42 + i)), some (.ref 8), none, none]) (st' := [.ref (42 + i)]) (σ' := (zN L X (zhi s) R G nc ns)) (fun n => rfl) ?_
  have f2 := zV_com V (i := i) (by omega)
  refine zW.jget (v := (s (42 + i) 5)) rfl (zk_com (by omega)) (fun _ _ _ => rfl) rfl ?_
  refine zW.run 3 (pc' := 12) (ls' := [some (.ref 7), some (.ref (42 + i)), some (.ref 8), some (.int (Int32.ofInt (s (42 + i) 5))), none]) (st' := [.int (Int32.ofInt (s (42 + i) 5)), .ref 8]) (σ' := (zN L X (zhi s) R G nc ns)) (fun n => rfl) ?_
  refine zW.callV rfl (by decide) rfl rfl rfl rfl rfl (Nat.le_of_ble_eq_true rfl) ?_
  refine t_Ground_isOn S (zV_zA V) (x := (s (42 + i) 5)) (by omega) (fun f3 f4 => ?_) (fun f5 => ?_)
  · skip
    show zW ro 45 15 [some (.ref 7), some (.ref (42 + i)), some (.ref 8), some (.int (Int32.ofInt (s (42 + i) 5))), none] [.int (Int32.ofInt 1)] (zN L X (zhi s) R G nc ns) Q
    refine zW.run 2 (pc' := 19) (ls' := [some (.ref 7), some (.ref (42 + i)), some (.ref 8), some (.int (Int32.ofInt (s (42 + i) 5))), none]) (st' := [.ref (42 + i)]) (σ' := (zN L X (zhi s) R G nc ns)) (fun n => rfl) ?_
    refine zW.jget (v := (s (42 + i) 0)) rfl (zk_com (by omega)) (fun _ _ _ => rfl) rfl ?_
    refine zW.jif_ne rfl (by omega) (fun c6 => ?_) (fun c6 => ?_)
    · skip
      exact zW.vret rfl (hQ0 s (zV_mono V (by omega) (by omega)))
    · skip
      refine zW.run 2 (pc' := 27) (ls' := [some (.ref 7), some (.ref (42 + i)), some (.ref 8), some (.int (Int32.ofInt (s (42 + i) 5))), none]) (st' := [.ref (42 + i), .ref 7]) (σ' := (zN L X (zhi s) R G nc ns)) (fun n => rfl) ?_
      refine zW.jget (v := (s (42 + i) 1)) rfl (zk_com (by omega)) (fun _ _ _ => rfl) rfl ?_
      refine zW.run 1 (pc' := 31) (ls' := [some (.ref 7), some (.ref (42 + i)), some (.ref 8), some (.int (Int32.ofInt (s (42 + i) 5))), none]) (st' := [.int (Int32.ofInt (s (42 + i) 5)), .int (Int32.ofInt (s (42 + i) 1)), .ref 7]) (σ' := (zN L X (zhi s) R G nc ns)) (fun n => rfl) ?_
      refine zW.callS rfl rfl rfl rfl rfl (Nat.le_of_ble_eq_true rfl) ?_
      refine t_Duties_canDig S V (a := (s (42 + i) 1)) (b := (s (42 + i) 5)) (by omega) (by omega) (fun f7 f8 f9 => ?_) ?_
      · skip
        show zW ro 45 34 [some (.ref 7), some (.ref (42 + i)), some (.ref 8), some (.int (Int32.ofInt (s (42 + i) 5))), none] [.int (Int32.ofInt 1)] (zN L X (zhi s) R G nc ns) Q
        refine zW.run 2 (pc' := 39) (ls' := [some (.ref 7), some (.ref (42 + i)), some (.ref 8), some (.int (Int32.ofInt (s (42 + i) 5))), none]) (st' := [.ref 8]) (σ' := (zN L X (zhi s) R G nc ns)) (fun n => rfl) ?_
        refine zW.getf (v := .ref 13) rfl rfl (zr_8 S (f := 4) (by decide)) ?_
        refine zW.run 2 (pc' := 44) (ls' := [some (.ref 7), some (.ref (42 + i)), some (.ref 8), some (.int (Int32.ofInt (s (42 + i) 5))), none]) (st' := [.int (Int32.ofInt (s (42 + i) 5)), .ref 13, .int (Int32.ofInt (s (42 + i) 5)), .ref 13]) (σ' := (zN L X (zhi s) R G nc ns)) (fun n => rfl) ?_
        refine zW.jald (n := 144) (v := (s 13 ((s (42 + i) 5).toNat))) rfl rfl (by decide) (by omega) rfl ?_
        have f10 := zV_sq V (k := (s (42 + i) 5).toNat) (by omega)
        refine zW.run 1 (pc' := 46) (ls' := [some (.ref 7), some (.ref (42 + i)), some (.ref 8), some (.int (Int32.ofInt (s (42 + i) 5))), none]) (st' := [.ref (42 + i), .int (Int32.ofInt (s 13 ((s (42 + i) 5).toNat))), .int (Int32.ofInt (s (42 + i) 5)), .ref 13]) (σ' := (zN L X (zhi s) R G nc ns)) (fun n => rfl) ?_
        refine zW.jget (v := (s (42 + i) 2)) rfl (zk_com (by omega)) (fun _ _ _ => rfl) rfl ?_
        refine zW.run 1 (pc' := 51) (ls' := [some (.ref 7), some (.ref (42 + i)), some (.ref 8), some (.int (Int32.ofInt (s (42 + i) 5))), none]) (st' := [.int (Int32.ofInt 10), .int (Int32.ofInt (s (42 + i) 2)), .int (Int32.ofInt (s 13 ((s (42 + i) 5).toNat))), .int (Int32.ofInt (s (42 + i) 5)), .ref 13]) (σ' := (zN L X (zhi s) R G nc ns)) (fun n => rfl) ?_
        refine zW.jdiv rfl (by omega) ?_
        refine zW.jadd rfl ?_
        refine zW.jast (n := 144) rfl rfl (by decide) (by omega) ?_
        have V11 : zV g U F T (B + 20) ph (zup s 13 ((s (42 + i) 5).toNat) ((s 13 ((s (42 + i) 5).toNat)) + ((s (42 + i) 2) / 10))) := (V_toil (zV_mono V (B2 := B + 20) (by omega) (by omega)) (by omega) (by omega))
        generalize hs12 : (zup s 13 ((s (42 + i) 5).toNat) ((s 13 ((s (42 + i) 5).toNat)) + ((s (42 + i) 2) / 10))) = s12 at V11 ⊢
        have k13 : s12 11 ((s (42 + i) 5).toNat) = (s 11 ((s (42 + i) 5).toNat)) := by rw [← hs12]; exact (zup_nj (by omega))
        refine zW.run 1 (pc' := 55) (ls' := [some (.ref 7), some (.ref (42 + i)), some (.ref 8), some (.int (Int32.ofInt (s (42 + i) 5))), none]) (st' := [.ref 8]) (σ' := (zN L X (zhi s12) R G nc ns)) (fun n => rfl) ?_
        refine zW.getf (v := .ref 13) rfl rfl (zr_8 S (f := 4) (by decide)) ?_
        refine zW.run 1 (pc' := 59) (ls' := [some (.ref 7), some (.ref (42 + i)), some (.ref 8), some (.int (Int32.ofInt (s (42 + i) 5))), none]) (st' := [.int (Int32.ofInt (s (42 + i) 5)), .ref 13]) (σ' := (zN L X (zhi s12) R G nc ns)) (fun n => rfl) ?_
        refine zW.jald (n := 144) (v := (s12 13 ((s (42 + i) 5).toNat))) rfl rfl (by decide) (by omega) rfl ?_
        have f14 := zV_sq V11 (k := (s (42 + i) 5).toNat) (by omega)
        refine zW.run 1 (pc' := 61) (ls' := [some (.ref 7), some (.ref (42 + i)), some (.ref 8), some (.int (Int32.ofInt (s (42 + i) 5))), none]) (st' := [.ref 8, .int (Int32.ofInt (s12 13 ((s (42 + i) 5).toNat)))]) (σ' := (zN L X (zhi s12) R G nc ns)) (fun n => rfl) ?_
        refine zW.getf (v := .ref 10) rfl rfl (zr_8 S (f := 1) (by decide)) ?_
        refine zW.run 1 (pc' := 65) (ls' := [some (.ref 7), some (.ref (42 + i)), some (.ref 8), some (.int (Int32.ofInt (s (42 + i) 5))), none]) (st' := [.int (Int32.ofInt (s (42 + i) 5)), .ref 10, .int (Int32.ofInt (s12 13 ((s (42 + i) 5).toNat)))]) (σ' := (zN L X (zhi s12) R G nc ns)) (fun n => rfl) ?_
        refine zW.jald (n := 144) (v := (s12 10 ((s (42 + i) 5).toNat))) rfl rfl (by decide) (by omega) rfl ?_
        refine zW.callS rfl rfl rfl rfl rfl (Nat.le_of_ble_eq_true rfl) ?_
        refine t_Duties_toilNeeded S (x := (s12 10 ((s (42 + i) 5).toNat))) (by omega) (fun v_15 f16 => ?_)
        show zW ro 45 69 [some (.ref 7), some (.ref (42 + i)), some (.ref 8), some (.int (Int32.ofInt (s (42 + i) 5))), none] [.int (Int32.ofInt v_15), .int (Int32.ofInt (s12 13 ((s (42 + i) 5).toNat)))] (zN L X (zhi s12) R G nc ns) Q
        refine zW.jcmp_ge rfl (by omega) (fun c17 => ?_) (fun c17 => ?_)
        · skip
          refine zW.run 3 (pc' := 77) (ls' := [some (.ref 7), some (.ref (42 + i)), some (.ref 8), some (.int (Int32.ofInt (s (42 + i) 5))), some (.int (Int32.ofInt 0))]) (st' := [.ref 8]) (σ' := (zN L X (zhi s12) R G nc ns)) (fun n => rfl) ?_
          refine zW.getf (v := .ref 10) rfl rfl (zr_8 S (f := 1) (by decide)) ?_
          refine zW.run 1 (pc' := 81) (ls' := [some (.ref 7), some (.ref (42 + i)), some (.ref 8), some (.int (Int32.ofInt (s (42 + i) 5))), some (.int (Int32.ofInt 0))]) (st' := [.int (Int32.ofInt (s (42 + i) 5)), .ref 10]) (σ' := (zN L X (zhi s12) R G nc ns)) (fun n => rfl) ?_
          refine zW.jald (n := 144) (v := (s12 10 ((s (42 + i) 5).toNat))) rfl rfl (by decide) (by omega) rfl ?_
          refine zW.run 1 (pc' := 83) (ls' := [some (.ref 7), some (.ref (42 + i)), some (.ref 8), some (.int (Int32.ofInt (s (42 + i) 5))), some (.int (Int32.ofInt 0))]) (st' := [.int (Int32.ofInt 2), .int (Int32.ofInt (s12 10 ((s (42 + i) 5).toNat)))]) (σ' := (zN L X (zhi s12) R G nc ns)) (fun n => rfl) ?_
          refine zW.jcmp_ne rfl (by omega) (fun c18 => ?_) (fun c18 => ?_)
          · skip
            refine zW.run 3 (pc' := 95) (ls' := [some (.ref 7), some (.ref (42 + i)), some (.ref 8), some (.int (Int32.ofInt (s (42 + i) 5))), some (.int (Int32.ofInt 0))]) (st' := [.int (Int32.ofInt (s (42 + i) 5)), .int (Int32.ofInt 1), .ref 7]) (σ' := (zN L X (zhi s12) R G nc ns)) (fun n => rfl) ?_
            refine zW.callS rfl rfl rfl rfl rfl (Nat.le_of_ble_eq_true rfl) ?_
            refine t_Gunnery_gunsSeeing S V11 (x := 1) (y := (s (42 + i) 5)) (by omega) (by omega) (fun v_19 f20 => ?_)
            show zW ro 45 98 [some (.ref 7), some (.ref (42 + i)), some (.ref 8), some (.int (Int32.ofInt (s (42 + i) 5))), some (.int (Int32.ofInt 0))] [.int (Int32.ofInt v_19)] (zN L X (zhi s12) R G nc ns) Q
            have J22 : ∀ (v21 : Int), (v_19 ≤ 0 ∧ v21 = 0) ∨ (v_19 > 0 ∧ v21 = 1) → zW ro 45 104 [some (.ref 7), some (.ref (42 + i)), some (.ref 8), some (.int (Int32.ofInt (s (42 + i) 5))), some (.int (Int32.ofInt v21))] [] (zN L X (zhi s12) R G nc ns) Q := by
              intro v21 c23
              refine zW.run 1 (pc' := 105) (ls' := [some (.ref 7), some (.ref (42 + i)), some (.ref 8), some (.int (Int32.ofInt (s (42 + i) 5))), some (.int (Int32.ofInt v21))]) (st' := [.ref 7]) (σ' := (zN L X (zhi s12) R G nc ns)) (fun n => rfl) ?_
              refine zW.getf (v := .ref 21) rfl rfl (zr_7_4 S) ?_
              have f24 := zV_sid V11 (o := 21) (by omega)
              refine zW.run 2 (pc' := 113) (ls' := [some (.ref 7), some (.ref (42 + i)), some (.ref 8), some (.int (Int32.ofInt (s (42 + i) 5))), some (.int (Int32.ofInt v21))]) (st' := [.int (Int32.ofInt v21), .int (Int32.ofInt (s12 21 2))]) (σ' := (zN L X (zhi s12) R G nc ns)) (fun n => rfl) ?_
              refine zW.jcmp_ge rfl (by omega) (fun c25 => ?_) (fun c25 => ?_)
              · skip
                refine zW.run 1 (pc' := 118) (ls' := [some (.ref 7), some (.ref (42 + i)), some (.ref 8), some (.int (Int32.ofInt (s (42 + i) 5))), some (.int (Int32.ofInt v21))]) (st' := [.ref 7]) (σ' := (zN L X (zhi s12) R G nc ns)) (fun n => rfl) ?_
                refine zW.getf (v := .ref 21) rfl rfl (zr_7_4 S) ?_
                refine zW.run 1 (pc' := 122) (ls' := [some (.ref 7), some (.ref (42 + i)), some (.ref 8), some (.int (Int32.ofInt (s (42 + i) 5))), some (.int (Int32.ofInt v21))]) (st' := [.ref 21, .ref 21]) (σ' := (zN L X (zhi s12) R G nc ns)) (fun n => rfl) ?_
                refine zW.run 2 (pc' := 127) (ls' := [some (.ref 7), some (.ref (42 + i)), some (.ref 8), some (.int (Int32.ofInt (s (42 + i) 5))), some (.int (Int32.ofInt v21))]) (st' := [.int (Int32.ofInt v21), .int (Int32.ofInt (s12 21 2)), .ref 21]) (σ' := (zN L X (zhi s12) R G nc ns)) (fun n => rfl) ?_
                refine zW.jsub rfl ?_
                refine zW.jput rfl rfl rfl ?_
                refine zW.run 1 (pc' := 132) (ls' := [some (.ref 7), some (.ref (42 + i)), some (.ref 8), some (.int (Int32.ofInt (s (42 + i) 5))), some (.int (Int32.ofInt v21))]) (st' := [.ref 8]) (σ' := (zN L X (zhi (zup s12 21 2 ((s12 21 2) - v21))) R G nc ns)) (fun n => rfl) ?_
                refine zW.getf (v := .ref 11) rfl rfl (zr_8 S (f := 2) (by decide)) ?_
                refine zW.run 2 (pc' := 137) (ls' := [some (.ref 7), some (.ref (42 + i)), some (.ref 8), some (.int (Int32.ofInt (s (42 + i) 5))), some (.int (Int32.ofInt v21))]) (st' := [.int (Int32.ofInt 5), .int (Int32.ofInt (s (42 + i) 5)), .ref 11]) (σ' := (zN L X (zhi (zup s12 21 2 ((s12 21 2) - v21))) R G nc ns)) (fun n => rfl) ?_
                refine zW.jast (n := 144) rfl rfl (by decide) (by omega) ?_
                refine zW.run 1 (pc' := 139) (ls' := [some (.ref 7), some (.ref (42 + i)), some (.ref 8), some (.int (Int32.ofInt (s (42 + i) 5))), some (.int (Int32.ofInt v21))]) (st' := [.ref 8]) (σ' := (zN L X (zhi (zup (zup s12 21 2 ((s12 21 2) - v21)) 11 ((s (42 + i) 5).toNat) 5)) R G nc ns)) (fun n => rfl) ?_
                refine zW.getf (v := .ref 13) rfl rfl (zr_8 S (f := 4) (by decide)) ?_
                refine zW.run 2 (pc' := 144) (ls' := [some (.ref 7), some (.ref (42 + i)), some (.ref 8), some (.int (Int32.ofInt (s (42 + i) 5))), some (.int (Int32.ofInt v21))]) (st' := [.int (Int32.ofInt 0), .int (Int32.ofInt (s (42 + i) 5)), .ref 13]) (σ' := (zN L X (zhi (zup (zup s12 21 2 ((s12 21 2) - v21)) 11 ((s (42 + i) 5).toNat) 5)) R G nc ns)) (fun n => rfl) ?_
                refine zW.jast (n := 144) rfl rfl (by decide) (by omega) ?_
                refine zW.run 2 (pc' := 147) (ls' := [some (.ref 7), some (.ref (42 + i)), some (.ref 8), some (.int (Int32.ofInt (s (42 + i) 5))), some (.int (Int32.ofInt v21))]) (st' := [.int (Int32.ofInt (s (42 + i) 5)), .ref (42 + i)]) (σ' := (zN L X (zhi (zup (zup (zup s12 21 2 ((s12 21 2) - v21)) 11 ((s (42 + i) 5).toNat) 5) 13 ((s (42 + i) 5).toNat) 0)) R G nc ns)) (fun n => rfl) ?_
                refine zW.jput rfl (zk_com (by omega)) rfl ?_
                refine zW.run 1 (pc' := 151) (ls' := [some (.ref 7), some (.ref (42 + i)), some (.ref 8), some (.int (Int32.ofInt (s (42 + i) 5))), some (.int (Int32.ofInt v21))]) (st' := [.ref (42 + i)]) (σ' := (zN L X (zhi (zup (zup (zup (zup s12 21 2 ((s12 21 2) - v21)) 11 ((s (42 + i) 5).toNat) 5) 13 ((s (42 + i) 5).toNat) 0) (42 + i) 1 (s (42 + i) 5))) R G nc ns)) (fun n => rfl) ?_
                have V26 : zV g U F T (B + 20) ph (zup (zup (zup (zup s12 21 2 ((s12 21 2) - v21)) 11 ((s (42 + i) 5).toNat) 5) 13 ((s (42 + i) 5).toNat) 0) (42 + i) 1 (s (42 + i) 5)) := (V_dig V11 (by omega) (by omega) (by omega) (by omega) (by omega) (by omega) (by omega))
                generalize hs27 : (zup (zup (zup (zup s12 21 2 ((s12 21 2) - v21)) 11 ((s (42 + i) 5).toNat) 5) 13 ((s (42 + i) 5).toNat) 0) (42 + i) 1 (s (42 + i) 5)) = s27 at V26 ⊢
                refine zW.callV rfl (by decide) rfl rfl rfl rfl (zk_com (by omega)) (Nat.le_of_ble_eq_true rfl) ?_
                refine t_Company_restNow S V26 (i := i) (by omega) (fun s28 V29 => ?_)
                show zW ro 45 154 [some (.ref 7), some (.ref (42 + i)), some (.ref 8), some (.int (Int32.ofInt (s (42 + i) 5))), some (.int (Int32.ofInt v21))] [] (zN L X (zhi s28) R G nc ns) Q
                exact zW.vret rfl (hQ0 s28 (zV_mono V29 (by omega) (by omega)))
              · skip
                exact zW.vret rfl (hQ0 s12 V11)
            refine zW.jif_le rfl (by omega) (fun c30 => ?_) (fun c30 => ?_)
            · skip
              exact J22 0 (by omega)
            · skip
              refine zW.run 2 (pc' := 104) (ls' := [some (.ref 7), some (.ref (42 + i)), some (.ref 8), some (.int (Int32.ofInt (s (42 + i) 5))), some (.int (Int32.ofInt 1))]) (st' := []) (σ' := (zN L X (zhi s12) R G nc ns)) (fun n => rfl) ?_
              exact J22 1 (by omega)
          · skip
            refine zW.run 4 (pc' := 105) (ls' := [some (.ref 7), some (.ref (42 + i)), some (.ref 8), some (.int (Int32.ofInt (s (42 + i) 5))), some (.int (Int32.ofInt 2))]) (st' := [.ref 7]) (σ' := (zN L X (zhi s12) R G nc ns)) (fun n => rfl) ?_
            refine zW.getf (v := .ref 21) rfl rfl (zr_7_4 S) ?_
            have f31 := zV_sid V11 (o := 21) (by omega)
            refine zW.run 2 (pc' := 113) (ls' := [some (.ref 7), some (.ref (42 + i)), some (.ref 8), some (.int (Int32.ofInt (s (42 + i) 5))), some (.int (Int32.ofInt 2))]) (st' := [.int (Int32.ofInt 2), .int (Int32.ofInt (s12 21 2))]) (σ' := (zN L X (zhi s12) R G nc ns)) (fun n => rfl) ?_
            refine zW.jcmp_ge rfl (by omega) (fun c32 => ?_) (fun c32 => ?_)
            · skip
              refine zW.run 1 (pc' := 118) (ls' := [some (.ref 7), some (.ref (42 + i)), some (.ref 8), some (.int (Int32.ofInt (s (42 + i) 5))), some (.int (Int32.ofInt 2))]) (st' := [.ref 7]) (σ' := (zN L X (zhi s12) R G nc ns)) (fun n => rfl) ?_
              refine zW.getf (v := .ref 21) rfl rfl (zr_7_4 S) ?_
              refine zW.run 1 (pc' := 122) (ls' := [some (.ref 7), some (.ref (42 + i)), some (.ref 8), some (.int (Int32.ofInt (s (42 + i) 5))), some (.int (Int32.ofInt 2))]) (st' := [.ref 21, .ref 21]) (σ' := (zN L X (zhi s12) R G nc ns)) (fun n => rfl) ?_
              refine zW.run 2 (pc' := 127) (ls' := [some (.ref 7), some (.ref (42 + i)), some (.ref 8), some (.int (Int32.ofInt (s (42 + i) 5))), some (.int (Int32.ofInt 2))]) (st' := [.int (Int32.ofInt 2), .int (Int32.ofInt (s12 21 2)), .ref 21]) (σ' := (zN L X (zhi s12) R G nc ns)) (fun n => rfl) ?_
              refine zW.jsub rfl ?_
              refine zW.jput rfl rfl rfl ?_
              refine zW.run 1 (pc' := 132) (ls' := [some (.ref 7), some (.ref (42 + i)), some (.ref 8), some (.int (Int32.ofInt (s (42 + i) 5))), some (.int (Int32.ofInt 2))]) (st' := [.ref 8]) (σ' := (zN L X (zhi (zup s12 21 2 ((s12 21 2) - 2))) R G nc ns)) (fun n => rfl) ?_
              refine zW.getf (v := .ref 11) rfl rfl (zr_8 S (f := 2) (by decide)) ?_
              refine zW.run 2 (pc' := 137) (ls' := [some (.ref 7), some (.ref (42 + i)), some (.ref 8), some (.int (Int32.ofInt (s (42 + i) 5))), some (.int (Int32.ofInt 2))]) (st' := [.int (Int32.ofInt 5), .int (Int32.ofInt (s (42 + i) 5)), .ref 11]) (σ' := (zN L X (zhi (zup s12 21 2 ((s12 21 2) - 2))) R G nc ns)) (fun n => rfl) ?_
              refine zW.jast (n := 144) rfl rfl (by decide) (by omega) ?_
              refine zW.run 1 (pc' := 139) (ls' := [some (.ref 7), some (.ref (42 + i)), some (.ref 8), some (.int (Int32.ofInt (s (42 + i) 5))), some (.int (Int32.ofInt 2))]) (st' := [.ref 8]) (σ' := (zN L X (zhi (zup (zup s12 21 2 ((s12 21 2) - 2)) 11 ((s (42 + i) 5).toNat) 5)) R G nc ns)) (fun n => rfl) ?_
              refine zW.getf (v := .ref 13) rfl rfl (zr_8 S (f := 4) (by decide)) ?_
              refine zW.run 2 (pc' := 144) (ls' := [some (.ref 7), some (.ref (42 + i)), some (.ref 8), some (.int (Int32.ofInt (s (42 + i) 5))), some (.int (Int32.ofInt 2))]) (st' := [.int (Int32.ofInt 0), .int (Int32.ofInt (s (42 + i) 5)), .ref 13]) (σ' := (zN L X (zhi (zup (zup s12 21 2 ((s12 21 2) - 2)) 11 ((s (42 + i) 5).toNat) 5)) R G nc ns)) (fun n => rfl) ?_
              refine zW.jast (n := 144) rfl rfl (by decide) (by omega) ?_
              refine zW.run 2 (pc' := 147) (ls' := [some (.ref 7), some (.ref (42 + i)), some (.ref 8), some (.int (Int32.ofInt (s (42 + i) 5))), some (.int (Int32.ofInt 2))]) (st' := [.int (Int32.ofInt (s (42 + i) 5)), .ref (42 + i)]) (σ' := (zN L X (zhi (zup (zup (zup s12 21 2 ((s12 21 2) - 2)) 11 ((s (42 + i) 5).toNat) 5) 13 ((s (42 + i) 5).toNat) 0)) R G nc ns)) (fun n => rfl) ?_
              refine zW.jput rfl (zk_com (by omega)) rfl ?_
              refine zW.run 1 (pc' := 151) (ls' := [some (.ref 7), some (.ref (42 + i)), some (.ref 8), some (.int (Int32.ofInt (s (42 + i) 5))), some (.int (Int32.ofInt 2))]) (st' := [.ref (42 + i)]) (σ' := (zN L X (zhi (zup (zup (zup (zup s12 21 2 ((s12 21 2) - 2)) 11 ((s (42 + i) 5).toNat) 5) 13 ((s (42 + i) 5).toNat) 0) (42 + i) 1 (s (42 + i) 5))) R G nc ns)) (fun n => rfl) ?_
              have V33 : zV g U F T (B + 20) ph (zup (zup (zup (zup s12 21 2 ((s12 21 2) - 2)) 11 ((s (42 + i) 5).toNat) 5) 13 ((s (42 + i) 5).toNat) 0) (42 + i) 1 (s (42 + i) 5)) := (V_dig V11 (by omega) (by omega) (by omega) (by omega) (by omega) (by omega) (by omega))
              generalize hs34 : (zup (zup (zup (zup s12 21 2 ((s12 21 2) - 2)) 11 ((s (42 + i) 5).toNat) 5) 13 ((s (42 + i) 5).toNat) 0) (42 + i) 1 (s (42 + i) 5)) = s34 at V33 ⊢
              refine zW.callV rfl (by decide) rfl rfl rfl rfl (zk_com (by omega)) (Nat.le_of_ble_eq_true rfl) ?_
              refine t_Company_restNow S V33 (i := i) (by omega) (fun s35 V36 => ?_)
              show zW ro 45 154 [some (.ref 7), some (.ref (42 + i)), some (.ref 8), some (.int (Int32.ofInt (s (42 + i) 5))), some (.int (Int32.ofInt 2))] [] (zN L X (zhi s35) R G nc ns) Q
              exact zW.vret rfl (hQ0 s35 (zV_mono V36 (by omega) (by omega)))
            · skip
              exact zW.vret rfl (hQ0 s12 V11)
        · skip
          exact zW.vret rfl (hQ0 s12 V11)
      · skip
        show zW ro 45 34 [some (.ref 7), some (.ref (42 + i)), some (.ref 8), some (.int (Int32.ofInt (s (42 + i) 5))), none] [.int (Int32.ofInt 0)] (zN L X (zhi s) R G nc ns) Q
        refine zW.run 1 (pc' := 37) (ls' := [some (.ref 7), some (.ref (42 + i)), some (.ref 8), some (.int (Int32.ofInt (s (42 + i) 5))), none]) (st' := []) (σ' := (zN L X (zhi s) R G nc ns)) (fun n => rfl) ?_
        exact zW.vret rfl (hQ0 s (zV_mono V (by omega) (by omega)))
  · skip
    show zW ro 45 15 [some (.ref 7), some (.ref (42 + i)), some (.ref 8), some (.int (Int32.ofInt (s (42 + i) 5))), none] [.int (Int32.ofInt 0)] (zN L X (zhi s) R G nc ns) Q
    refine zW.run 1 (pc' := 37) (ls' := [some (.ref 7), some (.ref (42 + i)), some (.ref 8), some (.int (Int32.ofInt (s (42 + i) 5))), none]) (st' := []) (σ' := (zN L X (zhi s) R G nc ns)) (fun n => rfl) ?_
    exact zW.vret rfl (hQ0 s (zV_mono V (by omega) (by omega)))
set_option maxHeartbeats 4000000 in
theorem t_Ground_shape_1 (S : zSR R) (A : zA g s) {x : Int} {a : Int} {b : Int} {d : Int} (p0 : 0 ≤ x ∧ x < g 2) (hQ0 : Q (.inl none) (zN L X (zhi (zup (zup (zup (zup (zup s 9 x.toNat a) 10 x.toNat b) 11 x.toNat 1) 12 x.toNat d) 13 x.toNat 0)) R G nc ns)) : zW ro 74 0 (zfst [.ref 8, .int (Int32.ofInt x), .int (Int32.ofInt a), .int (Int32.ofInt b), .int (Int32.ofInt 1), .int (Int32.ofInt d)] 6) [] (zN L X (zhi s) R G nc ns) Q := by
  show zW ro 74 0 [some (.ref 8), some (.int (Int32.ofInt x)), some (.int (Int32.ofInt a)), some (.int (Int32.ofInt b)), some (.int (Int32.ofInt 1)), some (.int (Int32.ofInt d))] [] (zN L X (zhi s) R G nc ns) Q
  have f1 := zA_geo A
  refine zW.run 2 (pc' := 2) (ls' := [some (.ref 8), some (.int (Int32.ofInt x)), some (.int (Int32.ofInt a)), some (.int (Int32.ofInt b)), some (.int (Int32.ofInt 1)), some (.int (Int32.ofInt d))]) (st' := [.int (Int32.ofInt x), .ref 8]) (σ' := (zN L X (zhi s) R G nc ns)) (fun n => rfl) ?_
  refine zW.callV rfl (by decide) rfl rfl rfl rfl rfl (Nat.le_of_ble_eq_true rfl) ?_
  refine t_Ground_isOn S A (x := x) (by omega) (fun f2 f3 => ?_) (fun f4 => ?_)
  · skip
    show zW ro 74 5 [some (.ref 8), some (.int (Int32.ofInt x)), some (.int (Int32.ofInt a)), some (.int (Int32.ofInt b)), some (.int (Int32.ofInt 1)), some (.int (Int32.ofInt d))] [.int (Int32.ofInt 1)] (zN L X (zhi s) R G nc ns) Q
    refine zW.run 2 (pc' := 9) (ls' := [some (.ref 8), some (.int (Int32.ofInt x)), some (.int (Int32.ofInt a)), some (.int (Int32.ofInt b)), some (.int (Int32.ofInt 1)), some (.int (Int32.ofInt d))]) (st' := [.ref 8]) (σ' := (zN L X (zhi s) R G nc ns)) (fun n => rfl) ?_
    refine zW.getf (v := .ref 9) rfl rfl (zr_8 S (f := 0) (by decide)) ?_
    refine zW.run 2 (pc' := 14) (ls' := [some (.ref 8), some (.int (Int32.ofInt x)), some (.int (Int32.ofInt a)), some (.int (Int32.ofInt b)), some (.int (Int32.ofInt 1)), some (.int (Int32.ofInt d))]) (st' := [.int (Int32.ofInt a), .int (Int32.ofInt x), .ref 9]) (σ' := (zN L X (zhi s) R G nc ns)) (fun n => rfl) ?_
    refine zW.jast (n := 144) rfl rfl (by decide) (by omega) ?_
    refine zW.run 1 (pc' := 16) (ls' := [some (.ref 8), some (.int (Int32.ofInt x)), some (.int (Int32.ofInt a)), some (.int (Int32.ofInt b)), some (.int (Int32.ofInt 1)), some (.int (Int32.ofInt d))]) (st' := [.ref 8]) (σ' := (zN L X (zhi (zup s 9 x.toNat a)) R G nc ns)) (fun n => rfl) ?_
    refine zW.getf (v := .ref 10) rfl rfl (zr_8 S (f := 1) (by decide)) ?_
    refine zW.run 2 (pc' := 21) (ls' := [some (.ref 8), some (.int (Int32.ofInt x)), some (.int (Int32.ofInt a)), some (.int (Int32.ofInt b)), some (.int (Int32.ofInt 1)), some (.int (Int32.ofInt d))]) (st' := [.int (Int32.ofInt b), .int (Int32.ofInt x), .ref 10]) (σ' := (zN L X (zhi (zup s 9 x.toNat a)) R G nc ns)) (fun n => rfl) ?_
    refine zW.jast (n := 144) rfl rfl (by decide) (by omega) ?_
    refine zW.run 1 (pc' := 23) (ls' := [some (.ref 8), some (.int (Int32.ofInt x)), some (.int (Int32.ofInt a)), some (.int (Int32.ofInt b)), some (.int (Int32.ofInt 1)), some (.int (Int32.ofInt d))]) (st' := [.ref 8]) (σ' := (zN L X (zhi (zup (zup s 9 x.toNat a) 10 x.toNat b)) R G nc ns)) (fun n => rfl) ?_
    refine zW.getf (v := .ref 11) rfl rfl (zr_8 S (f := 2) (by decide)) ?_
    refine zW.run 2 (pc' := 29) (ls' := [some (.ref 8), some (.int (Int32.ofInt x)), some (.int (Int32.ofInt a)), some (.int (Int32.ofInt b)), some (.int (Int32.ofInt 1)), some (.int (Int32.ofInt d))]) (st' := [.int (Int32.ofInt 1), .int (Int32.ofInt x), .ref 11]) (σ' := (zN L X (zhi (zup (zup s 9 x.toNat a) 10 x.toNat b)) R G nc ns)) (fun n => rfl) ?_
    refine zW.jast (n := 144) rfl rfl (by decide) (by omega) ?_
    refine zW.run 1 (pc' := 31) (ls' := [some (.ref 8), some (.int (Int32.ofInt x)), some (.int (Int32.ofInt a)), some (.int (Int32.ofInt b)), some (.int (Int32.ofInt 1)), some (.int (Int32.ofInt d))]) (st' := [.ref 8]) (σ' := (zN L X (zhi (zup (zup (zup s 9 x.toNat a) 10 x.toNat b) 11 x.toNat 1)) R G nc ns)) (fun n => rfl) ?_
    refine zW.getf (v := .ref 12) rfl rfl (zr_8 S (f := 3) (by decide)) ?_
    refine zW.run 6 (pc' := 47) (ls' := [some (.ref 8), some (.int (Int32.ofInt x)), some (.int (Int32.ofInt a)), some (.int (Int32.ofInt b)), some (.int (Int32.ofInt 1)), some (.int (Int32.ofInt d))]) (st' := [.int (Int32.ofInt d), .int (Int32.ofInt x), .ref 12]) (σ' := (zN L X (zhi (zup (zup (zup s 9 x.toNat a) 10 x.toNat b) 11 x.toNat 1)) R G nc ns)) (fun n => rfl) ?_
    refine zW.jast (n := 144) rfl rfl (by decide) (by omega) ?_
    refine zW.run 1 (pc' := 49) (ls' := [some (.ref 8), some (.int (Int32.ofInt x)), some (.int (Int32.ofInt a)), some (.int (Int32.ofInt b)), some (.int (Int32.ofInt 1)), some (.int (Int32.ofInt d))]) (st' := [.ref 8]) (σ' := (zN L X (zhi (zup (zup (zup (zup s 9 x.toNat a) 10 x.toNat b) 11 x.toNat 1) 12 x.toNat d)) R G nc ns)) (fun n => rfl) ?_
    refine zW.getf (v := .ref 13) rfl rfl (zr_8 S (f := 4) (by decide)) ?_
    refine zW.run 2 (pc' := 54) (ls' := [some (.ref 8), some (.int (Int32.ofInt x)), some (.int (Int32.ofInt a)), some (.int (Int32.ofInt b)), some (.int (Int32.ofInt 1)), some (.int (Int32.ofInt d))]) (st' := [.int (Int32.ofInt 0), .int (Int32.ofInt x), .ref 13]) (σ' := (zN L X (zhi (zup (zup (zup (zup s 9 x.toNat a) 10 x.toNat b) 11 x.toNat 1) 12 x.toNat d)) R G nc ns)) (fun n => rfl) ?_
    refine zW.jast (n := 144) rfl rfl (by decide) (by omega) ?_
    exact zW.vret rfl hQ0
  · skip
    show zW ro 74 5 [some (.ref 8), some (.int (Int32.ofInt x)), some (.int (Int32.ofInt a)), some (.int (Int32.ofInt b)), some (.int (Int32.ofInt 1)), some (.int (Int32.ofInt d))] [.int (Int32.ofInt 0)] (zN L X (zhi s) R G nc ns) Q
    refine zW.run 1 (pc' := 55) (ls' := [some (.ref 8), some (.int (Int32.ofInt x)), some (.int (Int32.ofInt a)), some (.int (Int32.ofInt b)), some (.int (Int32.ofInt 1)), some (.int (Int32.ofInt d))]) (st' := []) (σ' := (zN L X (zhi s) R G nc ns)) (fun n => rfl) ?_
    exfalso; omega
set_option maxHeartbeats 4000000 in
theorem t_Duties_mend (S : zSR R) (V : zV g U F T B ph s) {i : Nat} (p0 : i < 12) (p1 : B + 20 ≤ 1000000000) (hQ0 : ∀ (s1 : zJ), zV g U F T (B + 20) ph s1 → Q (.inl none) (zN L X (zhi s1) R G nc ns)) : zW ro 49 0 (zfst [.ref 7, .ref (42 + i)] 5) [] (zN L X (zhi s) R G nc ns) Q := by
  show zW ro 49 0 [some (.ref 7), some (.ref (42 + i)), none, none, none] [] (zN L X (zhi s) R G nc ns) Q
  have f1 := zA_geo (zV_zA V)
  have hB0 := zV_B V
  refine zW.run 1 (pc' := 1) (ls' := [some (.ref 7), some (.ref (42 + i)), none, none, none]) (st' := [.ref 7]) (σ' := (zN L X (zhi s) R G nc ns)) (fun n => rfl) ?_
  refine zW.getf (v := .ref 8) rfl rfl (zr_7_0 S) ?_
  refine zW.run 2 (pc' := 6) (ls' := [some (.ref 7), some (.ref (42 + i)), some (.ref 8), none, none]) (st' := [.ref (42 + i)]) (σ' := (zN L X (zhi s) R G nc ns)) (fun n => rfl) ?_
  have f2 := zV_com V (i := i) (by omega)
  refine zW.jget (v := (s (42 + i) 5)) rfl (zk_com (by omega)) (fun _ _ _ => rfl) rfl ?_
  refine zW.run 3 (pc' := 12) (ls' := [some (.ref 7), some (.ref (42 + i)), some (.ref 8), some (.int (Int32.ofInt (s (42 + i) 5))), none]) (st' := [.int (Int32.ofInt (s (42 + i) 5)), .ref 8]) (σ' := (zN L X (zhi s) R G nc ns)) (fun n => rfl) ?_
  refine zW.callV rfl (by decide) rfl rfl rfl rfl rfl (Nat.le_of_ble_eq_true rfl) ?_
  refine t_Ground_isOn S (zV_zA V) (x := (s (42 + i) 5)) (by omega) (fun f3 f4 => ?_) (fun f5 => ?_)
  · skip
    show zW ro 49 15 [some (.ref 7), some (.ref (42 + i)), some (.ref 8), some (.int (Int32.ofInt (s (42 + i) 5))), none] [.int (Int32.ofInt 1)] (zN L X (zhi s) R G nc ns) Q
    refine zW.run 2 (pc' := 19) (ls' := [some (.ref 7), some (.ref (42 + i)), some (.ref 8), some (.int (Int32.ofInt (s (42 + i) 5))), none]) (st' := [.ref (42 + i)]) (σ' := (zN L X (zhi s) R G nc ns)) (fun n => rfl) ?_
    refine zW.jget (v := (s (42 + i) 0)) rfl (zk_com (by omega)) (fun _ _ _ => rfl) rfl ?_
    refine zW.run 1 (pc' := 23) (ls' := [some (.ref 7), some (.ref (42 + i)), some (.ref 8), some (.int (Int32.ofInt (s (42 + i) 5))), none]) (st' := [.int (Int32.ofInt 1), .int (Int32.ofInt (s (42 + i) 0))]) (σ' := (zN L X (zhi s) R G nc ns)) (fun n => rfl) ?_
    refine zW.jcmp_ne rfl (by omega) (fun c6 => ?_) (fun c6 => ?_)
    · skip
      exact zW.vret rfl (hQ0 s (zV_mono V (by omega) (by omega)))
    · skip
      refine zW.run 2 (pc' := 28) (ls' := [some (.ref 7), some (.ref (42 + i)), some (.ref 8), some (.int (Int32.ofInt (s (42 + i) 5))), none]) (st' := [.ref (42 + i), .int (Int32.ofInt (s (42 + i) 5))]) (σ' := (zN L X (zhi s) R G nc ns)) (fun n => rfl) ?_
      refine zW.jget (v := (s (42 + i) 1)) rfl (zk_com (by omega)) (fun _ _ _ => rfl) rfl ?_
      refine zW.jcmp_eq rfl (by omega) (fun c7 => ?_) (fun c7 => ?_)
      · skip
        refine zW.run 1 (pc' := 48) (ls' := [some (.ref 7), some (.ref (42 + i)), some (.ref 8), some (.int (Int32.ofInt (s (42 + i) 5))), none]) (st' := [.ref 8]) (σ' := (zN L X (zhi s) R G nc ns)) (fun n => rfl) ?_
        refine zW.getf (v := .ref 11) rfl rfl (zr_8 S (f := 2) (by decide)) ?_
        refine zW.run 1 (pc' := 52) (ls' := [some (.ref 7), some (.ref (42 + i)), some (.ref 8), some (.int (Int32.ofInt (s (42 + i) 5))), none]) (st' := [.int (Int32.ofInt (s (42 + i) 5)), .ref 11]) (σ' := (zN L X (zhi s) R G nc ns)) (fun n => rfl) ?_
        refine zW.jald (n := 144) (v := (s 11 ((s (42 + i) 5).toNat))) rfl rfl (by decide) (by omega) rfl ?_
        have f8 := zV_sq V (k := (s (42 + i) 5).toNat) (by omega)
        refine zW.run 1 (pc' := 54) (ls' := [some (.ref 7), some (.ref (42 + i)), some (.ref 8), some (.int (Int32.ofInt (s (42 + i) 5))), none]) (st' := [.int (Int32.ofInt 1), .int (Int32.ofInt (s 11 ((s (42 + i) 5).toNat)))]) (σ' := (zN L X (zhi s) R G nc ns)) (fun n => rfl) ?_
        refine zW.jcmp_ne rfl (by omega) (fun c9 => ?_) (fun c9 => ?_)
        · skip
          refine zW.run 1 (pc' := 105) (ls' := [some (.ref 7), some (.ref (42 + i)), some (.ref 8), some (.int (Int32.ofInt (s (42 + i) 5))), none]) (st' := [.ref 8]) (σ' := (zN L X (zhi s) R G nc ns)) (fun n => rfl) ?_
          refine zW.getf (v := .ref 11) rfl rfl (zr_8 S (f := 2) (by decide)) ?_
          refine zW.run 1 (pc' := 109) (ls' := [some (.ref 7), some (.ref (42 + i)), some (.ref 8), some (.int (Int32.ofInt (s (42 + i) 5))), none]) (st' := [.int (Int32.ofInt (s (42 + i) 5)), .ref 11]) (σ' := (zN L X (zhi s) R G nc ns)) (fun n => rfl) ?_
          refine zW.jald (n := 144) (v := (s 11 ((s (42 + i) 5).toNat))) rfl rfl (by decide) (by omega) rfl ?_
          refine zW.run 1 (pc' := 112) (ls' := [some (.ref 7), some (.ref (42 + i)), some (.ref 8), some (.int (Int32.ofInt (s (42 + i) 5))), none]) (st' := [.int (Int32.ofInt 6), .int (Int32.ofInt (s 11 ((s (42 + i) 5).toNat)))]) (σ' := (zN L X (zhi s) R G nc ns)) (fun n => rfl) ?_
          refine zW.jcmp_ne rfl (by omega) (fun c10 => ?_) (fun c10 => ?_)
          · skip
            exact zW.vret rfl (hQ0 s (zV_mono V (by omega) (by omega)))
          · skip
            refine zW.run 3 (pc' := 118) (ls' := [some (.ref 7), some (.ref (42 + i)), some (.ref 8), some (.int (Int32.ofInt (s (42 + i) 5))), none]) (st' := [.int (Int32.ofInt (s (42 + i) 5)), .int (Int32.ofInt 0), .ref 7]) (σ' := (zN L X (zhi s) R G nc ns)) (fun n => rfl) ?_
            refine zW.callV rfl (by decide) rfl rfl rfl rfl rfl (Nat.le_of_ble_eq_true rfl) ?_
            refine t_Siege_isHeldBy S V (x := 0) (y := (s (42 + i) 5)) (by omega) (by omega) ?_ ?_
            · skip
              show zW ro 49 121 [some (.ref 7), some (.ref (42 + i)), some (.ref 8), some (.int (Int32.ofInt (s (42 + i) 5))), none] [.int (Int32.ofInt 1)] (zN L X (zhi s) R G nc ns) Q
              refine zW.run 1 (pc' := 124) (ls' := [some (.ref 7), some (.ref (42 + i)), some (.ref 8), some (.int (Int32.ofInt (s (42 + i) 5))), none]) (st' := []) (σ' := (zN L X (zhi s) R G nc ns)) (fun n => rfl) ?_
              exact zW.vret rfl (hQ0 s (zV_mono V (by omega) (by omega)))
            · skip
              show zW ro 49 121 [some (.ref 7), some (.ref (42 + i)), some (.ref 8), some (.int (Int32.ofInt (s (42 + i) 5))), none] [.int (Int32.ofInt 0)] (zN L X (zhi s) R G nc ns) Q
              refine zW.run 2 (pc' := 126) (ls' := [some (.ref 7), some (.ref (42 + i)), some (.ref 8), some (.int (Int32.ofInt (s (42 + i) 5))), none]) (st' := [.ref 8]) (σ' := (zN L X (zhi s) R G nc ns)) (fun n => rfl) ?_
              refine zW.getf (v := .ref 13) rfl rfl (zr_8 S (f := 4) (by decide)) ?_
              refine zW.run 2 (pc' := 131) (ls' := [some (.ref 7), some (.ref (42 + i)), some (.ref 8), some (.int (Int32.ofInt (s (42 + i) 5))), none]) (st' := [.int (Int32.ofInt (s (42 + i) 5)), .ref 13, .int (Int32.ofInt (s (42 + i) 5)), .ref 13]) (σ' := (zN L X (zhi s) R G nc ns)) (fun n => rfl) ?_
              refine zW.jald (n := 144) (v := (s 13 ((s (42 + i) 5).toNat))) rfl rfl (by decide) (by omega) rfl ?_
              refine zW.run 1 (pc' := 133) (ls' := [some (.ref 7), some (.ref (42 + i)), some (.ref 8), some (.int (Int32.ofInt (s (42 + i) 5))), none]) (st' := [.ref (42 + i), .int (Int32.ofInt (s 13 ((s (42 + i) 5).toNat))), .int (Int32.ofInt (s (42 + i) 5)), .ref 13]) (σ' := (zN L X (zhi s) R G nc ns)) (fun n => rfl) ?_
              refine zW.jget (v := (s (42 + i) 2)) rfl (zk_com (by omega)) (fun _ _ _ => rfl) rfl ?_
              refine zW.run 1 (pc' := 138) (ls' := [some (.ref 7), some (.ref (42 + i)), some (.ref 8), some (.int (Int32.ofInt (s (42 + i) 5))), none]) (st' := [.int (Int32.ofInt 10), .int (Int32.ofInt (s (42 + i) 2)), .int (Int32.ofInt (s 13 ((s (42 + i) 5).toNat))), .int (Int32.ofInt (s (42 + i) 5)), .ref 13]) (σ' := (zN L X (zhi s) R G nc ns)) (fun n => rfl) ?_
              refine zW.jdiv rfl (by omega) ?_
              refine zW.jadd rfl ?_
              refine zW.jast (n := 144) rfl rfl (by decide) (by omega) ?_
              have V11 : zV g U F T (B + 20) ph (zup s 13 ((s (42 + i) 5).toNat) ((s 13 ((s (42 + i) 5).toNat)) + ((s (42 + i) 2) / 10))) := (V_toil (zV_mono V (B2 := B + 20) (by omega) (by omega)) (by omega) (by omega))
              generalize hs12 : (zup s 13 ((s (42 + i) 5).toNat) ((s 13 ((s (42 + i) 5).toNat)) + ((s (42 + i) 2) / 10))) = s12 at V11 ⊢
              have k13 : s12 11 ((s (42 + i) 5).toNat) = (s 11 ((s (42 + i) 5).toNat)) := by rw [← hs12]; exact (zup_nj (by omega))
              have k14 : s12 9 ((s (42 + i) 5).toNat) = (s 9 ((s (42 + i) 5).toNat)) := by rw [← hs12]; exact (zup_nj (by omega))
              have k15 : s12 10 ((s (42 + i) 5).toNat) = (s 10 ((s (42 + i) 5).toNat)) := by rw [← hs12]; exact (zup_nj (by omega))
              refine zW.run 1 (pc' := 142) (ls' := [some (.ref 7), some (.ref (42 + i)), some (.ref 8), some (.int (Int32.ofInt (s (42 + i) 5))), none]) (st' := [.ref 8]) (σ' := (zN L X (zhi s12) R G nc ns)) (fun n => rfl) ?_
              refine zW.getf (v := .ref 13) rfl rfl (zr_8 S (f := 4) (by decide)) ?_
              refine zW.run 1 (pc' := 146) (ls' := [some (.ref 7), some (.ref (42 + i)), some (.ref 8), some (.int (Int32.ofInt (s (42 + i) 5))), none]) (st' := [.int (Int32.ofInt (s (42 + i) 5)), .ref 13]) (σ' := (zN L X (zhi s12) R G nc ns)) (fun n => rfl) ?_
              refine zW.jald (n := 144) (v := (s12 13 ((s (42 + i) 5).toNat))) rfl rfl (by decide) (by omega) rfl ?_
              have f16 := zV_sq V11 (k := (s (42 + i) 5).toNat) (by omega)
              refine zW.run 1 (pc' := 149) (ls' := [some (.ref 7), some (.ref (42 + i)), some (.ref 8), some (.int (Int32.ofInt (s (42 + i) 5))), none]) (st' := [.int (Int32.ofInt 80), .int (Int32.ofInt (s12 13 ((s (42 + i) 5).toNat)))]) (σ' := (zN L X (zhi s12) R G nc ns)) (fun n => rfl) ?_
              refine zW.jcmp_lt rfl (by omega) (fun c17 => ?_) (fun c17 => ?_)
              · skip
                exact zW.vret rfl (hQ0 s12 V11)
              · skip
                refine zW.run 1 (pc' := 153) (ls' := [some (.ref 7), some (.ref (42 + i)), some (.ref 8), some (.int (Int32.ofInt (s (42 + i) 5))), none]) (st' := [.ref 8]) (σ' := (zN L X (zhi s12) R G nc ns)) (fun n => rfl) ?_
                refine zW.getf (v := .ref 9) rfl rfl (zr_8 S (f := 0) (by decide)) ?_
                refine zW.run 1 (pc' := 157) (ls' := [some (.ref 7), some (.ref (42 + i)), some (.ref 8), some (.int (Int32.ofInt (s (42 + i) 5))), none]) (st' := [.int (Int32.ofInt (s (42 + i) 5)), .ref 9]) (σ' := (zN L X (zhi s12) R G nc ns)) (fun n => rfl) ?_
                refine zW.jald (n := 144) (v := (s12 9 ((s (42 + i) 5).toNat))) rfl rfl (by decide) (by omega) rfl ?_
                refine zW.run 1 (pc' := 160) (ls' := [some (.ref 7), some (.ref (42 + i)), some (.ref 8), some (.int (Int32.ofInt (s (42 + i) 5))), none]) (st' := [.int (Int32.ofInt 9), .int (Int32.ofInt (s12 9 ((s (42 + i) 5).toNat)))]) (σ' := (zN L X (zhi s12) R G nc ns)) (fun n => rfl) ?_
                have J19 : ∀ (v18 : Int), ((s12 9 ((s (42 + i) 5).toNat)) ≥ 9 ∧ v18 = 9) ∨ ((s12 9 ((s (42 + i) 5).toNat)) < 9 ∧ v18 = ((s12 9 ((s (42 + i) 5).toNat)) + 1)) → zW ro 49 176 [some (.ref 7), some (.ref (42 + i)), some (.ref 8), some (.int (Int32.ofInt (s (42 + i) 5))), none] [.int (Int32.ofInt v18)] (zN L X (zhi s12) R G nc ns) Q := by
                  intro v18 c20
                  refine zW.run 5 (pc' := 183) (ls' := [some (.ref 7), some (.ref (42 + i)), some (.ref 8), some (.int (Int32.ofInt (s (42 + i) 5))), some (.int (Int32.ofInt v18))]) (st' := [.ref 8, .int (Int32.ofInt v18), .int (Int32.ofInt (s (42 + i) 5)), .ref 8]) (σ' := (zN L X (zhi s12) R G nc ns)) (fun n => rfl) ?_
                  refine zW.getf (v := .ref 10) rfl rfl (zr_8 S (f := 1) (by decide)) ?_
                  refine zW.run 1 (pc' := 187) (ls' := [some (.ref 7), some (.ref (42 + i)), some (.ref 8), some (.int (Int32.ofInt (s (42 + i) 5))), some (.int (Int32.ofInt v18))]) (st' := [.int (Int32.ofInt (s (42 + i) 5)), .ref 10, .int (Int32.ofInt v18), .int (Int32.ofInt (s (42 + i) 5)), .ref 8]) (σ' := (zN L X (zhi s12) R G nc ns)) (fun n => rfl) ?_
                  refine zW.jald (n := 144) (v := (s12 10 ((s (42 + i) 5).toNat))) rfl rfl (by decide) (by omega) rfl ?_
                  refine zW.run 2 (pc' := 191) (ls' := [some (.ref 7), some (.ref (42 + i)), some (.ref 8), some (.int (Int32.ofInt (s (42 + i) 5))), some (.int (Int32.ofInt v18))]) (st' := [.int (Int32.ofInt 10), .int (Int32.ofInt 1), .int (Int32.ofInt (s12 10 ((s (42 + i) 5).toNat))), .int (Int32.ofInt v18), .int (Int32.ofInt (s (42 + i) 5)), .ref 8]) (σ' := (zN L X (zhi s12) R G nc ns)) (fun n => rfl) ?_
                  refine zW.callV rfl (by decide) rfl rfl rfl rfl rfl (Nat.le_of_ble_eq_true rfl) ?_
                  refine t_Ground_shape_1 S (zV_zA V11) (x := (s (42 + i) 5)) (a := v18) (b := (s12 10 ((s (42 + i) 5).toNat))) (d := 10) (by omega) ?_
                  show zW ro 49 194 [some (.ref 7), some (.ref (42 + i)), some (.ref 8), some (.int (Int32.ofInt (s (42 + i) 5))), some (.int (Int32.ofInt v18))] [] (zN L X (zhi (zup (zup (zup (zup (zup s12 9 ((s (42 + i) 5).toNat) v18) 10 ((s (42 + i) 5).toNat) (s12 10 ((s (42 + i) 5).toNat))) 11 ((s (42 + i) 5).toNat) 1) 12 ((s (42 + i) 5).toNat) 10) 13 ((s (42 + i) 5).toNat) 0)) R G nc ns) Q
                  have V21 : zV g U F T (B + 20) ph (zup (zup (zup (zup (zup s12 9 ((s (42 + i) 5).toNat) v18) 10 ((s (42 + i) 5).toNat) (s12 10 ((s (42 + i) 5).toNat))) 11 ((s (42 + i) 5).toNat) 1) 12 ((s (42 + i) 5).toNat) 10) 13 ((s (42 + i) 5).toNat) 0) := (V_wall V11 (by omega) (by omega) (by omega) (by omega))
                  generalize hs22 : (zup (zup (zup (zup (zup s12 9 ((s (42 + i) 5).toNat) v18) 10 ((s (42 + i) 5).toNat) (s12 10 ((s (42 + i) 5).toNat))) 11 ((s (42 + i) 5).toNat) 1) 12 ((s (42 + i) 5).toNat) 10) 13 ((s (42 + i) 5).toNat) 0) = s22 at V21 ⊢
                  exact zW.vret rfl (hQ0 s22 V21)
                refine zW.jcmp_ge rfl (by omega) (fun c23 => ?_) (fun c23 => ?_)
                · skip
                  refine zW.run 1 (pc' := 176) (ls' := [some (.ref 7), some (.ref (42 + i)), some (.ref 8), some (.int (Int32.ofInt (s (42 + i) 5))), none]) (st' := [.int (Int32.ofInt 9)]) (σ' := (zN L X (zhi s12) R G nc ns)) (fun n => rfl) ?_
                  exact J19 9 (by omega)
                · skip
                  refine zW.run 1 (pc' := 164) (ls' := [some (.ref 7), some (.ref (42 + i)), some (.ref 8), some (.int (Int32.ofInt (s (42 + i) 5))), none]) (st' := [.ref 8]) (σ' := (zN L X (zhi s12) R G nc ns)) (fun n => rfl) ?_
                  refine zW.getf (v := .ref 9) rfl rfl (zr_8 S (f := 0) (by decide)) ?_
                  refine zW.run 1 (pc' := 168) (ls' := [some (.ref 7), some (.ref (42 + i)), some (.ref 8), some (.int (Int32.ofInt (s (42 + i) 5))), none]) (st' := [.int (Int32.ofInt (s (42 + i) 5)), .ref 9]) (σ' := (zN L X (zhi s12) R G nc ns)) (fun n => rfl) ?_
                  refine zW.jald (n := 144) (v := (s12 9 ((s (42 + i) 5).toNat))) rfl rfl (by decide) (by omega) rfl ?_
                  refine zW.run 1 (pc' := 170) (ls' := [some (.ref 7), some (.ref (42 + i)), some (.ref 8), some (.int (Int32.ofInt (s (42 + i) 5))), none]) (st' := [.int (Int32.ofInt 1), .int (Int32.ofInt (s12 9 ((s (42 + i) 5).toNat)))]) (σ' := (zN L X (zhi s12) R G nc ns)) (fun n => rfl) ?_
                  refine zW.jadd rfl ?_
                  refine zW.run 1 (pc' := 176) (ls' := [some (.ref 7), some (.ref (42 + i)), some (.ref 8), some (.int (Int32.ofInt (s (42 + i) 5))), none]) (st' := [.int (Int32.ofInt ((s12 9 ((s (42 + i) 5).toNat)) + 1))]) (σ' := (zN L X (zhi s12) R G nc ns)) (fun n => rfl) ?_
                  exact J19 ((s12 9 ((s (42 + i) 5).toNat)) + 1) (by omega)
        · skip
          refine zW.run 1 (pc' := 58) (ls' := [some (.ref 7), some (.ref (42 + i)), some (.ref 8), some (.int (Int32.ofInt (s (42 + i) 5))), none]) (st' := [.ref 8]) (σ' := (zN L X (zhi s) R G nc ns)) (fun n => rfl) ?_
          refine zW.getf (v := .ref 12) rfl rfl (zr_8 S (f := 3) (by decide)) ?_
          refine zW.run 1 (pc' := 62) (ls' := [some (.ref 7), some (.ref (42 + i)), some (.ref 8), some (.int (Int32.ofInt (s (42 + i) 5))), none]) (st' := [.int (Int32.ofInt (s (42 + i) 5)), .ref 12]) (σ' := (zN L X (zhi s) R G nc ns)) (fun n => rfl) ?_
          refine zW.jald (n := 144) (v := (s 12 ((s (42 + i) 5).toNat))) rfl rfl (by decide) (by omega) rfl ?_
          refine zW.run 1 (pc' := 65) (ls' := [some (.ref 7), some (.ref (42 + i)), some (.ref 8), some (.int (Int32.ofInt (s (42 + i) 5))), none]) (st' := [.int (Int32.ofInt 60), .int (Int32.ofInt (s 12 ((s (42 + i) 5).toNat)))]) (σ' := (zN L X (zhi s) R G nc ns)) (fun n => rfl) ?_
          refine zW.jcmp_ge rfl (by omega) (fun c24 => ?_) (fun c24 => ?_)
          · skip
            refine zW.run 1 (pc' := 105) (ls' := [some (.ref 7), some (.ref (42 + i)), some (.ref 8), some (.int (Int32.ofInt (s (42 + i) 5))), none]) (st' := [.ref 8]) (σ' := (zN L X (zhi s) R G nc ns)) (fun n => rfl) ?_
            refine zW.getf (v := .ref 11) rfl rfl (zr_8 S (f := 2) (by decide)) ?_
            refine zW.run 1 (pc' := 109) (ls' := [some (.ref 7), some (.ref (42 + i)), some (.ref 8), some (.int (Int32.ofInt (s (42 + i) 5))), none]) (st' := [.int (Int32.ofInt (s (42 + i) 5)), .ref 11]) (σ' := (zN L X (zhi s) R G nc ns)) (fun n => rfl) ?_
            refine zW.jald (n := 144) (v := (s 11 ((s (42 + i) 5).toNat))) rfl rfl (by decide) (by omega) rfl ?_
            refine zW.run 1 (pc' := 112) (ls' := [some (.ref 7), some (.ref (42 + i)), some (.ref 8), some (.int (Int32.ofInt (s (42 + i) 5))), none]) (st' := [.int (Int32.ofInt 6), .int (Int32.ofInt (s 11 ((s (42 + i) 5).toNat)))]) (σ' := (zN L X (zhi s) R G nc ns)) (fun n => rfl) ?_
            refine zW.jcmp_ne rfl (by omega) (fun c25 => ?_) (fun c25 => ?_)
            · skip
              exact zW.vret rfl (hQ0 s (zV_mono V (by omega) (by omega)))
            · skip
              refine zW.run 3 (pc' := 118) (ls' := [some (.ref 7), some (.ref (42 + i)), some (.ref 8), some (.int (Int32.ofInt (s (42 + i) 5))), none]) (st' := [.int (Int32.ofInt (s (42 + i) 5)), .int (Int32.ofInt 0), .ref 7]) (σ' := (zN L X (zhi s) R G nc ns)) (fun n => rfl) ?_
              refine zW.callV rfl (by decide) rfl rfl rfl rfl rfl (Nat.le_of_ble_eq_true rfl) ?_
              refine t_Siege_isHeldBy S V (x := 0) (y := (s (42 + i) 5)) (by omega) (by omega) ?_ ?_
              · skip
                show zW ro 49 121 [some (.ref 7), some (.ref (42 + i)), some (.ref 8), some (.int (Int32.ofInt (s (42 + i) 5))), none] [.int (Int32.ofInt 1)] (zN L X (zhi s) R G nc ns) Q
                refine zW.run 1 (pc' := 124) (ls' := [some (.ref 7), some (.ref (42 + i)), some (.ref 8), some (.int (Int32.ofInt (s (42 + i) 5))), none]) (st' := []) (σ' := (zN L X (zhi s) R G nc ns)) (fun n => rfl) ?_
                exact zW.vret rfl (hQ0 s (zV_mono V (by omega) (by omega)))
              · skip
                show zW ro 49 121 [some (.ref 7), some (.ref (42 + i)), some (.ref 8), some (.int (Int32.ofInt (s (42 + i) 5))), none] [.int (Int32.ofInt 0)] (zN L X (zhi s) R G nc ns) Q
                refine zW.run 2 (pc' := 126) (ls' := [some (.ref 7), some (.ref (42 + i)), some (.ref 8), some (.int (Int32.ofInt (s (42 + i) 5))), none]) (st' := [.ref 8]) (σ' := (zN L X (zhi s) R G nc ns)) (fun n => rfl) ?_
                refine zW.getf (v := .ref 13) rfl rfl (zr_8 S (f := 4) (by decide)) ?_
                refine zW.run 2 (pc' := 131) (ls' := [some (.ref 7), some (.ref (42 + i)), some (.ref 8), some (.int (Int32.ofInt (s (42 + i) 5))), none]) (st' := [.int (Int32.ofInt (s (42 + i) 5)), .ref 13, .int (Int32.ofInt (s (42 + i) 5)), .ref 13]) (σ' := (zN L X (zhi s) R G nc ns)) (fun n => rfl) ?_
                refine zW.jald (n := 144) (v := (s 13 ((s (42 + i) 5).toNat))) rfl rfl (by decide) (by omega) rfl ?_
                refine zW.run 1 (pc' := 133) (ls' := [some (.ref 7), some (.ref (42 + i)), some (.ref 8), some (.int (Int32.ofInt (s (42 + i) 5))), none]) (st' := [.ref (42 + i), .int (Int32.ofInt (s 13 ((s (42 + i) 5).toNat))), .int (Int32.ofInt (s (42 + i) 5)), .ref 13]) (σ' := (zN L X (zhi s) R G nc ns)) (fun n => rfl) ?_
                refine zW.jget (v := (s (42 + i) 2)) rfl (zk_com (by omega)) (fun _ _ _ => rfl) rfl ?_
                refine zW.run 1 (pc' := 138) (ls' := [some (.ref 7), some (.ref (42 + i)), some (.ref 8), some (.int (Int32.ofInt (s (42 + i) 5))), none]) (st' := [.int (Int32.ofInt 10), .int (Int32.ofInt (s (42 + i) 2)), .int (Int32.ofInt (s 13 ((s (42 + i) 5).toNat))), .int (Int32.ofInt (s (42 + i) 5)), .ref 13]) (σ' := (zN L X (zhi s) R G nc ns)) (fun n => rfl) ?_
                refine zW.jdiv rfl (by omega) ?_
                refine zW.jadd rfl ?_
                refine zW.jast (n := 144) rfl rfl (by decide) (by omega) ?_
                have V26 : zV g U F T (B + 20) ph (zup s 13 ((s (42 + i) 5).toNat) ((s 13 ((s (42 + i) 5).toNat)) + ((s (42 + i) 2) / 10))) := (V_toil (zV_mono V (B2 := B + 20) (by omega) (by omega)) (by omega) (by omega))
                generalize hs27 : (zup s 13 ((s (42 + i) 5).toNat) ((s 13 ((s (42 + i) 5).toNat)) + ((s (42 + i) 2) / 10))) = s27 at V26 ⊢
                have k28 : s27 11 ((s (42 + i) 5).toNat) = (s 11 ((s (42 + i) 5).toNat)) := by rw [← hs27]; exact (zup_nj (by omega))
                have k29 : s27 9 ((s (42 + i) 5).toNat) = (s 9 ((s (42 + i) 5).toNat)) := by rw [← hs27]; exact (zup_nj (by omega))
                have k30 : s27 10 ((s (42 + i) 5).toNat) = (s 10 ((s (42 + i) 5).toNat)) := by rw [← hs27]; exact (zup_nj (by omega))
                refine zW.run 1 (pc' := 142) (ls' := [some (.ref 7), some (.ref (42 + i)), some (.ref 8), some (.int (Int32.ofInt (s (42 + i) 5))), none]) (st' := [.ref 8]) (σ' := (zN L X (zhi s27) R G nc ns)) (fun n => rfl) ?_
                refine zW.getf (v := .ref 13) rfl rfl (zr_8 S (f := 4) (by decide)) ?_
                refine zW.run 1 (pc' := 146) (ls' := [some (.ref 7), some (.ref (42 + i)), some (.ref 8), some (.int (Int32.ofInt (s (42 + i) 5))), none]) (st' := [.int (Int32.ofInt (s (42 + i) 5)), .ref 13]) (σ' := (zN L X (zhi s27) R G nc ns)) (fun n => rfl) ?_
                refine zW.jald (n := 144) (v := (s27 13 ((s (42 + i) 5).toNat))) rfl rfl (by decide) (by omega) rfl ?_
                have f31 := zV_sq V26 (k := (s (42 + i) 5).toNat) (by omega)
                refine zW.run 1 (pc' := 149) (ls' := [some (.ref 7), some (.ref (42 + i)), some (.ref 8), some (.int (Int32.ofInt (s (42 + i) 5))), none]) (st' := [.int (Int32.ofInt 80), .int (Int32.ofInt (s27 13 ((s (42 + i) 5).toNat)))]) (σ' := (zN L X (zhi s27) R G nc ns)) (fun n => rfl) ?_
                refine zW.jcmp_lt rfl (by omega) (fun c32 => ?_) (fun c32 => ?_)
                · skip
                  exact zW.vret rfl (hQ0 s27 V26)
                · skip
                  refine zW.run 1 (pc' := 153) (ls' := [some (.ref 7), some (.ref (42 + i)), some (.ref 8), some (.int (Int32.ofInt (s (42 + i) 5))), none]) (st' := [.ref 8]) (σ' := (zN L X (zhi s27) R G nc ns)) (fun n => rfl) ?_
                  refine zW.getf (v := .ref 9) rfl rfl (zr_8 S (f := 0) (by decide)) ?_
                  refine zW.run 1 (pc' := 157) (ls' := [some (.ref 7), some (.ref (42 + i)), some (.ref 8), some (.int (Int32.ofInt (s (42 + i) 5))), none]) (st' := [.int (Int32.ofInt (s (42 + i) 5)), .ref 9]) (σ' := (zN L X (zhi s27) R G nc ns)) (fun n => rfl) ?_
                  refine zW.jald (n := 144) (v := (s27 9 ((s (42 + i) 5).toNat))) rfl rfl (by decide) (by omega) rfl ?_
                  refine zW.run 1 (pc' := 160) (ls' := [some (.ref 7), some (.ref (42 + i)), some (.ref 8), some (.int (Int32.ofInt (s (42 + i) 5))), none]) (st' := [.int (Int32.ofInt 9), .int (Int32.ofInt (s27 9 ((s (42 + i) 5).toNat)))]) (σ' := (zN L X (zhi s27) R G nc ns)) (fun n => rfl) ?_
                  have J34 : ∀ (v33 : Int), ((s27 9 ((s (42 + i) 5).toNat)) ≥ 9 ∧ v33 = 9) ∨ ((s27 9 ((s (42 + i) 5).toNat)) < 9 ∧ v33 = ((s27 9 ((s (42 + i) 5).toNat)) + 1)) → zW ro 49 176 [some (.ref 7), some (.ref (42 + i)), some (.ref 8), some (.int (Int32.ofInt (s (42 + i) 5))), none] [.int (Int32.ofInt v33)] (zN L X (zhi s27) R G nc ns) Q := by
                    intro v33 c35
                    refine zW.run 5 (pc' := 183) (ls' := [some (.ref 7), some (.ref (42 + i)), some (.ref 8), some (.int (Int32.ofInt (s (42 + i) 5))), some (.int (Int32.ofInt v33))]) (st' := [.ref 8, .int (Int32.ofInt v33), .int (Int32.ofInt (s (42 + i) 5)), .ref 8]) (σ' := (zN L X (zhi s27) R G nc ns)) (fun n => rfl) ?_
                    refine zW.getf (v := .ref 10) rfl rfl (zr_8 S (f := 1) (by decide)) ?_
                    refine zW.run 1 (pc' := 187) (ls' := [some (.ref 7), some (.ref (42 + i)), some (.ref 8), some (.int (Int32.ofInt (s (42 + i) 5))), some (.int (Int32.ofInt v33))]) (st' := [.int (Int32.ofInt (s (42 + i) 5)), .ref 10, .int (Int32.ofInt v33), .int (Int32.ofInt (s (42 + i) 5)), .ref 8]) (σ' := (zN L X (zhi s27) R G nc ns)) (fun n => rfl) ?_
                    refine zW.jald (n := 144) (v := (s27 10 ((s (42 + i) 5).toNat))) rfl rfl (by decide) (by omega) rfl ?_
                    refine zW.run 2 (pc' := 191) (ls' := [some (.ref 7), some (.ref (42 + i)), some (.ref 8), some (.int (Int32.ofInt (s (42 + i) 5))), some (.int (Int32.ofInt v33))]) (st' := [.int (Int32.ofInt 10), .int (Int32.ofInt 1), .int (Int32.ofInt (s27 10 ((s (42 + i) 5).toNat))), .int (Int32.ofInt v33), .int (Int32.ofInt (s (42 + i) 5)), .ref 8]) (σ' := (zN L X (zhi s27) R G nc ns)) (fun n => rfl) ?_
                    refine zW.callV rfl (by decide) rfl rfl rfl rfl rfl (Nat.le_of_ble_eq_true rfl) ?_
                    refine t_Ground_shape_1 S (zV_zA V26) (x := (s (42 + i) 5)) (a := v33) (b := (s27 10 ((s (42 + i) 5).toNat))) (d := 10) (by omega) ?_
                    show zW ro 49 194 [some (.ref 7), some (.ref (42 + i)), some (.ref 8), some (.int (Int32.ofInt (s (42 + i) 5))), some (.int (Int32.ofInt v33))] [] (zN L X (zhi (zup (zup (zup (zup (zup s27 9 ((s (42 + i) 5).toNat) v33) 10 ((s (42 + i) 5).toNat) (s27 10 ((s (42 + i) 5).toNat))) 11 ((s (42 + i) 5).toNat) 1) 12 ((s (42 + i) 5).toNat) 10) 13 ((s (42 + i) 5).toNat) 0)) R G nc ns) Q
                    have V36 : zV g U F T (B + 20) ph (zup (zup (zup (zup (zup s27 9 ((s (42 + i) 5).toNat) v33) 10 ((s (42 + i) 5).toNat) (s27 10 ((s (42 + i) 5).toNat))) 11 ((s (42 + i) 5).toNat) 1) 12 ((s (42 + i) 5).toNat) 10) 13 ((s (42 + i) 5).toNat) 0) := (V_wall V26 (by omega) (by omega) (by omega) (by omega))
                    generalize hs37 : (zup (zup (zup (zup (zup s27 9 ((s (42 + i) 5).toNat) v33) 10 ((s (42 + i) 5).toNat) (s27 10 ((s (42 + i) 5).toNat))) 11 ((s (42 + i) 5).toNat) 1) 12 ((s (42 + i) 5).toNat) 10) 13 ((s (42 + i) 5).toNat) 0) = s37 at V36 ⊢
                    exact zW.vret rfl (hQ0 s37 V36)
                  refine zW.jcmp_ge rfl (by omega) (fun c38 => ?_) (fun c38 => ?_)
                  · skip
                    refine zW.run 1 (pc' := 176) (ls' := [some (.ref 7), some (.ref (42 + i)), some (.ref 8), some (.int (Int32.ofInt (s (42 + i) 5))), none]) (st' := [.int (Int32.ofInt 9)]) (σ' := (zN L X (zhi s27) R G nc ns)) (fun n => rfl) ?_
                    exact J34 9 (by omega)
                  · skip
                    refine zW.run 1 (pc' := 164) (ls' := [some (.ref 7), some (.ref (42 + i)), some (.ref 8), some (.int (Int32.ofInt (s (42 + i) 5))), none]) (st' := [.ref 8]) (σ' := (zN L X (zhi s27) R G nc ns)) (fun n => rfl) ?_
                    refine zW.getf (v := .ref 9) rfl rfl (zr_8 S (f := 0) (by decide)) ?_
                    refine zW.run 1 (pc' := 168) (ls' := [some (.ref 7), some (.ref (42 + i)), some (.ref 8), some (.int (Int32.ofInt (s (42 + i) 5))), none]) (st' := [.int (Int32.ofInt (s (42 + i) 5)), .ref 9]) (σ' := (zN L X (zhi s27) R G nc ns)) (fun n => rfl) ?_
                    refine zW.jald (n := 144) (v := (s27 9 ((s (42 + i) 5).toNat))) rfl rfl (by decide) (by omega) rfl ?_
                    refine zW.run 1 (pc' := 170) (ls' := [some (.ref 7), some (.ref (42 + i)), some (.ref 8), some (.int (Int32.ofInt (s (42 + i) 5))), none]) (st' := [.int (Int32.ofInt 1), .int (Int32.ofInt (s27 9 ((s (42 + i) 5).toNat)))]) (σ' := (zN L X (zhi s27) R G nc ns)) (fun n => rfl) ?_
                    refine zW.jadd rfl ?_
                    refine zW.run 1 (pc' := 176) (ls' := [some (.ref 7), some (.ref (42 + i)), some (.ref 8), some (.int (Int32.ofInt (s (42 + i) 5))), none]) (st' := [.int (Int32.ofInt ((s27 9 ((s (42 + i) 5).toNat)) + 1))]) (σ' := (zN L X (zhi s27) R G nc ns)) (fun n => rfl) ?_
                    exact J34 ((s27 9 ((s (42 + i) 5).toNat)) + 1) (by omega)
          · skip
            have hq := (zV_zE V).1 (Int.toNat (s (42 + i) 5)) (by omega) (by omega)
            refine zW.run 1 (pc' := 69) (ls' := [some (.ref 7), some (.ref (42 + i)), some (.ref 8), some (.int (Int32.ofInt (s (42 + i) 5))), none]) (st' := [.ref 8]) (σ' := (zN L X (zhi s) R G nc ns)) (fun n => rfl) ?_
            refine zW.getf (v := .ref 12) rfl rfl (zr_8 S (f := 3) (by decide)) ?_
            refine zW.run 1 (pc' := 73) (ls' := [some (.ref 7), some (.ref (42 + i)), some (.ref 8), some (.int (Int32.ofInt (s (42 + i) 5))), none]) (st' := [.int (Int32.ofInt (s (42 + i) 5)), .ref 12]) (σ' := (zN L X (zhi s) R G nc ns)) (fun n => rfl) ?_
            refine zW.jald (n := 144) (v := (s 12 ((s (42 + i) 5).toNat))) rfl rfl (by decide) (by omega) rfl ?_
            refine zW.run 1 (pc' := 75) (ls' := [some (.ref 7), some (.ref (42 + i)), some (.ref 8), some (.int (Int32.ofInt (s (42 + i) 5))), none]) (st' := [.ref (42 + i), .int (Int32.ofInt (s 12 ((s (42 + i) 5).toNat)))]) (σ' := (zN L X (zhi s) R G nc ns)) (fun n => rfl) ?_
            refine zW.jget (v := (s (42 + i) 2)) rfl (zk_com (by omega)) (fun _ _ _ => rfl) rfl ?_
            refine zW.run 1 (pc' := 80) (ls' := [some (.ref 7), some (.ref (42 + i)), some (.ref 8), some (.int (Int32.ofInt (s (42 + i) 5))), none]) (st' := [.int (Int32.ofInt 20), .int (Int32.ofInt (s (42 + i) 2)), .int (Int32.ofInt (s 12 ((s (42 + i) 5).toNat)))]) (σ' := (zN L X (zhi s) R G nc ns)) (fun n => rfl) ?_
            refine zW.jdiv rfl (by omega) ?_
            refine zW.jadd rfl ?_
            refine zW.run 2 (pc' := 85) (ls' := [some (.ref 7), some (.ref (42 + i)), some (.ref 8), some (.int (Int32.ofInt (s (42 + i) 5))), some (.int (Int32.ofInt ((s 12 ((s (42 + i) 5).toNat)) + ((s (42 + i) 2) / 20))))]) (st' := [.ref 8]) (σ' := (zN L X (zhi s) R G nc ns)) (fun n => rfl) ?_
            refine zW.getf (v := .ref 12) rfl rfl (zr_8 S (f := 3) (by decide)) ?_
            refine zW.run 3 (pc' := 93) (ls' := [some (.ref 7), some (.ref (42 + i)), some (.ref 8), some (.int (Int32.ofInt (s (42 + i) 5))), some (.int (Int32.ofInt ((s 12 ((s (42 + i) 5).toNat)) + ((s (42 + i) 2) / 20))))]) (st' := [.int (Int32.ofInt 60), .int (Int32.ofInt ((s 12 ((s (42 + i) 5).toNat)) + ((s (42 + i) 2) / 20))), .int (Int32.ofInt (s (42 + i) 5)), .ref 12]) (σ' := (zN L X (zhi s) R G nc ns)) (fun n => rfl) ?_
            have J40 : ∀ (v39 : Int), (((s 12 ((s (42 + i) 5).toNat)) + ((s (42 + i) 2) / 20)) ≤ 60 ∧ v39 = ((s 12 ((s (42 + i) 5).toNat)) + ((s (42 + i) 2) / 20))) ∨ (((s 12 ((s (42 + i) 5).toNat)) + ((s (42 + i) 2) / 20)) > 60 ∧ v39 = 60) → zW ro 49 103 [some (.ref 7), some (.ref (42 + i)), some (.ref 8), some (.int (Int32.ofInt (s (42 + i) 5))), some (.int (Int32.ofInt ((s 12 ((s (42 + i) 5).toNat)) + ((s (42 + i) 2) / 20))))] [.int (Int32.ofInt v39), .int (Int32.ofInt (s (42 + i) 5)), .ref 12] (zN L X (zhi s) R G nc ns) Q := by
              intro v39 c41
              refine zW.jast (n := 144) rfl rfl (by decide) (by omega) ?_
              have V42 : zV g U F T B ph (zup s 12 ((s (42 + i) 5).toNat) v39) := (V_firm V (by omega) (by omega) (by omega))
              generalize hs43 : (zup s 12 ((s (42 + i) 5).toNat) v39) = s43 at V42 ⊢
              have k44 : s43 11 ((s (42 + i) 5).toNat) = (s 11 ((s (42 + i) 5).toNat)) := by rw [← hs43]; exact (zup_nj (by omega))
              refine zW.run 1 (pc' := 105) (ls' := [some (.ref 7), some (.ref (42 + i)), some (.ref 8), some (.int (Int32.ofInt (s (42 + i) 5))), some (.int (Int32.ofInt ((s 12 ((s (42 + i) 5).toNat)) + ((s (42 + i) 2) / 20))))]) (st' := [.ref 8]) (σ' := (zN L X (zhi s43) R G nc ns)) (fun n => rfl) ?_
              refine zW.getf (v := .ref 11) rfl rfl (zr_8 S (f := 2) (by decide)) ?_
              refine zW.run 1 (pc' := 109) (ls' := [some (.ref 7), some (.ref (42 + i)), some (.ref 8), some (.int (Int32.ofInt (s (42 + i) 5))), some (.int (Int32.ofInt ((s 12 ((s (42 + i) 5).toNat)) + ((s (42 + i) 2) / 20))))]) (st' := [.int (Int32.ofInt (s (42 + i) 5)), .ref 11]) (σ' := (zN L X (zhi s43) R G nc ns)) (fun n => rfl) ?_
              refine zW.jald (n := 144) (v := (s43 11 ((s (42 + i) 5).toNat))) rfl rfl (by decide) (by omega) rfl ?_
              have f45 := zV_sq V42 (k := (s (42 + i) 5).toNat) (by omega)
              refine zW.run 1 (pc' := 112) (ls' := [some (.ref 7), some (.ref (42 + i)), some (.ref 8), some (.int (Int32.ofInt (s (42 + i) 5))), some (.int (Int32.ofInt ((s 12 ((s (42 + i) 5).toNat)) + ((s (42 + i) 2) / 20))))]) (st' := [.int (Int32.ofInt 6), .int (Int32.ofInt (s43 11 ((s (42 + i) 5).toNat)))]) (σ' := (zN L X (zhi s43) R G nc ns)) (fun n => rfl) ?_
              refine zW.jcmp_ne rfl (by omega) (fun c46 => ?_) (fun c46 => ?_)
              · skip
                exact zW.vret rfl (hQ0 s43 (zV_mono V42 (by omega) (by omega)))
              · skip
                refine zW.run 3 (pc' := 118) (ls' := [some (.ref 7), some (.ref (42 + i)), some (.ref 8), some (.int (Int32.ofInt (s (42 + i) 5))), some (.int (Int32.ofInt ((s 12 ((s (42 + i) 5).toNat)) + ((s (42 + i) 2) / 20))))]) (st' := [.int (Int32.ofInt (s (42 + i) 5)), .int (Int32.ofInt 0), .ref 7]) (σ' := (zN L X (zhi s43) R G nc ns)) (fun n => rfl) ?_
                refine zW.callV rfl (by decide) rfl rfl rfl rfl rfl (Nat.le_of_ble_eq_true rfl) ?_
                refine t_Siege_isHeldBy S V42 (x := 0) (y := (s (42 + i) 5)) (by omega) (by omega) ?_ ?_
                · skip
                  show zW ro 49 121 [some (.ref 7), some (.ref (42 + i)), some (.ref 8), some (.int (Int32.ofInt (s (42 + i) 5))), some (.int (Int32.ofInt ((s 12 ((s (42 + i) 5).toNat)) + ((s (42 + i) 2) / 20))))] [.int (Int32.ofInt 1)] (zN L X (zhi s43) R G nc ns) Q
                  refine zW.run 1 (pc' := 124) (ls' := [some (.ref 7), some (.ref (42 + i)), some (.ref 8), some (.int (Int32.ofInt (s (42 + i) 5))), some (.int (Int32.ofInt ((s 12 ((s (42 + i) 5).toNat)) + ((s (42 + i) 2) / 20))))]) (st' := []) (σ' := (zN L X (zhi s43) R G nc ns)) (fun n => rfl) ?_
                  exact zW.vret rfl (hQ0 s43 (zV_mono V42 (by omega) (by omega)))
                · skip
                  show zW ro 49 121 [some (.ref 7), some (.ref (42 + i)), some (.ref 8), some (.int (Int32.ofInt (s (42 + i) 5))), some (.int (Int32.ofInt ((s 12 ((s (42 + i) 5).toNat)) + ((s (42 + i) 2) / 20))))] [.int (Int32.ofInt 0)] (zN L X (zhi s43) R G nc ns) Q
                  refine zW.run 2 (pc' := 126) (ls' := [some (.ref 7), some (.ref (42 + i)), some (.ref 8), some (.int (Int32.ofInt (s (42 + i) 5))), some (.int (Int32.ofInt ((s 12 ((s (42 + i) 5).toNat)) + ((s (42 + i) 2) / 20))))]) (st' := [.ref 8]) (σ' := (zN L X (zhi s43) R G nc ns)) (fun n => rfl) ?_
                  refine zW.getf (v := .ref 13) rfl rfl (zr_8 S (f := 4) (by decide)) ?_
                  refine zW.run 2 (pc' := 131) (ls' := [some (.ref 7), some (.ref (42 + i)), some (.ref 8), some (.int (Int32.ofInt (s (42 + i) 5))), some (.int (Int32.ofInt ((s 12 ((s (42 + i) 5).toNat)) + ((s (42 + i) 2) / 20))))]) (st' := [.int (Int32.ofInt (s (42 + i) 5)), .ref 13, .int (Int32.ofInt (s (42 + i) 5)), .ref 13]) (σ' := (zN L X (zhi s43) R G nc ns)) (fun n => rfl) ?_
                  refine zW.jald (n := 144) (v := (s43 13 ((s (42 + i) 5).toNat))) rfl rfl (by decide) (by omega) rfl ?_
                  refine zW.run 1 (pc' := 133) (ls' := [some (.ref 7), some (.ref (42 + i)), some (.ref 8), some (.int (Int32.ofInt (s (42 + i) 5))), some (.int (Int32.ofInt ((s 12 ((s (42 + i) 5).toNat)) + ((s (42 + i) 2) / 20))))]) (st' := [.ref (42 + i), .int (Int32.ofInt (s43 13 ((s (42 + i) 5).toNat))), .int (Int32.ofInt (s (42 + i) 5)), .ref 13]) (σ' := (zN L X (zhi s43) R G nc ns)) (fun n => rfl) ?_
                  have f47 := zV_com V42 (i := i) (by omega)
                  refine zW.jget (v := (s43 (42 + i) 2)) rfl (zk_com (by omega)) (fun _ _ _ => rfl) rfl ?_
                  refine zW.run 1 (pc' := 138) (ls' := [some (.ref 7), some (.ref (42 + i)), some (.ref 8), some (.int (Int32.ofInt (s (42 + i) 5))), some (.int (Int32.ofInt ((s 12 ((s (42 + i) 5).toNat)) + ((s (42 + i) 2) / 20))))]) (st' := [.int (Int32.ofInt 10), .int (Int32.ofInt (s43 (42 + i) 2)), .int (Int32.ofInt (s43 13 ((s (42 + i) 5).toNat))), .int (Int32.ofInt (s (42 + i) 5)), .ref 13]) (σ' := (zN L X (zhi s43) R G nc ns)) (fun n => rfl) ?_
                  refine zW.jdiv rfl (by omega) ?_
                  refine zW.jadd rfl ?_
                  refine zW.jast (n := 144) rfl rfl (by decide) (by omega) ?_
                  have V48 : zV g U F T (B + 20) ph (zup s43 13 ((s (42 + i) 5).toNat) ((s43 13 ((s (42 + i) 5).toNat)) + ((s43 (42 + i) 2) / 10))) := (V_toil (zV_mono V42 (B2 := B + 20) (by omega) (by omega)) (by omega) (by omega))
                  generalize hs49 : (zup s43 13 ((s (42 + i) 5).toNat) ((s43 13 ((s (42 + i) 5).toNat)) + ((s43 (42 + i) 2) / 10))) = s49 at V48 ⊢
                  have k50 : s49 11 ((s (42 + i) 5).toNat) = (s43 11 ((s (42 + i) 5).toNat)) := by rw [← hs49]; exact (zup_nj (by omega))
                  have k51 : s49 9 ((s (42 + i) 5).toNat) = (s43 9 ((s (42 + i) 5).toNat)) := by rw [← hs49]; exact (zup_nj (by omega))
                  have k52 : s49 10 ((s (42 + i) 5).toNat) = (s43 10 ((s (42 + i) 5).toNat)) := by rw [← hs49]; exact (zup_nj (by omega))
                  refine zW.run 1 (pc' := 142) (ls' := [some (.ref 7), some (.ref (42 + i)), some (.ref 8), some (.int (Int32.ofInt (s (42 + i) 5))), some (.int (Int32.ofInt ((s 12 ((s (42 + i) 5).toNat)) + ((s (42 + i) 2) / 20))))]) (st' := [.ref 8]) (σ' := (zN L X (zhi s49) R G nc ns)) (fun n => rfl) ?_
                  refine zW.getf (v := .ref 13) rfl rfl (zr_8 S (f := 4) (by decide)) ?_
                  refine zW.run 1 (pc' := 146) (ls' := [some (.ref 7), some (.ref (42 + i)), some (.ref 8), some (.int (Int32.ofInt (s (42 + i) 5))), some (.int (Int32.ofInt ((s 12 ((s (42 + i) 5).toNat)) + ((s (42 + i) 2) / 20))))]) (st' := [.int (Int32.ofInt (s (42 + i) 5)), .ref 13]) (σ' := (zN L X (zhi s49) R G nc ns)) (fun n => rfl) ?_
                  refine zW.jald (n := 144) (v := (s49 13 ((s (42 + i) 5).toNat))) rfl rfl (by decide) (by omega) rfl ?_
                  have f53 := zV_sq V48 (k := (s (42 + i) 5).toNat) (by omega)
                  refine zW.run 1 (pc' := 149) (ls' := [some (.ref 7), some (.ref (42 + i)), some (.ref 8), some (.int (Int32.ofInt (s (42 + i) 5))), some (.int (Int32.ofInt ((s 12 ((s (42 + i) 5).toNat)) + ((s (42 + i) 2) / 20))))]) (st' := [.int (Int32.ofInt 80), .int (Int32.ofInt (s49 13 ((s (42 + i) 5).toNat)))]) (σ' := (zN L X (zhi s49) R G nc ns)) (fun n => rfl) ?_
                  refine zW.jcmp_lt rfl (by omega) (fun c54 => ?_) (fun c54 => ?_)
                  · skip
                    exact zW.vret rfl (hQ0 s49 V48)
                  · skip
                    refine zW.run 1 (pc' := 153) (ls' := [some (.ref 7), some (.ref (42 + i)), some (.ref 8), some (.int (Int32.ofInt (s (42 + i) 5))), some (.int (Int32.ofInt ((s 12 ((s (42 + i) 5).toNat)) + ((s (42 + i) 2) / 20))))]) (st' := [.ref 8]) (σ' := (zN L X (zhi s49) R G nc ns)) (fun n => rfl) ?_
                    refine zW.getf (v := .ref 9) rfl rfl (zr_8 S (f := 0) (by decide)) ?_
                    refine zW.run 1 (pc' := 157) (ls' := [some (.ref 7), some (.ref (42 + i)), some (.ref 8), some (.int (Int32.ofInt (s (42 + i) 5))), some (.int (Int32.ofInt ((s 12 ((s (42 + i) 5).toNat)) + ((s (42 + i) 2) / 20))))]) (st' := [.int (Int32.ofInt (s (42 + i) 5)), .ref 9]) (σ' := (zN L X (zhi s49) R G nc ns)) (fun n => rfl) ?_
                    refine zW.jald (n := 144) (v := (s49 9 ((s (42 + i) 5).toNat))) rfl rfl (by decide) (by omega) rfl ?_
                    refine zW.run 1 (pc' := 160) (ls' := [some (.ref 7), some (.ref (42 + i)), some (.ref 8), some (.int (Int32.ofInt (s (42 + i) 5))), some (.int (Int32.ofInt ((s 12 ((s (42 + i) 5).toNat)) + ((s (42 + i) 2) / 20))))]) (st' := [.int (Int32.ofInt 9), .int (Int32.ofInt (s49 9 ((s (42 + i) 5).toNat)))]) (σ' := (zN L X (zhi s49) R G nc ns)) (fun n => rfl) ?_
                    have J56 : ∀ (v55 : Int), ((s49 9 ((s (42 + i) 5).toNat)) ≥ 9 ∧ v55 = 9) ∨ ((s49 9 ((s (42 + i) 5).toNat)) < 9 ∧ v55 = ((s49 9 ((s (42 + i) 5).toNat)) + 1)) → zW ro 49 176 [some (.ref 7), some (.ref (42 + i)), some (.ref 8), some (.int (Int32.ofInt (s (42 + i) 5))), some (.int (Int32.ofInt ((s 12 ((s (42 + i) 5).toNat)) + ((s (42 + i) 2) / 20))))] [.int (Int32.ofInt v55)] (zN L X (zhi s49) R G nc ns) Q := by
                      intro v55 c57
                      refine zW.run 5 (pc' := 183) (ls' := [some (.ref 7), some (.ref (42 + i)), some (.ref 8), some (.int (Int32.ofInt (s (42 + i) 5))), some (.int (Int32.ofInt v55))]) (st' := [.ref 8, .int (Int32.ofInt v55), .int (Int32.ofInt (s (42 + i) 5)), .ref 8]) (σ' := (zN L X (zhi s49) R G nc ns)) (fun n => rfl) ?_
                      refine zW.getf (v := .ref 10) rfl rfl (zr_8 S (f := 1) (by decide)) ?_
                      refine zW.run 1 (pc' := 187) (ls' := [some (.ref 7), some (.ref (42 + i)), some (.ref 8), some (.int (Int32.ofInt (s (42 + i) 5))), some (.int (Int32.ofInt v55))]) (st' := [.int (Int32.ofInt (s (42 + i) 5)), .ref 10, .int (Int32.ofInt v55), .int (Int32.ofInt (s (42 + i) 5)), .ref 8]) (σ' := (zN L X (zhi s49) R G nc ns)) (fun n => rfl) ?_
                      refine zW.jald (n := 144) (v := (s49 10 ((s (42 + i) 5).toNat))) rfl rfl (by decide) (by omega) rfl ?_
                      refine zW.run 2 (pc' := 191) (ls' := [some (.ref 7), some (.ref (42 + i)), some (.ref 8), some (.int (Int32.ofInt (s (42 + i) 5))), some (.int (Int32.ofInt v55))]) (st' := [.int (Int32.ofInt 10), .int (Int32.ofInt 1), .int (Int32.ofInt (s49 10 ((s (42 + i) 5).toNat))), .int (Int32.ofInt v55), .int (Int32.ofInt (s (42 + i) 5)), .ref 8]) (σ' := (zN L X (zhi s49) R G nc ns)) (fun n => rfl) ?_
                      refine zW.callV rfl (by decide) rfl rfl rfl rfl rfl (Nat.le_of_ble_eq_true rfl) ?_
                      refine t_Ground_shape_1 S (zV_zA V48) (x := (s (42 + i) 5)) (a := v55) (b := (s49 10 ((s (42 + i) 5).toNat))) (d := 10) (by omega) ?_
                      show zW ro 49 194 [some (.ref 7), some (.ref (42 + i)), some (.ref 8), some (.int (Int32.ofInt (s (42 + i) 5))), some (.int (Int32.ofInt v55))] [] (zN L X (zhi (zup (zup (zup (zup (zup s49 9 ((s (42 + i) 5).toNat) v55) 10 ((s (42 + i) 5).toNat) (s49 10 ((s (42 + i) 5).toNat))) 11 ((s (42 + i) 5).toNat) 1) 12 ((s (42 + i) 5).toNat) 10) 13 ((s (42 + i) 5).toNat) 0)) R G nc ns) Q
                      have V58 : zV g U F T (B + 20) ph (zup (zup (zup (zup (zup s49 9 ((s (42 + i) 5).toNat) v55) 10 ((s (42 + i) 5).toNat) (s49 10 ((s (42 + i) 5).toNat))) 11 ((s (42 + i) 5).toNat) 1) 12 ((s (42 + i) 5).toNat) 10) 13 ((s (42 + i) 5).toNat) 0) := (V_wall V48 (by omega) (by omega) (by omega) (by omega))
                      generalize hs59 : (zup (zup (zup (zup (zup s49 9 ((s (42 + i) 5).toNat) v55) 10 ((s (42 + i) 5).toNat) (s49 10 ((s (42 + i) 5).toNat))) 11 ((s (42 + i) 5).toNat) 1) 12 ((s (42 + i) 5).toNat) 10) 13 ((s (42 + i) 5).toNat) 0) = s59 at V58 ⊢
                      exact zW.vret rfl (hQ0 s59 V58)
                    refine zW.jcmp_ge rfl (by omega) (fun c60 => ?_) (fun c60 => ?_)
                    · skip
                      refine zW.run 1 (pc' := 176) (ls' := [some (.ref 7), some (.ref (42 + i)), some (.ref 8), some (.int (Int32.ofInt (s (42 + i) 5))), some (.int (Int32.ofInt ((s 12 ((s (42 + i) 5).toNat)) + ((s (42 + i) 2) / 20))))]) (st' := [.int (Int32.ofInt 9)]) (σ' := (zN L X (zhi s49) R G nc ns)) (fun n => rfl) ?_
                      exact J56 9 (by omega)
                    · skip
                      refine zW.run 1 (pc' := 164) (ls' := [some (.ref 7), some (.ref (42 + i)), some (.ref 8), some (.int (Int32.ofInt (s (42 + i) 5))), some (.int (Int32.ofInt ((s 12 ((s (42 + i) 5).toNat)) + ((s (42 + i) 2) / 20))))]) (st' := [.ref 8]) (σ' := (zN L X (zhi s49) R G nc ns)) (fun n => rfl) ?_
                      refine zW.getf (v := .ref 9) rfl rfl (zr_8 S (f := 0) (by decide)) ?_
                      refine zW.run 1 (pc' := 168) (ls' := [some (.ref 7), some (.ref (42 + i)), some (.ref 8), some (.int (Int32.ofInt (s (42 + i) 5))), some (.int (Int32.ofInt ((s 12 ((s (42 + i) 5).toNat)) + ((s (42 + i) 2) / 20))))]) (st' := [.int (Int32.ofInt (s (42 + i) 5)), .ref 9]) (σ' := (zN L X (zhi s49) R G nc ns)) (fun n => rfl) ?_
                      refine zW.jald (n := 144) (v := (s49 9 ((s (42 + i) 5).toNat))) rfl rfl (by decide) (by omega) rfl ?_
                      refine zW.run 1 (pc' := 170) (ls' := [some (.ref 7), some (.ref (42 + i)), some (.ref 8), some (.int (Int32.ofInt (s (42 + i) 5))), some (.int (Int32.ofInt ((s 12 ((s (42 + i) 5).toNat)) + ((s (42 + i) 2) / 20))))]) (st' := [.int (Int32.ofInt 1), .int (Int32.ofInt (s49 9 ((s (42 + i) 5).toNat)))]) (σ' := (zN L X (zhi s49) R G nc ns)) (fun n => rfl) ?_
                      refine zW.jadd rfl ?_
                      refine zW.run 1 (pc' := 176) (ls' := [some (.ref 7), some (.ref (42 + i)), some (.ref 8), some (.int (Int32.ofInt (s (42 + i) 5))), some (.int (Int32.ofInt ((s 12 ((s (42 + i) 5).toNat)) + ((s (42 + i) 2) / 20))))]) (st' := [.int (Int32.ofInt ((s49 9 ((s (42 + i) 5).toNat)) + 1))]) (σ' := (zN L X (zhi s49) R G nc ns)) (fun n => rfl) ?_
                      exact J56 ((s49 9 ((s (42 + i) 5).toNat)) + 1) (by omega)
            refine zW.jcmp_le rfl (by omega) (fun c61 => ?_) (fun c61 => ?_)
            · skip
              refine zW.run 1 (pc' := 103) (ls' := [some (.ref 7), some (.ref (42 + i)), some (.ref 8), some (.int (Int32.ofInt (s (42 + i) 5))), some (.int (Int32.ofInt ((s 12 ((s (42 + i) 5).toNat)) + ((s (42 + i) 2) / 20))))]) (st' := [.int (Int32.ofInt ((s 12 ((s (42 + i) 5).toNat)) + ((s (42 + i) 2) / 20))), .int (Int32.ofInt (s (42 + i) 5)), .ref 12]) (σ' := (zN L X (zhi s) R G nc ns)) (fun n => rfl) ?_
              exact J40 ((s 12 ((s (42 + i) 5).toNat)) + ((s (42 + i) 2) / 20)) (by omega)
            · skip
              refine zW.run 2 (pc' := 103) (ls' := [some (.ref 7), some (.ref (42 + i)), some (.ref 8), some (.int (Int32.ofInt (s (42 + i) 5))), some (.int (Int32.ofInt ((s 12 ((s (42 + i) 5).toNat)) + ((s (42 + i) 2) / 20))))]) (st' := [.int (Int32.ofInt 60), .int (Int32.ofInt (s (42 + i) 5)), .ref 12]) (σ' := (zN L X (zhi s) R G nc ns)) (fun n => rfl) ?_
              exact J40 60 (by omega)
      · skip
        refine zW.run 2 (pc' := 36) (ls' := [some (.ref 7), some (.ref (42 + i)), some (.ref 8), some (.int (Int32.ofInt (s (42 + i) 5))), none]) (st' := [.ref (42 + i), .ref 8]) (σ' := (zN L X (zhi s) R G nc ns)) (fun n => rfl) ?_
        refine zW.jget (v := (s (42 + i) 1)) rfl (zk_com (by omega)) (fun _ _ _ => rfl) rfl ?_
        refine zW.run 1 (pc' := 40) (ls' := [some (.ref 7), some (.ref (42 + i)), some (.ref 8), some (.int (Int32.ofInt (s (42 + i) 5))), none]) (st' := [.int (Int32.ofInt (s (42 + i) 5)), .int (Int32.ofInt (s (42 + i) 1)), .ref 8]) (σ' := (zN L X (zhi s) R G nc ns)) (fun n => rfl) ?_
        refine zW.callV rfl (by decide) rfl rfl rfl rfl rfl (Nat.le_of_ble_eq_true rfl) ?_
        refine t_Ground_touches S (zV_zA V) (a := (s (42 + i) 1)) (b := (s (42 + i) 5)) (by omega) (by omega) (fun f62 f63 => ?_) ?_
        · skip
          show zW ro 49 43 [some (.ref 7), some (.ref (42 + i)), some (.ref 8), some (.int (Int32.ofInt (s (42 + i) 5))), none] [.int (Int32.ofInt 1)] (zN L X (zhi s) R G nc ns) Q
          refine zW.run 2 (pc' := 48) (ls' := [some (.ref 7), some (.ref (42 + i)), some (.ref 8), some (.int (Int32.ofInt (s (42 + i) 5))), none]) (st' := [.ref 8]) (σ' := (zN L X (zhi s) R G nc ns)) (fun n => rfl) ?_
          refine zW.getf (v := .ref 11) rfl rfl (zr_8 S (f := 2) (by decide)) ?_
          refine zW.run 1 (pc' := 52) (ls' := [some (.ref 7), some (.ref (42 + i)), some (.ref 8), some (.int (Int32.ofInt (s (42 + i) 5))), none]) (st' := [.int (Int32.ofInt (s (42 + i) 5)), .ref 11]) (σ' := (zN L X (zhi s) R G nc ns)) (fun n => rfl) ?_
          refine zW.jald (n := 144) (v := (s 11 ((s (42 + i) 5).toNat))) rfl rfl (by decide) (by omega) rfl ?_
          have f64 := zV_sq V (k := (s (42 + i) 5).toNat) (by omega)
          refine zW.run 1 (pc' := 54) (ls' := [some (.ref 7), some (.ref (42 + i)), some (.ref 8), some (.int (Int32.ofInt (s (42 + i) 5))), none]) (st' := [.int (Int32.ofInt 1), .int (Int32.ofInt (s 11 ((s (42 + i) 5).toNat)))]) (σ' := (zN L X (zhi s) R G nc ns)) (fun n => rfl) ?_
          refine zW.jcmp_ne rfl (by omega) (fun c65 => ?_) (fun c65 => ?_)
          · skip
            refine zW.run 1 (pc' := 105) (ls' := [some (.ref 7), some (.ref (42 + i)), some (.ref 8), some (.int (Int32.ofInt (s (42 + i) 5))), none]) (st' := [.ref 8]) (σ' := (zN L X (zhi s) R G nc ns)) (fun n => rfl) ?_
            refine zW.getf (v := .ref 11) rfl rfl (zr_8 S (f := 2) (by decide)) ?_
            refine zW.run 1 (pc' := 109) (ls' := [some (.ref 7), some (.ref (42 + i)), some (.ref 8), some (.int (Int32.ofInt (s (42 + i) 5))), none]) (st' := [.int (Int32.ofInt (s (42 + i) 5)), .ref 11]) (σ' := (zN L X (zhi s) R G nc ns)) (fun n => rfl) ?_
            refine zW.jald (n := 144) (v := (s 11 ((s (42 + i) 5).toNat))) rfl rfl (by decide) (by omega) rfl ?_
            refine zW.run 1 (pc' := 112) (ls' := [some (.ref 7), some (.ref (42 + i)), some (.ref 8), some (.int (Int32.ofInt (s (42 + i) 5))), none]) (st' := [.int (Int32.ofInt 6), .int (Int32.ofInt (s 11 ((s (42 + i) 5).toNat)))]) (σ' := (zN L X (zhi s) R G nc ns)) (fun n => rfl) ?_
            refine zW.jcmp_ne rfl (by omega) (fun c66 => ?_) (fun c66 => ?_)
            · skip
              exact zW.vret rfl (hQ0 s (zV_mono V (by omega) (by omega)))
            · skip
              refine zW.run 3 (pc' := 118) (ls' := [some (.ref 7), some (.ref (42 + i)), some (.ref 8), some (.int (Int32.ofInt (s (42 + i) 5))), none]) (st' := [.int (Int32.ofInt (s (42 + i) 5)), .int (Int32.ofInt 0), .ref 7]) (σ' := (zN L X (zhi s) R G nc ns)) (fun n => rfl) ?_
              refine zW.callV rfl (by decide) rfl rfl rfl rfl rfl (Nat.le_of_ble_eq_true rfl) ?_
              refine t_Siege_isHeldBy S V (x := 0) (y := (s (42 + i) 5)) (by omega) (by omega) ?_ ?_
              · skip
                show zW ro 49 121 [some (.ref 7), some (.ref (42 + i)), some (.ref 8), some (.int (Int32.ofInt (s (42 + i) 5))), none] [.int (Int32.ofInt 1)] (zN L X (zhi s) R G nc ns) Q
                refine zW.run 1 (pc' := 124) (ls' := [some (.ref 7), some (.ref (42 + i)), some (.ref 8), some (.int (Int32.ofInt (s (42 + i) 5))), none]) (st' := []) (σ' := (zN L X (zhi s) R G nc ns)) (fun n => rfl) ?_
                exact zW.vret rfl (hQ0 s (zV_mono V (by omega) (by omega)))
              · skip
                show zW ro 49 121 [some (.ref 7), some (.ref (42 + i)), some (.ref 8), some (.int (Int32.ofInt (s (42 + i) 5))), none] [.int (Int32.ofInt 0)] (zN L X (zhi s) R G nc ns) Q
                refine zW.run 2 (pc' := 126) (ls' := [some (.ref 7), some (.ref (42 + i)), some (.ref 8), some (.int (Int32.ofInt (s (42 + i) 5))), none]) (st' := [.ref 8]) (σ' := (zN L X (zhi s) R G nc ns)) (fun n => rfl) ?_
                refine zW.getf (v := .ref 13) rfl rfl (zr_8 S (f := 4) (by decide)) ?_
                refine zW.run 2 (pc' := 131) (ls' := [some (.ref 7), some (.ref (42 + i)), some (.ref 8), some (.int (Int32.ofInt (s (42 + i) 5))), none]) (st' := [.int (Int32.ofInt (s (42 + i) 5)), .ref 13, .int (Int32.ofInt (s (42 + i) 5)), .ref 13]) (σ' := (zN L X (zhi s) R G nc ns)) (fun n => rfl) ?_
                refine zW.jald (n := 144) (v := (s 13 ((s (42 + i) 5).toNat))) rfl rfl (by decide) (by omega) rfl ?_
                refine zW.run 1 (pc' := 133) (ls' := [some (.ref 7), some (.ref (42 + i)), some (.ref 8), some (.int (Int32.ofInt (s (42 + i) 5))), none]) (st' := [.ref (42 + i), .int (Int32.ofInt (s 13 ((s (42 + i) 5).toNat))), .int (Int32.ofInt (s (42 + i) 5)), .ref 13]) (σ' := (zN L X (zhi s) R G nc ns)) (fun n => rfl) ?_
                refine zW.jget (v := (s (42 + i) 2)) rfl (zk_com (by omega)) (fun _ _ _ => rfl) rfl ?_
                refine zW.run 1 (pc' := 138) (ls' := [some (.ref 7), some (.ref (42 + i)), some (.ref 8), some (.int (Int32.ofInt (s (42 + i) 5))), none]) (st' := [.int (Int32.ofInt 10), .int (Int32.ofInt (s (42 + i) 2)), .int (Int32.ofInt (s 13 ((s (42 + i) 5).toNat))), .int (Int32.ofInt (s (42 + i) 5)), .ref 13]) (σ' := (zN L X (zhi s) R G nc ns)) (fun n => rfl) ?_
                refine zW.jdiv rfl (by omega) ?_
                refine zW.jadd rfl ?_
                refine zW.jast (n := 144) rfl rfl (by decide) (by omega) ?_
                have V67 : zV g U F T (B + 20) ph (zup s 13 ((s (42 + i) 5).toNat) ((s 13 ((s (42 + i) 5).toNat)) + ((s (42 + i) 2) / 10))) := (V_toil (zV_mono V (B2 := B + 20) (by omega) (by omega)) (by omega) (by omega))
                generalize hs68 : (zup s 13 ((s (42 + i) 5).toNat) ((s 13 ((s (42 + i) 5).toNat)) + ((s (42 + i) 2) / 10))) = s68 at V67 ⊢
                have k69 : s68 11 ((s (42 + i) 5).toNat) = (s 11 ((s (42 + i) 5).toNat)) := by rw [← hs68]; exact (zup_nj (by omega))
                have k70 : s68 9 ((s (42 + i) 5).toNat) = (s 9 ((s (42 + i) 5).toNat)) := by rw [← hs68]; exact (zup_nj (by omega))
                have k71 : s68 10 ((s (42 + i) 5).toNat) = (s 10 ((s (42 + i) 5).toNat)) := by rw [← hs68]; exact (zup_nj (by omega))
                refine zW.run 1 (pc' := 142) (ls' := [some (.ref 7), some (.ref (42 + i)), some (.ref 8), some (.int (Int32.ofInt (s (42 + i) 5))), none]) (st' := [.ref 8]) (σ' := (zN L X (zhi s68) R G nc ns)) (fun n => rfl) ?_
                refine zW.getf (v := .ref 13) rfl rfl (zr_8 S (f := 4) (by decide)) ?_
                refine zW.run 1 (pc' := 146) (ls' := [some (.ref 7), some (.ref (42 + i)), some (.ref 8), some (.int (Int32.ofInt (s (42 + i) 5))), none]) (st' := [.int (Int32.ofInt (s (42 + i) 5)), .ref 13]) (σ' := (zN L X (zhi s68) R G nc ns)) (fun n => rfl) ?_
                refine zW.jald (n := 144) (v := (s68 13 ((s (42 + i) 5).toNat))) rfl rfl (by decide) (by omega) rfl ?_
                have f72 := zV_sq V67 (k := (s (42 + i) 5).toNat) (by omega)
                refine zW.run 1 (pc' := 149) (ls' := [some (.ref 7), some (.ref (42 + i)), some (.ref 8), some (.int (Int32.ofInt (s (42 + i) 5))), none]) (st' := [.int (Int32.ofInt 80), .int (Int32.ofInt (s68 13 ((s (42 + i) 5).toNat)))]) (σ' := (zN L X (zhi s68) R G nc ns)) (fun n => rfl) ?_
                refine zW.jcmp_lt rfl (by omega) (fun c73 => ?_) (fun c73 => ?_)
                · skip
                  exact zW.vret rfl (hQ0 s68 V67)
                · skip
                  refine zW.run 1 (pc' := 153) (ls' := [some (.ref 7), some (.ref (42 + i)), some (.ref 8), some (.int (Int32.ofInt (s (42 + i) 5))), none]) (st' := [.ref 8]) (σ' := (zN L X (zhi s68) R G nc ns)) (fun n => rfl) ?_
                  refine zW.getf (v := .ref 9) rfl rfl (zr_8 S (f := 0) (by decide)) ?_
                  refine zW.run 1 (pc' := 157) (ls' := [some (.ref 7), some (.ref (42 + i)), some (.ref 8), some (.int (Int32.ofInt (s (42 + i) 5))), none]) (st' := [.int (Int32.ofInt (s (42 + i) 5)), .ref 9]) (σ' := (zN L X (zhi s68) R G nc ns)) (fun n => rfl) ?_
                  refine zW.jald (n := 144) (v := (s68 9 ((s (42 + i) 5).toNat))) rfl rfl (by decide) (by omega) rfl ?_
                  refine zW.run 1 (pc' := 160) (ls' := [some (.ref 7), some (.ref (42 + i)), some (.ref 8), some (.int (Int32.ofInt (s (42 + i) 5))), none]) (st' := [.int (Int32.ofInt 9), .int (Int32.ofInt (s68 9 ((s (42 + i) 5).toNat)))]) (σ' := (zN L X (zhi s68) R G nc ns)) (fun n => rfl) ?_
                  have J75 : ∀ (v74 : Int), ((s68 9 ((s (42 + i) 5).toNat)) ≥ 9 ∧ v74 = 9) ∨ ((s68 9 ((s (42 + i) 5).toNat)) < 9 ∧ v74 = ((s68 9 ((s (42 + i) 5).toNat)) + 1)) → zW ro 49 176 [some (.ref 7), some (.ref (42 + i)), some (.ref 8), some (.int (Int32.ofInt (s (42 + i) 5))), none] [.int (Int32.ofInt v74)] (zN L X (zhi s68) R G nc ns) Q := by
                    intro v74 c76
                    refine zW.run 5 (pc' := 183) (ls' := [some (.ref 7), some (.ref (42 + i)), some (.ref 8), some (.int (Int32.ofInt (s (42 + i) 5))), some (.int (Int32.ofInt v74))]) (st' := [.ref 8, .int (Int32.ofInt v74), .int (Int32.ofInt (s (42 + i) 5)), .ref 8]) (σ' := (zN L X (zhi s68) R G nc ns)) (fun n => rfl) ?_
                    refine zW.getf (v := .ref 10) rfl rfl (zr_8 S (f := 1) (by decide)) ?_
                    refine zW.run 1 (pc' := 187) (ls' := [some (.ref 7), some (.ref (42 + i)), some (.ref 8), some (.int (Int32.ofInt (s (42 + i) 5))), some (.int (Int32.ofInt v74))]) (st' := [.int (Int32.ofInt (s (42 + i) 5)), .ref 10, .int (Int32.ofInt v74), .int (Int32.ofInt (s (42 + i) 5)), .ref 8]) (σ' := (zN L X (zhi s68) R G nc ns)) (fun n => rfl) ?_
                    refine zW.jald (n := 144) (v := (s68 10 ((s (42 + i) 5).toNat))) rfl rfl (by decide) (by omega) rfl ?_
                    refine zW.run 2 (pc' := 191) (ls' := [some (.ref 7), some (.ref (42 + i)), some (.ref 8), some (.int (Int32.ofInt (s (42 + i) 5))), some (.int (Int32.ofInt v74))]) (st' := [.int (Int32.ofInt 10), .int (Int32.ofInt 1), .int (Int32.ofInt (s68 10 ((s (42 + i) 5).toNat))), .int (Int32.ofInt v74), .int (Int32.ofInt (s (42 + i) 5)), .ref 8]) (σ' := (zN L X (zhi s68) R G nc ns)) (fun n => rfl) ?_
                    refine zW.callV rfl (by decide) rfl rfl rfl rfl rfl (Nat.le_of_ble_eq_true rfl) ?_
                    refine t_Ground_shape_1 S (zV_zA V67) (x := (s (42 + i) 5)) (a := v74) (b := (s68 10 ((s (42 + i) 5).toNat))) (d := 10) (by omega) ?_
                    show zW ro 49 194 [some (.ref 7), some (.ref (42 + i)), some (.ref 8), some (.int (Int32.ofInt (s (42 + i) 5))), some (.int (Int32.ofInt v74))] [] (zN L X (zhi (zup (zup (zup (zup (zup s68 9 ((s (42 + i) 5).toNat) v74) 10 ((s (42 + i) 5).toNat) (s68 10 ((s (42 + i) 5).toNat))) 11 ((s (42 + i) 5).toNat) 1) 12 ((s (42 + i) 5).toNat) 10) 13 ((s (42 + i) 5).toNat) 0)) R G nc ns) Q
                    have V77 : zV g U F T (B + 20) ph (zup (zup (zup (zup (zup s68 9 ((s (42 + i) 5).toNat) v74) 10 ((s (42 + i) 5).toNat) (s68 10 ((s (42 + i) 5).toNat))) 11 ((s (42 + i) 5).toNat) 1) 12 ((s (42 + i) 5).toNat) 10) 13 ((s (42 + i) 5).toNat) 0) := (V_wall V67 (by omega) (by omega) (by omega) (by omega))
                    generalize hs78 : (zup (zup (zup (zup (zup s68 9 ((s (42 + i) 5).toNat) v74) 10 ((s (42 + i) 5).toNat) (s68 10 ((s (42 + i) 5).toNat))) 11 ((s (42 + i) 5).toNat) 1) 12 ((s (42 + i) 5).toNat) 10) 13 ((s (42 + i) 5).toNat) 0) = s78 at V77 ⊢
                    exact zW.vret rfl (hQ0 s78 V77)
                  refine zW.jcmp_ge rfl (by omega) (fun c79 => ?_) (fun c79 => ?_)
                  · skip
                    refine zW.run 1 (pc' := 176) (ls' := [some (.ref 7), some (.ref (42 + i)), some (.ref 8), some (.int (Int32.ofInt (s (42 + i) 5))), none]) (st' := [.int (Int32.ofInt 9)]) (σ' := (zN L X (zhi s68) R G nc ns)) (fun n => rfl) ?_
                    exact J75 9 (by omega)
                  · skip
                    refine zW.run 1 (pc' := 164) (ls' := [some (.ref 7), some (.ref (42 + i)), some (.ref 8), some (.int (Int32.ofInt (s (42 + i) 5))), none]) (st' := [.ref 8]) (σ' := (zN L X (zhi s68) R G nc ns)) (fun n => rfl) ?_
                    refine zW.getf (v := .ref 9) rfl rfl (zr_8 S (f := 0) (by decide)) ?_
                    refine zW.run 1 (pc' := 168) (ls' := [some (.ref 7), some (.ref (42 + i)), some (.ref 8), some (.int (Int32.ofInt (s (42 + i) 5))), none]) (st' := [.int (Int32.ofInt (s (42 + i) 5)), .ref 9]) (σ' := (zN L X (zhi s68) R G nc ns)) (fun n => rfl) ?_
                    refine zW.jald (n := 144) (v := (s68 9 ((s (42 + i) 5).toNat))) rfl rfl (by decide) (by omega) rfl ?_
                    refine zW.run 1 (pc' := 170) (ls' := [some (.ref 7), some (.ref (42 + i)), some (.ref 8), some (.int (Int32.ofInt (s (42 + i) 5))), none]) (st' := [.int (Int32.ofInt 1), .int (Int32.ofInt (s68 9 ((s (42 + i) 5).toNat)))]) (σ' := (zN L X (zhi s68) R G nc ns)) (fun n => rfl) ?_
                    refine zW.jadd rfl ?_
                    refine zW.run 1 (pc' := 176) (ls' := [some (.ref 7), some (.ref (42 + i)), some (.ref 8), some (.int (Int32.ofInt (s (42 + i) 5))), none]) (st' := [.int (Int32.ofInt ((s68 9 ((s (42 + i) 5).toNat)) + 1))]) (σ' := (zN L X (zhi s68) R G nc ns)) (fun n => rfl) ?_
                    exact J75 ((s68 9 ((s (42 + i) 5).toNat)) + 1) (by omega)
          · skip
            refine zW.run 1 (pc' := 58) (ls' := [some (.ref 7), some (.ref (42 + i)), some (.ref 8), some (.int (Int32.ofInt (s (42 + i) 5))), none]) (st' := [.ref 8]) (σ' := (zN L X (zhi s) R G nc ns)) (fun n => rfl) ?_
            refine zW.getf (v := .ref 12) rfl rfl (zr_8 S (f := 3) (by decide)) ?_
            refine zW.run 1 (pc' := 62) (ls' := [some (.ref 7), some (.ref (42 + i)), some (.ref 8), some (.int (Int32.ofInt (s (42 + i) 5))), none]) (st' := [.int (Int32.ofInt (s (42 + i) 5)), .ref 12]) (σ' := (zN L X (zhi s) R G nc ns)) (fun n => rfl) ?_
            refine zW.jald (n := 144) (v := (s 12 ((s (42 + i) 5).toNat))) rfl rfl (by decide) (by omega) rfl ?_
            refine zW.run 1 (pc' := 65) (ls' := [some (.ref 7), some (.ref (42 + i)), some (.ref 8), some (.int (Int32.ofInt (s (42 + i) 5))), none]) (st' := [.int (Int32.ofInt 60), .int (Int32.ofInt (s 12 ((s (42 + i) 5).toNat)))]) (σ' := (zN L X (zhi s) R G nc ns)) (fun n => rfl) ?_
            refine zW.jcmp_ge rfl (by omega) (fun c80 => ?_) (fun c80 => ?_)
            · skip
              refine zW.run 1 (pc' := 105) (ls' := [some (.ref 7), some (.ref (42 + i)), some (.ref 8), some (.int (Int32.ofInt (s (42 + i) 5))), none]) (st' := [.ref 8]) (σ' := (zN L X (zhi s) R G nc ns)) (fun n => rfl) ?_
              refine zW.getf (v := .ref 11) rfl rfl (zr_8 S (f := 2) (by decide)) ?_
              refine zW.run 1 (pc' := 109) (ls' := [some (.ref 7), some (.ref (42 + i)), some (.ref 8), some (.int (Int32.ofInt (s (42 + i) 5))), none]) (st' := [.int (Int32.ofInt (s (42 + i) 5)), .ref 11]) (σ' := (zN L X (zhi s) R G nc ns)) (fun n => rfl) ?_
              refine zW.jald (n := 144) (v := (s 11 ((s (42 + i) 5).toNat))) rfl rfl (by decide) (by omega) rfl ?_
              refine zW.run 1 (pc' := 112) (ls' := [some (.ref 7), some (.ref (42 + i)), some (.ref 8), some (.int (Int32.ofInt (s (42 + i) 5))), none]) (st' := [.int (Int32.ofInt 6), .int (Int32.ofInt (s 11 ((s (42 + i) 5).toNat)))]) (σ' := (zN L X (zhi s) R G nc ns)) (fun n => rfl) ?_
              refine zW.jcmp_ne rfl (by omega) (fun c81 => ?_) (fun c81 => ?_)
              · skip
                exact zW.vret rfl (hQ0 s (zV_mono V (by omega) (by omega)))
              · skip
                refine zW.run 3 (pc' := 118) (ls' := [some (.ref 7), some (.ref (42 + i)), some (.ref 8), some (.int (Int32.ofInt (s (42 + i) 5))), none]) (st' := [.int (Int32.ofInt (s (42 + i) 5)), .int (Int32.ofInt 0), .ref 7]) (σ' := (zN L X (zhi s) R G nc ns)) (fun n => rfl) ?_
                refine zW.callV rfl (by decide) rfl rfl rfl rfl rfl (Nat.le_of_ble_eq_true rfl) ?_
                refine t_Siege_isHeldBy S V (x := 0) (y := (s (42 + i) 5)) (by omega) (by omega) ?_ ?_
                · skip
                  show zW ro 49 121 [some (.ref 7), some (.ref (42 + i)), some (.ref 8), some (.int (Int32.ofInt (s (42 + i) 5))), none] [.int (Int32.ofInt 1)] (zN L X (zhi s) R G nc ns) Q
                  refine zW.run 1 (pc' := 124) (ls' := [some (.ref 7), some (.ref (42 + i)), some (.ref 8), some (.int (Int32.ofInt (s (42 + i) 5))), none]) (st' := []) (σ' := (zN L X (zhi s) R G nc ns)) (fun n => rfl) ?_
                  exact zW.vret rfl (hQ0 s (zV_mono V (by omega) (by omega)))
                · skip
                  show zW ro 49 121 [some (.ref 7), some (.ref (42 + i)), some (.ref 8), some (.int (Int32.ofInt (s (42 + i) 5))), none] [.int (Int32.ofInt 0)] (zN L X (zhi s) R G nc ns) Q
                  refine zW.run 2 (pc' := 126) (ls' := [some (.ref 7), some (.ref (42 + i)), some (.ref 8), some (.int (Int32.ofInt (s (42 + i) 5))), none]) (st' := [.ref 8]) (σ' := (zN L X (zhi s) R G nc ns)) (fun n => rfl) ?_
                  refine zW.getf (v := .ref 13) rfl rfl (zr_8 S (f := 4) (by decide)) ?_
                  refine zW.run 2 (pc' := 131) (ls' := [some (.ref 7), some (.ref (42 + i)), some (.ref 8), some (.int (Int32.ofInt (s (42 + i) 5))), none]) (st' := [.int (Int32.ofInt (s (42 + i) 5)), .ref 13, .int (Int32.ofInt (s (42 + i) 5)), .ref 13]) (σ' := (zN L X (zhi s) R G nc ns)) (fun n => rfl) ?_
                  refine zW.jald (n := 144) (v := (s 13 ((s (42 + i) 5).toNat))) rfl rfl (by decide) (by omega) rfl ?_
                  refine zW.run 1 (pc' := 133) (ls' := [some (.ref 7), some (.ref (42 + i)), some (.ref 8), some (.int (Int32.ofInt (s (42 + i) 5))), none]) (st' := [.ref (42 + i), .int (Int32.ofInt (s 13 ((s (42 + i) 5).toNat))), .int (Int32.ofInt (s (42 + i) 5)), .ref 13]) (σ' := (zN L X (zhi s) R G nc ns)) (fun n => rfl) ?_
                  refine zW.jget (v := (s (42 + i) 2)) rfl (zk_com (by omega)) (fun _ _ _ => rfl) rfl ?_
                  refine zW.run 1 (pc' := 138) (ls' := [some (.ref 7), some (.ref (42 + i)), some (.ref 8), some (.int (Int32.ofInt (s (42 + i) 5))), none]) (st' := [.int (Int32.ofInt 10), .int (Int32.ofInt (s (42 + i) 2)), .int (Int32.ofInt (s 13 ((s (42 + i) 5).toNat))), .int (Int32.ofInt (s (42 + i) 5)), .ref 13]) (σ' := (zN L X (zhi s) R G nc ns)) (fun n => rfl) ?_
                  refine zW.jdiv rfl (by omega) ?_
                  refine zW.jadd rfl ?_
                  refine zW.jast (n := 144) rfl rfl (by decide) (by omega) ?_
                  have V82 : zV g U F T (B + 20) ph (zup s 13 ((s (42 + i) 5).toNat) ((s 13 ((s (42 + i) 5).toNat)) + ((s (42 + i) 2) / 10))) := (V_toil (zV_mono V (B2 := B + 20) (by omega) (by omega)) (by omega) (by omega))
                  generalize hs83 : (zup s 13 ((s (42 + i) 5).toNat) ((s 13 ((s (42 + i) 5).toNat)) + ((s (42 + i) 2) / 10))) = s83 at V82 ⊢
                  have k84 : s83 11 ((s (42 + i) 5).toNat) = (s 11 ((s (42 + i) 5).toNat)) := by rw [← hs83]; exact (zup_nj (by omega))
                  have k85 : s83 9 ((s (42 + i) 5).toNat) = (s 9 ((s (42 + i) 5).toNat)) := by rw [← hs83]; exact (zup_nj (by omega))
                  have k86 : s83 10 ((s (42 + i) 5).toNat) = (s 10 ((s (42 + i) 5).toNat)) := by rw [← hs83]; exact (zup_nj (by omega))
                  refine zW.run 1 (pc' := 142) (ls' := [some (.ref 7), some (.ref (42 + i)), some (.ref 8), some (.int (Int32.ofInt (s (42 + i) 5))), none]) (st' := [.ref 8]) (σ' := (zN L X (zhi s83) R G nc ns)) (fun n => rfl) ?_
                  refine zW.getf (v := .ref 13) rfl rfl (zr_8 S (f := 4) (by decide)) ?_
                  refine zW.run 1 (pc' := 146) (ls' := [some (.ref 7), some (.ref (42 + i)), some (.ref 8), some (.int (Int32.ofInt (s (42 + i) 5))), none]) (st' := [.int (Int32.ofInt (s (42 + i) 5)), .ref 13]) (σ' := (zN L X (zhi s83) R G nc ns)) (fun n => rfl) ?_
                  refine zW.jald (n := 144) (v := (s83 13 ((s (42 + i) 5).toNat))) rfl rfl (by decide) (by omega) rfl ?_
                  have f87 := zV_sq V82 (k := (s (42 + i) 5).toNat) (by omega)
                  refine zW.run 1 (pc' := 149) (ls' := [some (.ref 7), some (.ref (42 + i)), some (.ref 8), some (.int (Int32.ofInt (s (42 + i) 5))), none]) (st' := [.int (Int32.ofInt 80), .int (Int32.ofInt (s83 13 ((s (42 + i) 5).toNat)))]) (σ' := (zN L X (zhi s83) R G nc ns)) (fun n => rfl) ?_
                  refine zW.jcmp_lt rfl (by omega) (fun c88 => ?_) (fun c88 => ?_)
                  · skip
                    exact zW.vret rfl (hQ0 s83 V82)
                  · skip
                    refine zW.run 1 (pc' := 153) (ls' := [some (.ref 7), some (.ref (42 + i)), some (.ref 8), some (.int (Int32.ofInt (s (42 + i) 5))), none]) (st' := [.ref 8]) (σ' := (zN L X (zhi s83) R G nc ns)) (fun n => rfl) ?_
                    refine zW.getf (v := .ref 9) rfl rfl (zr_8 S (f := 0) (by decide)) ?_
                    refine zW.run 1 (pc' := 157) (ls' := [some (.ref 7), some (.ref (42 + i)), some (.ref 8), some (.int (Int32.ofInt (s (42 + i) 5))), none]) (st' := [.int (Int32.ofInt (s (42 + i) 5)), .ref 9]) (σ' := (zN L X (zhi s83) R G nc ns)) (fun n => rfl) ?_
                    refine zW.jald (n := 144) (v := (s83 9 ((s (42 + i) 5).toNat))) rfl rfl (by decide) (by omega) rfl ?_
                    refine zW.run 1 (pc' := 160) (ls' := [some (.ref 7), some (.ref (42 + i)), some (.ref 8), some (.int (Int32.ofInt (s (42 + i) 5))), none]) (st' := [.int (Int32.ofInt 9), .int (Int32.ofInt (s83 9 ((s (42 + i) 5).toNat)))]) (σ' := (zN L X (zhi s83) R G nc ns)) (fun n => rfl) ?_
                    have J90 : ∀ (v89 : Int), ((s83 9 ((s (42 + i) 5).toNat)) ≥ 9 ∧ v89 = 9) ∨ ((s83 9 ((s (42 + i) 5).toNat)) < 9 ∧ v89 = ((s83 9 ((s (42 + i) 5).toNat)) + 1)) → zW ro 49 176 [some (.ref 7), some (.ref (42 + i)), some (.ref 8), some (.int (Int32.ofInt (s (42 + i) 5))), none] [.int (Int32.ofInt v89)] (zN L X (zhi s83) R G nc ns) Q := by
                      intro v89 c91
                      refine zW.run 5 (pc' := 183) (ls' := [some (.ref 7), some (.ref (42 + i)), some (.ref 8), some (.int (Int32.ofInt (s (42 + i) 5))), some (.int (Int32.ofInt v89))]) (st' := [.ref 8, .int (Int32.ofInt v89), .int (Int32.ofInt (s (42 + i) 5)), .ref 8]) (σ' := (zN L X (zhi s83) R G nc ns)) (fun n => rfl) ?_
                      refine zW.getf (v := .ref 10) rfl rfl (zr_8 S (f := 1) (by decide)) ?_
                      refine zW.run 1 (pc' := 187) (ls' := [some (.ref 7), some (.ref (42 + i)), some (.ref 8), some (.int (Int32.ofInt (s (42 + i) 5))), some (.int (Int32.ofInt v89))]) (st' := [.int (Int32.ofInt (s (42 + i) 5)), .ref 10, .int (Int32.ofInt v89), .int (Int32.ofInt (s (42 + i) 5)), .ref 8]) (σ' := (zN L X (zhi s83) R G nc ns)) (fun n => rfl) ?_
                      refine zW.jald (n := 144) (v := (s83 10 ((s (42 + i) 5).toNat))) rfl rfl (by decide) (by omega) rfl ?_
                      refine zW.run 2 (pc' := 191) (ls' := [some (.ref 7), some (.ref (42 + i)), some (.ref 8), some (.int (Int32.ofInt (s (42 + i) 5))), some (.int (Int32.ofInt v89))]) (st' := [.int (Int32.ofInt 10), .int (Int32.ofInt 1), .int (Int32.ofInt (s83 10 ((s (42 + i) 5).toNat))), .int (Int32.ofInt v89), .int (Int32.ofInt (s (42 + i) 5)), .ref 8]) (σ' := (zN L X (zhi s83) R G nc ns)) (fun n => rfl) ?_
                      refine zW.callV rfl (by decide) rfl rfl rfl rfl rfl (Nat.le_of_ble_eq_true rfl) ?_
                      refine t_Ground_shape_1 S (zV_zA V82) (x := (s (42 + i) 5)) (a := v89) (b := (s83 10 ((s (42 + i) 5).toNat))) (d := 10) (by omega) ?_
                      show zW ro 49 194 [some (.ref 7), some (.ref (42 + i)), some (.ref 8), some (.int (Int32.ofInt (s (42 + i) 5))), some (.int (Int32.ofInt v89))] [] (zN L X (zhi (zup (zup (zup (zup (zup s83 9 ((s (42 + i) 5).toNat) v89) 10 ((s (42 + i) 5).toNat) (s83 10 ((s (42 + i) 5).toNat))) 11 ((s (42 + i) 5).toNat) 1) 12 ((s (42 + i) 5).toNat) 10) 13 ((s (42 + i) 5).toNat) 0)) R G nc ns) Q
                      have V92 : zV g U F T (B + 20) ph (zup (zup (zup (zup (zup s83 9 ((s (42 + i) 5).toNat) v89) 10 ((s (42 + i) 5).toNat) (s83 10 ((s (42 + i) 5).toNat))) 11 ((s (42 + i) 5).toNat) 1) 12 ((s (42 + i) 5).toNat) 10) 13 ((s (42 + i) 5).toNat) 0) := (V_wall V82 (by omega) (by omega) (by omega) (by omega))
                      generalize hs93 : (zup (zup (zup (zup (zup s83 9 ((s (42 + i) 5).toNat) v89) 10 ((s (42 + i) 5).toNat) (s83 10 ((s (42 + i) 5).toNat))) 11 ((s (42 + i) 5).toNat) 1) 12 ((s (42 + i) 5).toNat) 10) 13 ((s (42 + i) 5).toNat) 0) = s93 at V92 ⊢
                      exact zW.vret rfl (hQ0 s93 V92)
                    refine zW.jcmp_ge rfl (by omega) (fun c94 => ?_) (fun c94 => ?_)
                    · skip
                      refine zW.run 1 (pc' := 176) (ls' := [some (.ref 7), some (.ref (42 + i)), some (.ref 8), some (.int (Int32.ofInt (s (42 + i) 5))), none]) (st' := [.int (Int32.ofInt 9)]) (σ' := (zN L X (zhi s83) R G nc ns)) (fun n => rfl) ?_
                      exact J90 9 (by omega)
                    · skip
                      refine zW.run 1 (pc' := 164) (ls' := [some (.ref 7), some (.ref (42 + i)), some (.ref 8), some (.int (Int32.ofInt (s (42 + i) 5))), none]) (st' := [.ref 8]) (σ' := (zN L X (zhi s83) R G nc ns)) (fun n => rfl) ?_
                      refine zW.getf (v := .ref 9) rfl rfl (zr_8 S (f := 0) (by decide)) ?_
                      refine zW.run 1 (pc' := 168) (ls' := [some (.ref 7), some (.ref (42 + i)), some (.ref 8), some (.int (Int32.ofInt (s (42 + i) 5))), none]) (st' := [.int (Int32.ofInt (s (42 + i) 5)), .ref 9]) (σ' := (zN L X (zhi s83) R G nc ns)) (fun n => rfl) ?_
                      refine zW.jald (n := 144) (v := (s83 9 ((s (42 + i) 5).toNat))) rfl rfl (by decide) (by omega) rfl ?_
                      refine zW.run 1 (pc' := 170) (ls' := [some (.ref 7), some (.ref (42 + i)), some (.ref 8), some (.int (Int32.ofInt (s (42 + i) 5))), none]) (st' := [.int (Int32.ofInt 1), .int (Int32.ofInt (s83 9 ((s (42 + i) 5).toNat)))]) (σ' := (zN L X (zhi s83) R G nc ns)) (fun n => rfl) ?_
                      refine zW.jadd rfl ?_
                      refine zW.run 1 (pc' := 176) (ls' := [some (.ref 7), some (.ref (42 + i)), some (.ref 8), some (.int (Int32.ofInt (s (42 + i) 5))), none]) (st' := [.int (Int32.ofInt ((s83 9 ((s (42 + i) 5).toNat)) + 1))]) (σ' := (zN L X (zhi s83) R G nc ns)) (fun n => rfl) ?_
                      exact J90 ((s83 9 ((s (42 + i) 5).toNat)) + 1) (by omega)
            · skip
              have hq := (zV_zE V).1 (Int.toNat (s (42 + i) 5)) (by omega) (by omega)
              refine zW.run 1 (pc' := 69) (ls' := [some (.ref 7), some (.ref (42 + i)), some (.ref 8), some (.int (Int32.ofInt (s (42 + i) 5))), none]) (st' := [.ref 8]) (σ' := (zN L X (zhi s) R G nc ns)) (fun n => rfl) ?_
              refine zW.getf (v := .ref 12) rfl rfl (zr_8 S (f := 3) (by decide)) ?_
              refine zW.run 1 (pc' := 73) (ls' := [some (.ref 7), some (.ref (42 + i)), some (.ref 8), some (.int (Int32.ofInt (s (42 + i) 5))), none]) (st' := [.int (Int32.ofInt (s (42 + i) 5)), .ref 12]) (σ' := (zN L X (zhi s) R G nc ns)) (fun n => rfl) ?_
              refine zW.jald (n := 144) (v := (s 12 ((s (42 + i) 5).toNat))) rfl rfl (by decide) (by omega) rfl ?_
              refine zW.run 1 (pc' := 75) (ls' := [some (.ref 7), some (.ref (42 + i)), some (.ref 8), some (.int (Int32.ofInt (s (42 + i) 5))), none]) (st' := [.ref (42 + i), .int (Int32.ofInt (s 12 ((s (42 + i) 5).toNat)))]) (σ' := (zN L X (zhi s) R G nc ns)) (fun n => rfl) ?_
              refine zW.jget (v := (s (42 + i) 2)) rfl (zk_com (by omega)) (fun _ _ _ => rfl) rfl ?_
              refine zW.run 1 (pc' := 80) (ls' := [some (.ref 7), some (.ref (42 + i)), some (.ref 8), some (.int (Int32.ofInt (s (42 + i) 5))), none]) (st' := [.int (Int32.ofInt 20), .int (Int32.ofInt (s (42 + i) 2)), .int (Int32.ofInt (s 12 ((s (42 + i) 5).toNat)))]) (σ' := (zN L X (zhi s) R G nc ns)) (fun n => rfl) ?_
              refine zW.jdiv rfl (by omega) ?_
              refine zW.jadd rfl ?_
              refine zW.run 2 (pc' := 85) (ls' := [some (.ref 7), some (.ref (42 + i)), some (.ref 8), some (.int (Int32.ofInt (s (42 + i) 5))), some (.int (Int32.ofInt ((s 12 ((s (42 + i) 5).toNat)) + ((s (42 + i) 2) / 20))))]) (st' := [.ref 8]) (σ' := (zN L X (zhi s) R G nc ns)) (fun n => rfl) ?_
              refine zW.getf (v := .ref 12) rfl rfl (zr_8 S (f := 3) (by decide)) ?_
              refine zW.run 3 (pc' := 93) (ls' := [some (.ref 7), some (.ref (42 + i)), some (.ref 8), some (.int (Int32.ofInt (s (42 + i) 5))), some (.int (Int32.ofInt ((s 12 ((s (42 + i) 5).toNat)) + ((s (42 + i) 2) / 20))))]) (st' := [.int (Int32.ofInt 60), .int (Int32.ofInt ((s 12 ((s (42 + i) 5).toNat)) + ((s (42 + i) 2) / 20))), .int (Int32.ofInt (s (42 + i) 5)), .ref 12]) (σ' := (zN L X (zhi s) R G nc ns)) (fun n => rfl) ?_
              have J96 : ∀ (v95 : Int), (((s 12 ((s (42 + i) 5).toNat)) + ((s (42 + i) 2) / 20)) ≤ 60 ∧ v95 = ((s 12 ((s (42 + i) 5).toNat)) + ((s (42 + i) 2) / 20))) ∨ (((s 12 ((s (42 + i) 5).toNat)) + ((s (42 + i) 2) / 20)) > 60 ∧ v95 = 60) → zW ro 49 103 [some (.ref 7), some (.ref (42 + i)), some (.ref 8), some (.int (Int32.ofInt (s (42 + i) 5))), some (.int (Int32.ofInt ((s 12 ((s (42 + i) 5).toNat)) + ((s (42 + i) 2) / 20))))] [.int (Int32.ofInt v95), .int (Int32.ofInt (s (42 + i) 5)), .ref 12] (zN L X (zhi s) R G nc ns) Q := by
                intro v95 c97
                refine zW.jast (n := 144) rfl rfl (by decide) (by omega) ?_
                have V98 : zV g U F T B ph (zup s 12 ((s (42 + i) 5).toNat) v95) := (V_firm V (by omega) (by omega) (by omega))
                generalize hs99 : (zup s 12 ((s (42 + i) 5).toNat) v95) = s99 at V98 ⊢
                have k100 : s99 11 ((s (42 + i) 5).toNat) = (s 11 ((s (42 + i) 5).toNat)) := by rw [← hs99]; exact (zup_nj (by omega))
                refine zW.run 1 (pc' := 105) (ls' := [some (.ref 7), some (.ref (42 + i)), some (.ref 8), some (.int (Int32.ofInt (s (42 + i) 5))), some (.int (Int32.ofInt ((s 12 ((s (42 + i) 5).toNat)) + ((s (42 + i) 2) / 20))))]) (st' := [.ref 8]) (σ' := (zN L X (zhi s99) R G nc ns)) (fun n => rfl) ?_
                refine zW.getf (v := .ref 11) rfl rfl (zr_8 S (f := 2) (by decide)) ?_
                refine zW.run 1 (pc' := 109) (ls' := [some (.ref 7), some (.ref (42 + i)), some (.ref 8), some (.int (Int32.ofInt (s (42 + i) 5))), some (.int (Int32.ofInt ((s 12 ((s (42 + i) 5).toNat)) + ((s (42 + i) 2) / 20))))]) (st' := [.int (Int32.ofInt (s (42 + i) 5)), .ref 11]) (σ' := (zN L X (zhi s99) R G nc ns)) (fun n => rfl) ?_
                refine zW.jald (n := 144) (v := (s99 11 ((s (42 + i) 5).toNat))) rfl rfl (by decide) (by omega) rfl ?_
                have f101 := zV_sq V98 (k := (s (42 + i) 5).toNat) (by omega)
                refine zW.run 1 (pc' := 112) (ls' := [some (.ref 7), some (.ref (42 + i)), some (.ref 8), some (.int (Int32.ofInt (s (42 + i) 5))), some (.int (Int32.ofInt ((s 12 ((s (42 + i) 5).toNat)) + ((s (42 + i) 2) / 20))))]) (st' := [.int (Int32.ofInt 6), .int (Int32.ofInt (s99 11 ((s (42 + i) 5).toNat)))]) (σ' := (zN L X (zhi s99) R G nc ns)) (fun n => rfl) ?_
                refine zW.jcmp_ne rfl (by omega) (fun c102 => ?_) (fun c102 => ?_)
                · skip
                  exact zW.vret rfl (hQ0 s99 (zV_mono V98 (by omega) (by omega)))
                · skip
                  refine zW.run 3 (pc' := 118) (ls' := [some (.ref 7), some (.ref (42 + i)), some (.ref 8), some (.int (Int32.ofInt (s (42 + i) 5))), some (.int (Int32.ofInt ((s 12 ((s (42 + i) 5).toNat)) + ((s (42 + i) 2) / 20))))]) (st' := [.int (Int32.ofInt (s (42 + i) 5)), .int (Int32.ofInt 0), .ref 7]) (σ' := (zN L X (zhi s99) R G nc ns)) (fun n => rfl) ?_
                  refine zW.callV rfl (by decide) rfl rfl rfl rfl rfl (Nat.le_of_ble_eq_true rfl) ?_
                  refine t_Siege_isHeldBy S V98 (x := 0) (y := (s (42 + i) 5)) (by omega) (by omega) ?_ ?_
                  · skip
                    show zW ro 49 121 [some (.ref 7), some (.ref (42 + i)), some (.ref 8), some (.int (Int32.ofInt (s (42 + i) 5))), some (.int (Int32.ofInt ((s 12 ((s (42 + i) 5).toNat)) + ((s (42 + i) 2) / 20))))] [.int (Int32.ofInt 1)] (zN L X (zhi s99) R G nc ns) Q
                    refine zW.run 1 (pc' := 124) (ls' := [some (.ref 7), some (.ref (42 + i)), some (.ref 8), some (.int (Int32.ofInt (s (42 + i) 5))), some (.int (Int32.ofInt ((s 12 ((s (42 + i) 5).toNat)) + ((s (42 + i) 2) / 20))))]) (st' := []) (σ' := (zN L X (zhi s99) R G nc ns)) (fun n => rfl) ?_
                    exact zW.vret rfl (hQ0 s99 (zV_mono V98 (by omega) (by omega)))
                  · skip
                    show zW ro 49 121 [some (.ref 7), some (.ref (42 + i)), some (.ref 8), some (.int (Int32.ofInt (s (42 + i) 5))), some (.int (Int32.ofInt ((s 12 ((s (42 + i) 5).toNat)) + ((s (42 + i) 2) / 20))))] [.int (Int32.ofInt 0)] (zN L X (zhi s99) R G nc ns) Q
                    refine zW.run 2 (pc' := 126) (ls' := [some (.ref 7), some (.ref (42 + i)), some (.ref 8), some (.int (Int32.ofInt (s (42 + i) 5))), some (.int (Int32.ofInt ((s 12 ((s (42 + i) 5).toNat)) + ((s (42 + i) 2) / 20))))]) (st' := [.ref 8]) (σ' := (zN L X (zhi s99) R G nc ns)) (fun n => rfl) ?_
                    refine zW.getf (v := .ref 13) rfl rfl (zr_8 S (f := 4) (by decide)) ?_
                    refine zW.run 2 (pc' := 131) (ls' := [some (.ref 7), some (.ref (42 + i)), some (.ref 8), some (.int (Int32.ofInt (s (42 + i) 5))), some (.int (Int32.ofInt ((s 12 ((s (42 + i) 5).toNat)) + ((s (42 + i) 2) / 20))))]) (st' := [.int (Int32.ofInt (s (42 + i) 5)), .ref 13, .int (Int32.ofInt (s (42 + i) 5)), .ref 13]) (σ' := (zN L X (zhi s99) R G nc ns)) (fun n => rfl) ?_
                    refine zW.jald (n := 144) (v := (s99 13 ((s (42 + i) 5).toNat))) rfl rfl (by decide) (by omega) rfl ?_
                    refine zW.run 1 (pc' := 133) (ls' := [some (.ref 7), some (.ref (42 + i)), some (.ref 8), some (.int (Int32.ofInt (s (42 + i) 5))), some (.int (Int32.ofInt ((s 12 ((s (42 + i) 5).toNat)) + ((s (42 + i) 2) / 20))))]) (st' := [.ref (42 + i), .int (Int32.ofInt (s99 13 ((s (42 + i) 5).toNat))), .int (Int32.ofInt (s (42 + i) 5)), .ref 13]) (σ' := (zN L X (zhi s99) R G nc ns)) (fun n => rfl) ?_
                    have f103 := zV_com V98 (i := i) (by omega)
                    refine zW.jget (v := (s99 (42 + i) 2)) rfl (zk_com (by omega)) (fun _ _ _ => rfl) rfl ?_
                    refine zW.run 1 (pc' := 138) (ls' := [some (.ref 7), some (.ref (42 + i)), some (.ref 8), some (.int (Int32.ofInt (s (42 + i) 5))), some (.int (Int32.ofInt ((s 12 ((s (42 + i) 5).toNat)) + ((s (42 + i) 2) / 20))))]) (st' := [.int (Int32.ofInt 10), .int (Int32.ofInt (s99 (42 + i) 2)), .int (Int32.ofInt (s99 13 ((s (42 + i) 5).toNat))), .int (Int32.ofInt (s (42 + i) 5)), .ref 13]) (σ' := (zN L X (zhi s99) R G nc ns)) (fun n => rfl) ?_
                    refine zW.jdiv rfl (by omega) ?_
                    refine zW.jadd rfl ?_
                    refine zW.jast (n := 144) rfl rfl (by decide) (by omega) ?_
                    have V104 : zV g U F T (B + 20) ph (zup s99 13 ((s (42 + i) 5).toNat) ((s99 13 ((s (42 + i) 5).toNat)) + ((s99 (42 + i) 2) / 10))) := (V_toil (zV_mono V98 (B2 := B + 20) (by omega) (by omega)) (by omega) (by omega))
                    generalize hs105 : (zup s99 13 ((s (42 + i) 5).toNat) ((s99 13 ((s (42 + i) 5).toNat)) + ((s99 (42 + i) 2) / 10))) = s105 at V104 ⊢
                    have k106 : s105 11 ((s (42 + i) 5).toNat) = (s99 11 ((s (42 + i) 5).toNat)) := by rw [← hs105]; exact (zup_nj (by omega))
                    have k107 : s105 9 ((s (42 + i) 5).toNat) = (s99 9 ((s (42 + i) 5).toNat)) := by rw [← hs105]; exact (zup_nj (by omega))
                    have k108 : s105 10 ((s (42 + i) 5).toNat) = (s99 10 ((s (42 + i) 5).toNat)) := by rw [← hs105]; exact (zup_nj (by omega))
                    refine zW.run 1 (pc' := 142) (ls' := [some (.ref 7), some (.ref (42 + i)), some (.ref 8), some (.int (Int32.ofInt (s (42 + i) 5))), some (.int (Int32.ofInt ((s 12 ((s (42 + i) 5).toNat)) + ((s (42 + i) 2) / 20))))]) (st' := [.ref 8]) (σ' := (zN L X (zhi s105) R G nc ns)) (fun n => rfl) ?_
                    refine zW.getf (v := .ref 13) rfl rfl (zr_8 S (f := 4) (by decide)) ?_
                    refine zW.run 1 (pc' := 146) (ls' := [some (.ref 7), some (.ref (42 + i)), some (.ref 8), some (.int (Int32.ofInt (s (42 + i) 5))), some (.int (Int32.ofInt ((s 12 ((s (42 + i) 5).toNat)) + ((s (42 + i) 2) / 20))))]) (st' := [.int (Int32.ofInt (s (42 + i) 5)), .ref 13]) (σ' := (zN L X (zhi s105) R G nc ns)) (fun n => rfl) ?_
                    refine zW.jald (n := 144) (v := (s105 13 ((s (42 + i) 5).toNat))) rfl rfl (by decide) (by omega) rfl ?_
                    have f109 := zV_sq V104 (k := (s (42 + i) 5).toNat) (by omega)
                    refine zW.run 1 (pc' := 149) (ls' := [some (.ref 7), some (.ref (42 + i)), some (.ref 8), some (.int (Int32.ofInt (s (42 + i) 5))), some (.int (Int32.ofInt ((s 12 ((s (42 + i) 5).toNat)) + ((s (42 + i) 2) / 20))))]) (st' := [.int (Int32.ofInt 80), .int (Int32.ofInt (s105 13 ((s (42 + i) 5).toNat)))]) (σ' := (zN L X (zhi s105) R G nc ns)) (fun n => rfl) ?_
                    refine zW.jcmp_lt rfl (by omega) (fun c110 => ?_) (fun c110 => ?_)
                    · skip
                      exact zW.vret rfl (hQ0 s105 V104)
                    · skip
                      refine zW.run 1 (pc' := 153) (ls' := [some (.ref 7), some (.ref (42 + i)), some (.ref 8), some (.int (Int32.ofInt (s (42 + i) 5))), some (.int (Int32.ofInt ((s 12 ((s (42 + i) 5).toNat)) + ((s (42 + i) 2) / 20))))]) (st' := [.ref 8]) (σ' := (zN L X (zhi s105) R G nc ns)) (fun n => rfl) ?_
                      refine zW.getf (v := .ref 9) rfl rfl (zr_8 S (f := 0) (by decide)) ?_
                      refine zW.run 1 (pc' := 157) (ls' := [some (.ref 7), some (.ref (42 + i)), some (.ref 8), some (.int (Int32.ofInt (s (42 + i) 5))), some (.int (Int32.ofInt ((s 12 ((s (42 + i) 5).toNat)) + ((s (42 + i) 2) / 20))))]) (st' := [.int (Int32.ofInt (s (42 + i) 5)), .ref 9]) (σ' := (zN L X (zhi s105) R G nc ns)) (fun n => rfl) ?_
                      refine zW.jald (n := 144) (v := (s105 9 ((s (42 + i) 5).toNat))) rfl rfl (by decide) (by omega) rfl ?_
                      refine zW.run 1 (pc' := 160) (ls' := [some (.ref 7), some (.ref (42 + i)), some (.ref 8), some (.int (Int32.ofInt (s (42 + i) 5))), some (.int (Int32.ofInt ((s 12 ((s (42 + i) 5).toNat)) + ((s (42 + i) 2) / 20))))]) (st' := [.int (Int32.ofInt 9), .int (Int32.ofInt (s105 9 ((s (42 + i) 5).toNat)))]) (σ' := (zN L X (zhi s105) R G nc ns)) (fun n => rfl) ?_
                      have J112 : ∀ (v111 : Int), ((s105 9 ((s (42 + i) 5).toNat)) ≥ 9 ∧ v111 = 9) ∨ ((s105 9 ((s (42 + i) 5).toNat)) < 9 ∧ v111 = ((s105 9 ((s (42 + i) 5).toNat)) + 1)) → zW ro 49 176 [some (.ref 7), some (.ref (42 + i)), some (.ref 8), some (.int (Int32.ofInt (s (42 + i) 5))), some (.int (Int32.ofInt ((s 12 ((s (42 + i) 5).toNat)) + ((s (42 + i) 2) / 20))))] [.int (Int32.ofInt v111)] (zN L X (zhi s105) R G nc ns) Q := by
                        intro v111 c113
                        refine zW.run 5 (pc' := 183) (ls' := [some (.ref 7), some (.ref (42 + i)), some (.ref 8), some (.int (Int32.ofInt (s (42 + i) 5))), some (.int (Int32.ofInt v111))]) (st' := [.ref 8, .int (Int32.ofInt v111), .int (Int32.ofInt (s (42 + i) 5)), .ref 8]) (σ' := (zN L X (zhi s105) R G nc ns)) (fun n => rfl) ?_
                        refine zW.getf (v := .ref 10) rfl rfl (zr_8 S (f := 1) (by decide)) ?_
                        refine zW.run 1 (pc' := 187) (ls' := [some (.ref 7), some (.ref (42 + i)), some (.ref 8), some (.int (Int32.ofInt (s (42 + i) 5))), some (.int (Int32.ofInt v111))]) (st' := [.int (Int32.ofInt (s (42 + i) 5)), .ref 10, .int (Int32.ofInt v111), .int (Int32.ofInt (s (42 + i) 5)), .ref 8]) (σ' := (zN L X (zhi s105) R G nc ns)) (fun n => rfl) ?_
                        refine zW.jald (n := 144) (v := (s105 10 ((s (42 + i) 5).toNat))) rfl rfl (by decide) (by omega) rfl ?_
                        refine zW.run 2 (pc' := 191) (ls' := [some (.ref 7), some (.ref (42 + i)), some (.ref 8), some (.int (Int32.ofInt (s (42 + i) 5))), some (.int (Int32.ofInt v111))]) (st' := [.int (Int32.ofInt 10), .int (Int32.ofInt 1), .int (Int32.ofInt (s105 10 ((s (42 + i) 5).toNat))), .int (Int32.ofInt v111), .int (Int32.ofInt (s (42 + i) 5)), .ref 8]) (σ' := (zN L X (zhi s105) R G nc ns)) (fun n => rfl) ?_
                        refine zW.callV rfl (by decide) rfl rfl rfl rfl rfl (Nat.le_of_ble_eq_true rfl) ?_
                        refine t_Ground_shape_1 S (zV_zA V104) (x := (s (42 + i) 5)) (a := v111) (b := (s105 10 ((s (42 + i) 5).toNat))) (d := 10) (by omega) ?_
                        show zW ro 49 194 [some (.ref 7), some (.ref (42 + i)), some (.ref 8), some (.int (Int32.ofInt (s (42 + i) 5))), some (.int (Int32.ofInt v111))] [] (zN L X (zhi (zup (zup (zup (zup (zup s105 9 ((s (42 + i) 5).toNat) v111) 10 ((s (42 + i) 5).toNat) (s105 10 ((s (42 + i) 5).toNat))) 11 ((s (42 + i) 5).toNat) 1) 12 ((s (42 + i) 5).toNat) 10) 13 ((s (42 + i) 5).toNat) 0)) R G nc ns) Q
                        have V114 : zV g U F T (B + 20) ph (zup (zup (zup (zup (zup s105 9 ((s (42 + i) 5).toNat) v111) 10 ((s (42 + i) 5).toNat) (s105 10 ((s (42 + i) 5).toNat))) 11 ((s (42 + i) 5).toNat) 1) 12 ((s (42 + i) 5).toNat) 10) 13 ((s (42 + i) 5).toNat) 0) := (V_wall V104 (by omega) (by omega) (by omega) (by omega))
                        generalize hs115 : (zup (zup (zup (zup (zup s105 9 ((s (42 + i) 5).toNat) v111) 10 ((s (42 + i) 5).toNat) (s105 10 ((s (42 + i) 5).toNat))) 11 ((s (42 + i) 5).toNat) 1) 12 ((s (42 + i) 5).toNat) 10) 13 ((s (42 + i) 5).toNat) 0) = s115 at V114 ⊢
                        exact zW.vret rfl (hQ0 s115 V114)
                      refine zW.jcmp_ge rfl (by omega) (fun c116 => ?_) (fun c116 => ?_)
                      · skip
                        refine zW.run 1 (pc' := 176) (ls' := [some (.ref 7), some (.ref (42 + i)), some (.ref 8), some (.int (Int32.ofInt (s (42 + i) 5))), some (.int (Int32.ofInt ((s 12 ((s (42 + i) 5).toNat)) + ((s (42 + i) 2) / 20))))]) (st' := [.int (Int32.ofInt 9)]) (σ' := (zN L X (zhi s105) R G nc ns)) (fun n => rfl) ?_
                        exact J112 9 (by omega)
                      · skip
                        refine zW.run 1 (pc' := 164) (ls' := [some (.ref 7), some (.ref (42 + i)), some (.ref 8), some (.int (Int32.ofInt (s (42 + i) 5))), some (.int (Int32.ofInt ((s 12 ((s (42 + i) 5).toNat)) + ((s (42 + i) 2) / 20))))]) (st' := [.ref 8]) (σ' := (zN L X (zhi s105) R G nc ns)) (fun n => rfl) ?_
                        refine zW.getf (v := .ref 9) rfl rfl (zr_8 S (f := 0) (by decide)) ?_
                        refine zW.run 1 (pc' := 168) (ls' := [some (.ref 7), some (.ref (42 + i)), some (.ref 8), some (.int (Int32.ofInt (s (42 + i) 5))), some (.int (Int32.ofInt ((s 12 ((s (42 + i) 5).toNat)) + ((s (42 + i) 2) / 20))))]) (st' := [.int (Int32.ofInt (s (42 + i) 5)), .ref 9]) (σ' := (zN L X (zhi s105) R G nc ns)) (fun n => rfl) ?_
                        refine zW.jald (n := 144) (v := (s105 9 ((s (42 + i) 5).toNat))) rfl rfl (by decide) (by omega) rfl ?_
                        refine zW.run 1 (pc' := 170) (ls' := [some (.ref 7), some (.ref (42 + i)), some (.ref 8), some (.int (Int32.ofInt (s (42 + i) 5))), some (.int (Int32.ofInt ((s 12 ((s (42 + i) 5).toNat)) + ((s (42 + i) 2) / 20))))]) (st' := [.int (Int32.ofInt 1), .int (Int32.ofInt (s105 9 ((s (42 + i) 5).toNat)))]) (σ' := (zN L X (zhi s105) R G nc ns)) (fun n => rfl) ?_
                        refine zW.jadd rfl ?_
                        refine zW.run 1 (pc' := 176) (ls' := [some (.ref 7), some (.ref (42 + i)), some (.ref 8), some (.int (Int32.ofInt (s (42 + i) 5))), some (.int (Int32.ofInt ((s 12 ((s (42 + i) 5).toNat)) + ((s (42 + i) 2) / 20))))]) (st' := [.int (Int32.ofInt ((s105 9 ((s (42 + i) 5).toNat)) + 1))]) (σ' := (zN L X (zhi s105) R G nc ns)) (fun n => rfl) ?_
                        exact J112 ((s105 9 ((s (42 + i) 5).toNat)) + 1) (by omega)
              refine zW.jcmp_le rfl (by omega) (fun c117 => ?_) (fun c117 => ?_)
              · skip
                refine zW.run 1 (pc' := 103) (ls' := [some (.ref 7), some (.ref (42 + i)), some (.ref 8), some (.int (Int32.ofInt (s (42 + i) 5))), some (.int (Int32.ofInt ((s 12 ((s (42 + i) 5).toNat)) + ((s (42 + i) 2) / 20))))]) (st' := [.int (Int32.ofInt ((s 12 ((s (42 + i) 5).toNat)) + ((s (42 + i) 2) / 20))), .int (Int32.ofInt (s (42 + i) 5)), .ref 12]) (σ' := (zN L X (zhi s) R G nc ns)) (fun n => rfl) ?_
                exact J96 ((s 12 ((s (42 + i) 5).toNat)) + ((s (42 + i) 2) / 20)) (by omega)
              · skip
                refine zW.run 2 (pc' := 103) (ls' := [some (.ref 7), some (.ref (42 + i)), some (.ref 8), some (.int (Int32.ofInt (s (42 + i) 5))), some (.int (Int32.ofInt ((s 12 ((s (42 + i) 5).toNat)) + ((s (42 + i) 2) / 20))))]) (st' := [.int (Int32.ofInt 60), .int (Int32.ofInt (s (42 + i) 5)), .ref 12]) (σ' := (zN L X (zhi s) R G nc ns)) (fun n => rfl) ?_
                exact J96 60 (by omega)
        · skip
          show zW ro 49 43 [some (.ref 7), some (.ref (42 + i)), some (.ref 8), some (.int (Int32.ofInt (s (42 + i) 5))), none] [.int (Int32.ofInt 0)] (zN L X (zhi s) R G nc ns) Q
          refine zW.run 1 (pc' := 46) (ls' := [some (.ref 7), some (.ref (42 + i)), some (.ref 8), some (.int (Int32.ofInt (s (42 + i) 5))), none]) (st' := []) (σ' := (zN L X (zhi s) R G nc ns)) (fun n => rfl) ?_
          exact zW.vret rfl (hQ0 s (zV_mono V (by omega) (by omega)))
  · skip
    show zW ro 49 15 [some (.ref 7), some (.ref (42 + i)), some (.ref 8), some (.int (Int32.ofInt (s (42 + i) 5))), none] [.int (Int32.ofInt 0)] (zN L X (zhi s) R G nc ns) Q
    refine zW.run 1 (pc' := 46) (ls' := [some (.ref 7), some (.ref (42 + i)), some (.ref 8), some (.int (Int32.ofInt (s (42 + i) 5))), none]) (st' := []) (σ' := (zN L X (zhi s) R G nc ns)) (fun n => rfl) ?_
    exact zW.vret rfl (hQ0 s (zV_mono V (by omega) (by omega)))
set_option maxHeartbeats 4000000 in
theorem t_Siege_countFight (S : zSR R) (V : zV g U F T B ph s) {x : Int} (p0 : -1 ≤ x ∧ x ≤ 2) (hQ0 : ∀ (s1 : zJ), zV g U F T B ph s1 → Q (.inl none) (zN L X (zhi s1) R G nc ns)) : zW ro 132 0 (zfst [.ref 7, .int (Int32.ofInt x)] 2) [] (zN L X (zhi s) R G nc ns) Q := by
  show zW ro 132 0 [some (.ref 7), some (.int (Int32.ofInt x))] [] (zN L X (zhi s) R G nc ns) Q
  have f1 := zA_geo (zV_zA V)
  have hB0 := zV_B V
  refine zW.run 2 (pc' := 2) (ls' := [some (.ref 7), some (.int (Int32.ofInt x))]) (st' := [.int (Int32.ofInt x), .ref 7]) (σ' := (zN L X (zhi s) R G nc ns)) (fun n => rfl) ?_
  refine zW.callV rfl (by decide) rfl rfl rfl rfl rfl (Nat.le_of_ble_eq_true rfl) ?_
  refine t_Siege_of S (x := x) (by omega) (fun o_2 f3 => ?_)
  show zW ro 132 5 [some (.ref 7), some (.int (Int32.ofInt x))] [.ref o_2] (zN L X (zhi s) R G nc ns) Q
  refine zW.run 1 (pc' := 6) (ls' := [some (.ref 7), some (.int (Int32.ofInt x))]) (st' := [.ref o_2, .ref o_2]) (σ' := (zN L X (zhi s) R G nc ns)) (fun n => rfl) ?_
  refine zW.jget (v := (s o_2 8)) rfl (zk_sid (by omega)) (fun _ _ _ => rfl) rfl ?_
  refine zW.run 1 (pc' := 10) (ls' := [some (.ref 7), some (.int (Int32.ofInt x))]) (st' := [.int (Int32.ofInt 1), .int (Int32.ofInt (s o_2 8)), .ref o_2]) (σ' := (zN L X (zhi s) R G nc ns)) (fun n => rfl) ?_
  refine zW.jadd rfl ?_
  refine zW.jput rfl (zk_sid (by omega)) rfl ?_
  refine zW.run 2 (pc' := 16) (ls' := [some (.ref 7), some (.int (Int32.ofInt x))]) (st' := [.int (Int32.ofInt x), .ref 7]) (σ' := (zN L X (zhi (zup s o_2 8 ((s o_2 8) + 1))) R G nc ns)) (fun n => rfl) ?_
  refine zW.callV rfl (by decide) rfl rfl rfl rfl rfl (Nat.le_of_ble_eq_true rfl) ?_
  refine t_Siege_of S (x := x) (by omega) (fun o_4 f5 => ?_)
  show zW ro 132 19 [some (.ref 7), some (.int (Int32.ofInt x))] [.ref o_4] (zN L X (zhi (zup s o_2 8 ((s o_2 8) + 1))) R G nc ns) Q
  refine zW.run 1 (pc' := 20) (ls' := [some (.ref 7), some (.int (Int32.ofInt x))]) (st' := [.int (Int32.ofInt 4), .ref o_4]) (σ' := (zN L X (zhi (zup s o_2 8 ((s o_2 8) + 1))) R G nc ns)) (fun n => rfl) ?_
  have V6 : zV g U F T B ph (zup s o_2 8 ((s o_2 8) + 1)) := (V_irr V (by omega))
  generalize hs7 : (zup s o_2 8 ((s o_2 8) + 1)) = s7 at V6 ⊢
  refine zW.callV rfl (by decide) rfl rfl rfl rfl (zk_sid (by omega)) (Nat.le_of_ble_eq_true rfl) ?_
  refine t_Side_changeMorale S V6 (o := o_4) (x := 4) (by omega) (by omega) (fun s8 V9 => ?_)
  show zW ro 132 23 [some (.ref 7), some (.int (Int32.ofInt x))] [] (zN L X (zhi s8) R G nc ns) Q
  refine zW.run 3 (pc' := 26) (ls' := [some (.ref 7), some (.int (Int32.ofInt x))]) (st' := [.int (Int32.ofInt x), .int (Int32.ofInt 1), .ref 7]) (σ' := (zN L X (zhi s8) R G nc ns)) (fun n => rfl) ?_
  refine zW.jsub rfl ?_
  refine zW.callV rfl (by decide) rfl rfl rfl rfl rfl (Nat.le_of_ble_eq_true rfl) ?_
  refine t_Siege_of S (x := (1 - x)) (by omega) (fun o_10 f11 => ?_)
  show zW ro 132 30 [some (.ref 7), some (.int (Int32.ofInt x))] [.ref o_10] (zN L X (zhi s8) R G nc ns) Q
  refine zW.run 1 (pc' := 32) (ls' := [some (.ref 7), some (.int (Int32.ofInt x))]) (st' := [.int (Int32.ofInt (-4)), .ref o_10]) (σ' := (zN L X (zhi s8) R G nc ns)) (fun n => rfl) ?_
  refine zW.callV rfl (by decide) rfl rfl rfl rfl (zk_sid (by omega)) (Nat.le_of_ble_eq_true rfl) ?_
  refine t_Side_changeMorale S V9 (o := o_10) (x := (-4)) (by omega) (by omega) (fun s12 V13 => ?_)
  show zW ro 132 35 [some (.ref 7), some (.int (Int32.ofInt x))] [] (zN L X (zhi s12) R G nc ns) Q
  exact zW.vret rfl (hQ0 s12 V13)
set_option maxHeartbeats 4000000 in
theorem t_Duties_payForDefeat (S : zSR R) (V : zV g U F T B ph s) {i : Nat} {x : Int} (p0 : i < 12) (p1 : -1 ≤ x ∧ x ≤ 2) (hQ0 : ∀ (s1 : zJ), zV g U F T B ph s1 → Q (.inl none) (zN L X (zhi s1) R G nc ns)) : zW ro 50 0 (zfst [.ref 7, .ref (42 + i), .int (Int32.ofInt x)] 7) [] (zN L X (zhi s) R G nc ns) Q := by
  show zW ro 50 0 [some (.ref 7), some (.ref (42 + i)), some (.int (Int32.ofInt x)), none, none, none, none] [] (zN L X (zhi s) R G nc ns) Q
  have f1 := zA_geo (zV_zA V)
  have hB0 := zV_B V
  refine zW.run 1 (pc' := 1) (ls' := [some (.ref 7), some (.ref (42 + i)), some (.int (Int32.ofInt x)), none, none, none, none]) (st' := [.ref 7]) (σ' := (zN L X (zhi s) R G nc ns)) (fun n => rfl) ?_
  refine zW.getf (v := .ref 19) rfl rfl (zr_7_2 S) ?_
  refine zW.run 2 (pc' := 6) (ls' := [some (.ref 7), some (.ref (42 + i)), some (.int (Int32.ofInt x)), some (.ref 19), none, none, none]) (st' := [.ref 19]) (σ' := (zN L X (zhi s) R G nc ns)) (fun n => rfl) ?_
  refine zW.alen rfl rfl (by decide) ?_
  show zW ro 50 7 [some (.ref 7), some (.ref (42 + i)), some (.int (Int32.ofInt x)), some (.ref 19), none, none, none] [.int (Int32.ofInt 12)] (zN L X (zhi s) R G nc ns) Q
  refine zW.run 3 (pc' := 12) (ls' := [some (.ref 7), some (.ref (42 + i)), some (.int (Int32.ofInt x)), some (.ref 19), some (.int (Int32.ofInt 12)), some (.int (Int32.ofInt 0)), none]) (st' := []) (σ' := (zN L X (zhi s) R G nc ns)) (fun n => rfl) ?_
  have J7 : ∀ m : Nat, ∀ (i_2 : Nat) (w3 : Option Value) (s4 : zJ), zV g U F T B ph s4 → i_2 ≤ 12 → 13 - i_2 < m → zW ro 50 12 [some (.ref 7), some (.ref (42 + i)), some (.int (Int32.ofInt x)), some (.ref 19), some (.int (Int32.ofInt 12)), some (.int (Int32.ofInt (i_2 : Int))), w3] [] (zN L X (zhi s4) R G nc ns) Q := by
    intro m
    induction m with
    | zero => intros; omega
    | succ m ih8 =>
      intro i_2 w3 s4 V5 c6 hm9
      refine zW.run 2 (pc' := 16) (ls' := [some (.ref 7), some (.ref (42 + i)), some (.int (Int32.ofInt x)), some (.ref 19), some (.int (Int32.ofInt 12)), some (.int (Int32.ofInt (i_2 : Int))), w3]) (st' := [.int (Int32.ofInt 12), .int (Int32.ofInt (i_2 : Int))]) (σ' := (zN L X (zhi s4) R G nc ns)) (fun n => rfl) ?_
      refine zW.jcmp_ge rfl (by omega) (fun c10 => ?_) (fun c10 => ?_)
      · skip
        refine zW.run 3 (pc' := 62) (ls' := [some (.ref 7), some (.ref (42 + i)), some (.int (Int32.ofInt x)), some (.ref 19), some (.int (Int32.ofInt 12)), some (.int (Int32.ofInt (i_2 : Int))), w3]) (st' := [.ref (42 + i), .ref (42 + i), .ref 7]) (σ' := (zN L X (zhi s4) R G nc ns)) (fun n => rfl) ?_
        have f11 := zV_com V5 (i := i) (by omega)
        refine zW.jget (v := (s4 (42 + i) 2)) rfl (zk_com (by omega)) (fun _ _ _ => rfl) rfl ?_
        refine zW.callS rfl rfl rfl rfl rfl (Nat.le_of_ble_eq_true rfl) ?_
        refine t_Duties_quarterOf S (x := (s4 (42 + i) 2)) (by omega) (fun v_12 f13 => ?_)
        show zW ro 50 68 [some (.ref 7), some (.ref (42 + i)), some (.int (Int32.ofInt x)), some (.ref 19), some (.int (Int32.ofInt 12)), some (.int (Int32.ofInt (i_2 : Int))), w3] [.int (Int32.ofInt v_12), .ref (42 + i), .ref 7] (zN L X (zhi s4) R G nc ns) Q
        refine zW.callV rfl (by decide) rfl rfl rfl rfl rfl (Nat.le_of_ble_eq_true rfl) ?_
        refine t_Siege_takeMen S V5 (i := i) (x := v_12) (by omega) (by omega) (fun v_14 s15 V16 f17 => ?_)
        show zW ro 50 71 [some (.ref 7), some (.ref (42 + i)), some (.int (Int32.ofInt x)), some (.ref 19), some (.int (Int32.ofInt 12)), some (.int (Int32.ofInt (i_2 : Int))), w3] [.int (Int32.ofInt v_14)] (zN L X (zhi s15) R G nc ns) Q
        refine zW.run 2 (pc' := 73) (ls' := [some (.ref 7), some (.ref (42 + i)), some (.int (Int32.ofInt x)), some (.ref 19), some (.int (Int32.ofInt 12)), some (.int (Int32.ofInt (i_2 : Int))), w3]) (st' := [.ref (42 + i)]) (σ' := (zN L X (zhi s15) R G nc ns)) (fun n => rfl) ?_
        refine zW.callV rfl (by decide) rfl rfl rfl rfl (zk_com (by omega)) (Nat.le_of_ble_eq_true rfl) ?_
        refine t_Company_restNow S V16 (i := i) (by omega) (fun s18 V19 => ?_)
        show zW ro 50 76 [some (.ref 7), some (.ref (42 + i)), some (.int (Int32.ofInt x)), some (.ref 19), some (.int (Int32.ofInt 12)), some (.int (Int32.ofInt (i_2 : Int))), w3] [] (zN L X (zhi s18) R G nc ns) Q
        exact zW.vret rfl (hQ0 s18 V19)
      · skip
        refine zW.run 2 (pc' := 22) (ls' := [some (.ref 7), some (.ref (42 + i)), some (.int (Int32.ofInt x)), some (.ref 19), some (.int (Int32.ofInt 12)), some (.int (Int32.ofInt (i_2 : Int))), w3]) (st' := [.int (Int32.ofInt (i_2 : Int)), .ref 19]) (σ' := (zN L X (zhi s4) R G nc ns)) (fun n => rfl) ?_
        refine zW.jaald (n := 12) (v := .ref (42 + i_2)) rfl rfl (by decide) (by decide) (by omega) (zr_com S (by omega)) ?_
        refine zW.run 4 (pc' := 29) (ls' := [some (.ref 7), some (.ref (42 + i)), some (.int (Int32.ofInt x)), some (.ref 19), some (.int (Int32.ofInt 12)), some (.int (Int32.ofInt (i_2 : Int))), some (.ref (42 + i_2))]) (st' := [.ref (42 + i), .int (Int32.ofInt x), .ref (42 + i_2)]) (σ' := (zN L X (zhi s4) R G nc ns)) (fun n => rfl) ?_
        have f20 := zV_com V5 (i := i) (by omega)
        refine zW.jget (v := (s4 (42 + i) 5)) rfl (zk_com (by omega)) (fun _ _ _ => rfl) rfl ?_
        refine zW.callV rfl (by decide) rfl rfl rfl rfl (zk_com (by omega)) (Nat.le_of_ble_eq_true rfl) ?_
        refine t_Company_isAt S V5 (i := i_2) (x := x) (y := (s4 (42 + i) 5)) (by omega) (by omega) (by omega) (fun f21 f22 f23 => ?_) (fun f24 => ?_)
        · skip
          show zW ro 50 35 [some (.ref 7), some (.ref (42 + i)), some (.int (Int32.ofInt x)), some (.ref 19), some (.int (Int32.ofInt 12)), some (.int (Int32.ofInt (i_2 : Int))), some (.ref (42 + i_2))] [.int (Int32.ofInt 1)] (zN L X (zhi s4) R G nc ns) Q
          refine zW.run 4 (pc' := 43) (ls' := [some (.ref 7), some (.ref (42 + i)), some (.int (Int32.ofInt x)), some (.ref 19), some (.int (Int32.ofInt 12)), some (.int (Int32.ofInt (i_2 : Int))), some (.ref (42 + i_2))]) (st' := [.ref (42 + i_2), .ref (42 + i_2), .ref 7]) (σ' := (zN L X (zhi s4) R G nc ns)) (fun n => rfl) ?_
          have f25 := zV_com V5 (i := i_2) (by omega)
          refine zW.jget (v := (s4 (42 + i_2) 2)) rfl (zk_com (by omega)) (fun _ _ _ => rfl) rfl ?_
          refine zW.run 1 (pc' := 48) (ls' := [some (.ref 7), some (.ref (42 + i)), some (.int (Int32.ofInt x)), some (.ref 19), some (.int (Int32.ofInt 12)), some (.int (Int32.ofInt (i_2 : Int))), some (.ref (42 + i_2))]) (st' := [.int (Int32.ofInt 8), .int (Int32.ofInt (s4 (42 + i_2) 2)), .ref (42 + i_2), .ref 7]) (σ' := (zN L X (zhi s4) R G nc ns)) (fun n => rfl) ?_
          refine zW.jdiv rfl (by omega) ?_
          refine zW.callV rfl (by decide) rfl rfl rfl rfl rfl (Nat.le_of_ble_eq_true rfl) ?_
          refine t_Siege_takeMen S V5 (i := i_2) (x := ((s4 (42 + i_2) 2) / 8)) (by omega) (by omega) (fun v_26 s27 V28 f29 => ?_)
          show zW ro 50 52 [some (.ref 7), some (.ref (42 + i)), some (.int (Int32.ofInt x)), some (.ref 19), some (.int (Int32.ofInt 12)), some (.int (Int32.ofInt (i_2 : Int))), some (.ref (42 + i_2))] [.int (Int32.ofInt v_26)] (zN L X (zhi s27) R G nc ns) Q
          refine zW.run 1 (pc' := 53) (ls' := [some (.ref 7), some (.ref (42 + i)), some (.int (Int32.ofInt x)), some (.ref 19), some (.int (Int32.ofInt 12)), some (.int (Int32.ofInt (i_2 : Int))), some (.ref (42 + i_2))]) (st' := []) (σ' := (zN L X (zhi s27) R G nc ns)) (fun n => rfl) ?_
          refine zW.jinc (ls' := [some (.ref 7), some (.ref (42 + i)), some (.int (Int32.ofInt x)), some (.ref 19), some (.int (Int32.ofInt 12)), some (.int (Int32.ofInt ((i_2 : Int) + 1))), some (.ref (42 + i_2))]) rfl (Nat.le_of_ble_eq_true rfl) rfl rfl ?_
          refine zW.run 1 (pc' := 12) (ls' := [some (.ref 7), some (.ref (42 + i)), some (.int (Int32.ofInt x)), some (.ref 19), some (.int (Int32.ofInt 12)), some (.int (Int32.ofInt ((i_2 : Int) + 1))), some (.ref (42 + i_2))]) (st' := []) (σ' := (zN L X (zhi s27) R G nc ns)) (fun n => rfl) ?_
          exact ih8 (i_2 + 1) (some (.ref (42 + i_2))) s27 (zV_mono V28 (by omega) (by omega)) (by omega) (by omega)
        · skip
          show zW ro 50 35 [some (.ref 7), some (.ref (42 + i)), some (.int (Int32.ofInt x)), some (.ref 19), some (.int (Int32.ofInt 12)), some (.int (Int32.ofInt (i_2 : Int))), some (.ref (42 + i_2))] [.int (Int32.ofInt 0)] (zN L X (zhi s4) R G nc ns) Q
          refine zW.run 1 (pc' := 53) (ls' := [some (.ref 7), some (.ref (42 + i)), some (.int (Int32.ofInt x)), some (.ref 19), some (.int (Int32.ofInt 12)), some (.int (Int32.ofInt (i_2 : Int))), some (.ref (42 + i_2))]) (st' := []) (σ' := (zN L X (zhi s4) R G nc ns)) (fun n => rfl) ?_
          refine zW.jinc (ls' := [some (.ref 7), some (.ref (42 + i)), some (.int (Int32.ofInt x)), some (.ref 19), some (.int (Int32.ofInt 12)), some (.int (Int32.ofInt ((i_2 : Int) + 1))), some (.ref (42 + i_2))]) rfl (Nat.le_of_ble_eq_true rfl) rfl rfl ?_
          refine zW.run 1 (pc' := 12) (ls' := [some (.ref 7), some (.ref (42 + i)), some (.int (Int32.ofInt x)), some (.ref 19), some (.int (Int32.ofInt 12)), some (.int (Int32.ofInt ((i_2 : Int) + 1))), some (.ref (42 + i_2))]) (st' := []) (σ' := (zN L X (zhi s4) R G nc ns)) (fun n => rfl) ?_
          exact ih8 (i_2 + 1) (some (.ref (42 + i_2))) s4 (zV_mono V5 (by omega) (by omega)) (by omega) (by omega)
  exact J7 _ 0 none s (zV_mono V (by omega) (by omega)) (by omega) (Nat.lt_succ_self _)
set_option maxHeartbeats 4000000 in
theorem t_Duties_putToFlight (S : zSR R) (V : zV g U F T B ph s) {x : Int} {y : Int} (p0 : -1 ≤ x ∧ x ≤ 2) (p1 : -2147483648 ≤ y ∧ y < 2147483648) (hQ0 : ∀ (s1 : zJ), zV g U F T B ph s1 → Q (.inl none) (zN L X (zhi s1) R G nc ns)) : zW ro 51 0 (zfst [.ref 7, .int (Int32.ofInt x), .int (Int32.ofInt y)] 8) [] (zN L X (zhi s) R G nc ns) Q := by
  show zW ro 51 0 [some (.ref 7), some (.int (Int32.ofInt x)), some (.int (Int32.ofInt y)), none, none, none, none, none] [] (zN L X (zhi s) R G nc ns) Q
  have f1 := zA_geo (zV_zA V)
  have hB0 := zV_B V
  refine zW.run 3 (pc' := 3) (ls' := [some (.ref 7), some (.int (Int32.ofInt x)), some (.int (Int32.ofInt y)), none, none, none, none, none]) (st' := [.int (Int32.ofInt y), .int (Int32.ofInt x), .ref 7]) (σ' := (zN L X (zhi s) R G nc ns)) (fun n => rfl) ?_
  refine zW.callS rfl rfl rfl rfl rfl (Nat.le_of_ble_eq_true rfl) ?_
  refine t_Duties_refugeFrom S V (x := x) (y := y) (by omega) (by omega) (fun v_2 f3 => ?_)
  show zW ro 51 6 [some (.ref 7), some (.int (Int32.ofInt x)), some (.int (Int32.ofInt y)), none, none, none, none, none] [.int (Int32.ofInt v_2)] (zN L X (zhi s) R G nc ns) Q
  refine zW.run 2 (pc' := 8) (ls' := [some (.ref 7), some (.int (Int32.ofInt x)), some (.int (Int32.ofInt y)), some (.int (Int32.ofInt v_2)), none, none, none, none]) (st' := [.ref 7]) (σ' := (zN L X (zhi s) R G nc ns)) (fun n => rfl) ?_
  refine zW.getf (v := .ref 19) rfl rfl (zr_7_2 S) ?_
  refine zW.run 2 (pc' := 15) (ls' := [some (.ref 7), some (.int (Int32.ofInt x)), some (.int (Int32.ofInt y)), some (.int (Int32.ofInt v_2)), some (.ref 19), none, none, none]) (st' := [.ref 19]) (σ' := (zN L X (zhi s) R G nc ns)) (fun n => rfl) ?_
  refine zW.alen rfl rfl (by decide) ?_
  show zW ro 51 16 [some (.ref 7), some (.int (Int32.ofInt x)), some (.int (Int32.ofInt y)), some (.int (Int32.ofInt v_2)), some (.ref 19), none, none, none] [.int (Int32.ofInt 12)] (zN L X (zhi s) R G nc ns) Q
  refine zW.run 3 (pc' := 21) (ls' := [some (.ref 7), some (.int (Int32.ofInt x)), some (.int (Int32.ofInt y)), some (.int (Int32.ofInt v_2)), some (.ref 19), some (.int (Int32.ofInt 12)), some (.int (Int32.ofInt 0)), none]) (st' := []) (σ' := (zN L X (zhi s) R G nc ns)) (fun n => rfl) ?_
  have J9 : ∀ m : Nat, ∀ (i_4 : Nat) (w5 : Option Value) (s6 : zJ), zV g U F T B ph s6 → i_4 ≤ 12 → 13 - i_4 < m → zW ro 51 21 [some (.ref 7), some (.int (Int32.ofInt x)), some (.int (Int32.ofInt y)), some (.int (Int32.ofInt v_2)), some (.ref 19), some (.int (Int32.ofInt 12)), some (.int (Int32.ofInt (i_4 : Int))), w5] [] (zN L X (zhi s6) R G nc ns) Q := by
    intro m
    induction m with
    | zero => intros; omega
    | succ m ih10 =>
      intro i_4 w5 s6 V7 c8 hm11
      refine zW.run 2 (pc' := 25) (ls' := [some (.ref 7), some (.int (Int32.ofInt x)), some (.int (Int32.ofInt y)), some (.int (Int32.ofInt v_2)), some (.ref 19), some (.int (Int32.ofInt 12)), some (.int (Int32.ofInt (i_4 : Int))), w5]) (st' := [.int (Int32.ofInt 12), .int (Int32.ofInt (i_4 : Int))]) (σ' := (zN L X (zhi s6) R G nc ns)) (fun n => rfl) ?_
      refine zW.jcmp_ge rfl (by omega) (fun c12 => ?_) (fun c12 => ?_)
      · skip
        exact zW.vret rfl (hQ0 s6 V7)
      · skip
        refine zW.run 2 (pc' := 32) (ls' := [some (.ref 7), some (.int (Int32.ofInt x)), some (.int (Int32.ofInt y)), some (.int (Int32.ofInt v_2)), some (.ref 19), some (.int (Int32.ofInt 12)), some (.int (Int32.ofInt (i_4 : Int))), w5]) (st' := [.int (Int32.ofInt (i_4 : Int)), .ref 19]) (σ' := (zN L X (zhi s6) R G nc ns)) (fun n => rfl) ?_
        refine zW.jaald (n := 12) (v := .ref (42 + i_4)) rfl rfl (by decide) (by decide) (by omega) (zr_com S (by omega)) ?_
        refine zW.run 4 (pc' := 39) (ls' := [some (.ref 7), some (.int (Int32.ofInt x)), some (.int (Int32.ofInt y)), some (.int (Int32.ofInt v_2)), some (.ref 19), some (.int (Int32.ofInt 12)), some (.int (Int32.ofInt (i_4 : Int))), some (.ref (42 + i_4))]) (st' := [.int (Int32.ofInt y), .int (Int32.ofInt x), .ref (42 + i_4)]) (σ' := (zN L X (zhi s6) R G nc ns)) (fun n => rfl) ?_
        refine zW.callV rfl (by decide) rfl rfl rfl rfl (zk_com (by omega)) (Nat.le_of_ble_eq_true rfl) ?_
        refine t_Company_isAt S V7 (i := i_4) (x := x) (y := y) (by omega) (by omega) (by omega) (fun f13 f14 f15 => ?_) (fun f16 => ?_)
        · skip
          show zW ro 51 42 [some (.ref 7), some (.int (Int32.ofInt x)), some (.int (Int32.ofInt y)), some (.int (Int32.ofInt v_2)), some (.ref 19), some (.int (Int32.ofInt 12)), some (.int (Int32.ofInt (i_4 : Int))), some (.ref (42 + i_4))] [.int (Int32.ofInt 1)] (zN L X (zhi s6) R G nc ns) Q
          refine zW.run 4 (pc' := 53) (ls' := [some (.ref 7), some (.int (Int32.ofInt x)), some (.int (Int32.ofInt y)), some (.int (Int32.ofInt v_2)), some (.ref 19), some (.int (Int32.ofInt 12)), some (.int (Int32.ofInt (i_4 : Int))), some (.ref (42 + i_4))]) (st' := [.ref (42 + i_4), .ref (42 + i_4), .ref 7]) (σ' := (zN L X (zhi s6) R G nc ns)) (fun n => rfl) ?_
          have f17 := zV_com V7 (i := i_4) (by omega)
          refine zW.jget (v := (s6 (42 + i_4) 2)) rfl (zk_com (by omega)) (fun _ _ _ => rfl) rfl ?_
          refine zW.callS rfl rfl rfl rfl rfl (Nat.le_of_ble_eq_true rfl) ?_
          refine t_Duties_quarterOf S (x := (s6 (42 + i_4) 2)) (by omega) (fun v_18 f19 => ?_)
          show zW ro 51 59 [some (.ref 7), some (.int (Int32.ofInt x)), some (.int (Int32.ofInt y)), some (.int (Int32.ofInt v_2)), some (.ref 19), some (.int (Int32.ofInt 12)), some (.int (Int32.ofInt (i_4 : Int))), some (.ref (42 + i_4))] [.int (Int32.ofInt v_18), .ref (42 + i_4), .ref 7] (zN L X (zhi s6) R G nc ns) Q
          refine zW.callV rfl (by decide) rfl rfl rfl rfl rfl (Nat.le_of_ble_eq_true rfl) ?_
          refine t_Siege_takeMen S V7 (i := i_4) (x := v_18) (by omega) (by omega) (fun v_20 s21 V22 f23 => ?_)
          show zW ro 51 62 [some (.ref 7), some (.int (Int32.ofInt x)), some (.int (Int32.ofInt y)), some (.int (Int32.ofInt v_2)), some (.ref 19), some (.int (Int32.ofInt 12)), some (.int (Int32.ofInt (i_4 : Int))), some (.ref (42 + i_4))] [.int (Int32.ofInt v_20)] (zN L X (zhi s21) R G nc ns) Q
          refine zW.run 2 (pc' := 65) (ls' := [some (.ref 7), some (.int (Int32.ofInt x)), some (.int (Int32.ofInt y)), some (.int (Int32.ofInt v_2)), some (.ref 19), some (.int (Int32.ofInt 12)), some (.int (Int32.ofInt (i_4 : Int))), some (.ref (42 + i_4))]) (st' := [.ref (42 + i_4)]) (σ' := (zN L X (zhi s21) R G nc ns)) (fun n => rfl) ?_
          have f24 := zV_com V22 (i := i_4) (by omega)
          refine zW.jget (v := (s21 (42 + i_4) 2)) rfl (zk_com (by omega)) (fun _ _ _ => rfl) rfl ?_
          refine zW.jif_ne rfl (by omega) (fun c25 => ?_) (fun c25 => ?_)
          · skip
            refine zW.run 2 (pc' := 76) (ls' := [some (.ref 7), some (.int (Int32.ofInt x)), some (.int (Int32.ofInt y)), some (.int (Int32.ofInt v_2)), some (.ref 19), some (.int (Int32.ofInt 12)), some (.int (Int32.ofInt (i_4 : Int))), some (.ref (42 + i_4))]) (st' := [.int (Int32.ofInt (-1)), .int (Int32.ofInt v_2)]) (σ' := (zN L X (zhi s21) R G nc ns)) (fun n => rfl) ?_
            refine zW.jcmp_ne rfl (by omega) (fun c26 => ?_) (fun c26 => ?_)
            · skip
              refine zW.run 3 (pc' := 97) (ls' := [some (.ref 7), some (.int (Int32.ofInt x)), some (.int (Int32.ofInt y)), some (.int (Int32.ofInt v_2)), some (.ref 19), some (.int (Int32.ofInt 12)), some (.int (Int32.ofInt (i_4 : Int))), some (.ref (42 + i_4))]) (st' := [.int (Int32.ofInt (-1)), .int (Int32.ofInt v_2), .ref (42 + i_4)]) (σ' := (zN L X (zhi s21) R G nc ns)) (fun n => rfl) ?_
              refine zW.jcmp_ne rfl (by omega) (fun c27 => ?_) (fun c27 => ?_)
              · skip
                refine zW.run 1 (pc' := 109) (ls' := [some (.ref 7), some (.int (Int32.ofInt x)), some (.int (Int32.ofInt y)), some (.int (Int32.ofInt v_2)), some (.ref 19), some (.int (Int32.ofInt 12)), some (.int (Int32.ofInt (i_4 : Int))), some (.ref (42 + i_4))]) (st' := [.int (Int32.ofInt v_2), .ref (42 + i_4)]) (σ' := (zN L X (zhi s21) R G nc ns)) (fun n => rfl) ?_
                refine zW.jput rfl (zk_com (by omega)) rfl ?_
                refine zW.run 1 (pc' := 114) (ls' := [some (.ref 7), some (.int (Int32.ofInt x)), some (.int (Int32.ofInt y)), some (.int (Int32.ofInt v_2)), some (.ref 19), some (.int (Int32.ofInt 12)), some (.int (Int32.ofInt (i_4 : Int))), some (.ref (42 + i_4))]) (st' := [.ref (42 + i_4)]) (σ' := (zN L X (zhi (zup s21 (42 + i_4) 1 v_2)) R G nc ns)) (fun n => rfl) ?_
                have V28 : zV g U F T B ph (zup s21 (42 + i_4) 1 v_2) := (V_csq V22 (by omega) (by omega))
                generalize hs29 : (zup s21 (42 + i_4) 1 v_2) = s29 at V28 ⊢
                refine zW.callV rfl (by decide) rfl rfl rfl rfl (zk_com (by omega)) (Nat.le_of_ble_eq_true rfl) ?_
                refine t_Company_restNow S V28 (i := i_4) (by omega) (fun s30 V31 => ?_)
                show zW ro 51 117 [some (.ref 7), some (.int (Int32.ofInt x)), some (.int (Int32.ofInt y)), some (.int (Int32.ofInt v_2)), some (.ref 19), some (.int (Int32.ofInt 12)), some (.int (Int32.ofInt (i_4 : Int))), some (.ref (42 + i_4))] [] (zN L X (zhi s30) R G nc ns) Q
                refine zW.jinc (ls' := [some (.ref 7), some (.int (Int32.ofInt x)), some (.int (Int32.ofInt y)), some (.int (Int32.ofInt v_2)), some (.ref 19), some (.int (Int32.ofInt 12)), some (.int (Int32.ofInt ((i_4 : Int) + 1))), some (.ref (42 + i_4))]) rfl (Nat.le_of_ble_eq_true rfl) rfl rfl ?_
                refine zW.run 1 (pc' := 21) (ls' := [some (.ref 7), some (.int (Int32.ofInt x)), some (.int (Int32.ofInt y)), some (.int (Int32.ofInt v_2)), some (.ref 19), some (.int (Int32.ofInt 12)), some (.int (Int32.ofInt ((i_4 : Int) + 1))), some (.ref (42 + i_4))]) (st' := []) (σ' := (zN L X (zhi s30) R G nc ns)) (fun n => rfl) ?_
                exact ih10 (i_4 + 1) (some (.ref (42 + i_4))) s30 (zV_mono V31 (by omega) (by omega)) (by omega) (by omega)
              · skip
                refine zW.run 2 (pc' := 102) (ls' := [some (.ref 7), some (.int (Int32.ofInt x)), some (.int (Int32.ofInt y)), some (.int (Int32.ofInt v_2)), some (.ref 19), some (.int (Int32.ofInt 12)), some (.int (Int32.ofInt (i_4 : Int))), some (.ref (42 + i_4))]) (st' := [.int (Int32.ofInt x), .ref 7, .ref (42 + i_4)]) (σ' := (zN L X (zhi s21) R G nc ns)) (fun n => rfl) ?_
                refine zW.callV rfl (by decide) rfl rfl rfl rfl rfl (Nat.le_of_ble_eq_true rfl) ?_
                refine t_Siege_homeOf S V22 (x := x) (by omega) (fun v_32 f33 => ?_)
                show zW ro 51 105 [some (.ref 7), some (.int (Int32.ofInt x)), some (.int (Int32.ofInt y)), some (.int (Int32.ofInt v_2)), some (.ref 19), some (.int (Int32.ofInt 12)), some (.int (Int32.ofInt (i_4 : Int))), some (.ref (42 + i_4))] [.int (Int32.ofInt v_32), .ref (42 + i_4)] (zN L X (zhi s21) R G nc ns) Q
                refine zW.run 1 (pc' := 109) (ls' := [some (.ref 7), some (.int (Int32.ofInt x)), some (.int (Int32.ofInt y)), some (.int (Int32.ofInt v_2)), some (.ref 19), some (.int (Int32.ofInt 12)), some (.int (Int32.ofInt (i_4 : Int))), some (.ref (42 + i_4))]) (st' := [.int (Int32.ofInt v_32), .ref (42 + i_4)]) (σ' := (zN L X (zhi s21) R G nc ns)) (fun n => rfl) ?_
                refine zW.jput rfl (zk_com (by omega)) rfl ?_
                refine zW.run 1 (pc' := 114) (ls' := [some (.ref 7), some (.int (Int32.ofInt x)), some (.int (Int32.ofInt y)), some (.int (Int32.ofInt v_2)), some (.ref 19), some (.int (Int32.ofInt 12)), some (.int (Int32.ofInt (i_4 : Int))), some (.ref (42 + i_4))]) (st' := [.ref (42 + i_4)]) (σ' := (zN L X (zhi (zup s21 (42 + i_4) 1 v_32)) R G nc ns)) (fun n => rfl) ?_
                have V34 : zV g U F T B ph (zup s21 (42 + i_4) 1 v_32) := (V_csq V22 (by omega) (by omega))
                generalize hs35 : (zup s21 (42 + i_4) 1 v_32) = s35 at V34 ⊢
                refine zW.callV rfl (by decide) rfl rfl rfl rfl (zk_com (by omega)) (Nat.le_of_ble_eq_true rfl) ?_
                refine t_Company_restNow S V34 (i := i_4) (by omega) (fun s36 V37 => ?_)
                show zW ro 51 117 [some (.ref 7), some (.int (Int32.ofInt x)), some (.int (Int32.ofInt y)), some (.int (Int32.ofInt v_2)), some (.ref 19), some (.int (Int32.ofInt 12)), some (.int (Int32.ofInt (i_4 : Int))), some (.ref (42 + i_4))] [] (zN L X (zhi s36) R G nc ns) Q
                refine zW.jinc (ls' := [some (.ref 7), some (.int (Int32.ofInt x)), some (.int (Int32.ofInt y)), some (.int (Int32.ofInt v_2)), some (.ref 19), some (.int (Int32.ofInt 12)), some (.int (Int32.ofInt ((i_4 : Int) + 1))), some (.ref (42 + i_4))]) rfl (Nat.le_of_ble_eq_true rfl) rfl rfl ?_
                refine zW.run 1 (pc' := 21) (ls' := [some (.ref 7), some (.int (Int32.ofInt x)), some (.int (Int32.ofInt y)), some (.int (Int32.ofInt v_2)), some (.ref 19), some (.int (Int32.ofInt 12)), some (.int (Int32.ofInt ((i_4 : Int) + 1))), some (.ref (42 + i_4))]) (st' := []) (σ' := (zN L X (zhi s36) R G nc ns)) (fun n => rfl) ?_
                exact ih10 (i_4 + 1) (some (.ref (42 + i_4))) s36 (zV_mono V37 (by omega) (by omega)) (by omega) (by omega)
            · skip
              refine zW.run 3 (pc' := 84) (ls' := [some (.ref 7), some (.int (Int32.ofInt x)), some (.int (Int32.ofInt y)), some (.int (Int32.ofInt v_2)), some (.ref 19), some (.int (Int32.ofInt 12)), some (.int (Int32.ofInt (i_4 : Int))), some (.ref (42 + i_4))]) (st' := [.ref (42 + i_4), .ref (42 + i_4), .ref 7]) (σ' := (zN L X (zhi s21) R G nc ns)) (fun n => rfl) ?_
              refine zW.jget (v := (s21 (42 + i_4) 2)) rfl (zk_com (by omega)) (fun _ _ _ => rfl) rfl ?_
              refine zW.run 1 (pc' := 88) (ls' := [some (.ref 7), some (.int (Int32.ofInt x)), some (.int (Int32.ofInt y)), some (.int (Int32.ofInt v_2)), some (.ref 19), some (.int (Int32.ofInt 12)), some (.int (Int32.ofInt (i_4 : Int))), some (.ref (42 + i_4))]) (st' := [.int (Int32.ofInt 2), .int (Int32.ofInt (s21 (42 + i_4) 2)), .ref (42 + i_4), .ref 7]) (σ' := (zN L X (zhi s21) R G nc ns)) (fun n => rfl) ?_
              refine zW.jdiv rfl (by omega) ?_
              refine zW.callV rfl (by decide) rfl rfl rfl rfl rfl (Nat.le_of_ble_eq_true rfl) ?_
              refine t_Siege_takeMen S V22 (i := i_4) (x := ((s21 (42 + i_4) 2) / 2)) (by omega) (by omega) (fun v_38 s39 V40 f41 => ?_)
              show zW ro 51 92 [some (.ref 7), some (.int (Int32.ofInt x)), some (.int (Int32.ofInt y)), some (.int (Int32.ofInt v_2)), some (.ref 19), some (.int (Int32.ofInt 12)), some (.int (Int32.ofInt (i_4 : Int))), some (.ref (42 + i_4))] [.int (Int32.ofInt v_38)] (zN L X (zhi s39) R G nc ns) Q
              refine zW.run 4 (pc' := 97) (ls' := [some (.ref 7), some (.int (Int32.ofInt x)), some (.int (Int32.ofInt y)), some (.int (Int32.ofInt v_2)), some (.ref 19), some (.int (Int32.ofInt 12)), some (.int (Int32.ofInt (i_4 : Int))), some (.ref (42 + i_4))]) (st' := [.int (Int32.ofInt (-1)), .int (Int32.ofInt v_2), .ref (42 + i_4)]) (σ' := (zN L X (zhi s39) R G nc ns)) (fun n => rfl) ?_
              refine zW.jcmp_ne rfl (by omega) (fun c42 => ?_) (fun c42 => ?_)
              · skip
                refine zW.run 1 (pc' := 109) (ls' := [some (.ref 7), some (.int (Int32.ofInt x)), some (.int (Int32.ofInt y)), some (.int (Int32.ofInt v_2)), some (.ref 19), some (.int (Int32.ofInt 12)), some (.int (Int32.ofInt (i_4 : Int))), some (.ref (42 + i_4))]) (st' := [.int (Int32.ofInt v_2), .ref (42 + i_4)]) (σ' := (zN L X (zhi s39) R G nc ns)) (fun n => rfl) ?_
                refine zW.jput rfl (zk_com (by omega)) rfl ?_
                refine zW.run 1 (pc' := 114) (ls' := [some (.ref 7), some (.int (Int32.ofInt x)), some (.int (Int32.ofInt y)), some (.int (Int32.ofInt v_2)), some (.ref 19), some (.int (Int32.ofInt 12)), some (.int (Int32.ofInt (i_4 : Int))), some (.ref (42 + i_4))]) (st' := [.ref (42 + i_4)]) (σ' := (zN L X (zhi (zup s39 (42 + i_4) 1 v_2)) R G nc ns)) (fun n => rfl) ?_
                have V43 : zV g U F T B ph (zup s39 (42 + i_4) 1 v_2) := (V_csq V40 (by omega) (by omega))
                generalize hs44 : (zup s39 (42 + i_4) 1 v_2) = s44 at V43 ⊢
                refine zW.callV rfl (by decide) rfl rfl rfl rfl (zk_com (by omega)) (Nat.le_of_ble_eq_true rfl) ?_
                refine t_Company_restNow S V43 (i := i_4) (by omega) (fun s45 V46 => ?_)
                show zW ro 51 117 [some (.ref 7), some (.int (Int32.ofInt x)), some (.int (Int32.ofInt y)), some (.int (Int32.ofInt v_2)), some (.ref 19), some (.int (Int32.ofInt 12)), some (.int (Int32.ofInt (i_4 : Int))), some (.ref (42 + i_4))] [] (zN L X (zhi s45) R G nc ns) Q
                refine zW.jinc (ls' := [some (.ref 7), some (.int (Int32.ofInt x)), some (.int (Int32.ofInt y)), some (.int (Int32.ofInt v_2)), some (.ref 19), some (.int (Int32.ofInt 12)), some (.int (Int32.ofInt ((i_4 : Int) + 1))), some (.ref (42 + i_4))]) rfl (Nat.le_of_ble_eq_true rfl) rfl rfl ?_
                refine zW.run 1 (pc' := 21) (ls' := [some (.ref 7), some (.int (Int32.ofInt x)), some (.int (Int32.ofInt y)), some (.int (Int32.ofInt v_2)), some (.ref 19), some (.int (Int32.ofInt 12)), some (.int (Int32.ofInt ((i_4 : Int) + 1))), some (.ref (42 + i_4))]) (st' := []) (σ' := (zN L X (zhi s45) R G nc ns)) (fun n => rfl) ?_
                exact ih10 (i_4 + 1) (some (.ref (42 + i_4))) s45 (zV_mono V46 (by omega) (by omega)) (by omega) (by omega)
              · skip
                refine zW.run 2 (pc' := 102) (ls' := [some (.ref 7), some (.int (Int32.ofInt x)), some (.int (Int32.ofInt y)), some (.int (Int32.ofInt v_2)), some (.ref 19), some (.int (Int32.ofInt 12)), some (.int (Int32.ofInt (i_4 : Int))), some (.ref (42 + i_4))]) (st' := [.int (Int32.ofInt x), .ref 7, .ref (42 + i_4)]) (σ' := (zN L X (zhi s39) R G nc ns)) (fun n => rfl) ?_
                refine zW.callV rfl (by decide) rfl rfl rfl rfl rfl (Nat.le_of_ble_eq_true rfl) ?_
                refine t_Siege_homeOf S V40 (x := x) (by omega) (fun v_47 f48 => ?_)
                show zW ro 51 105 [some (.ref 7), some (.int (Int32.ofInt x)), some (.int (Int32.ofInt y)), some (.int (Int32.ofInt v_2)), some (.ref 19), some (.int (Int32.ofInt 12)), some (.int (Int32.ofInt (i_4 : Int))), some (.ref (42 + i_4))] [.int (Int32.ofInt v_47), .ref (42 + i_4)] (zN L X (zhi s39) R G nc ns) Q
                refine zW.run 1 (pc' := 109) (ls' := [some (.ref 7), some (.int (Int32.ofInt x)), some (.int (Int32.ofInt y)), some (.int (Int32.ofInt v_2)), some (.ref 19), some (.int (Int32.ofInt 12)), some (.int (Int32.ofInt (i_4 : Int))), some (.ref (42 + i_4))]) (st' := [.int (Int32.ofInt v_47), .ref (42 + i_4)]) (σ' := (zN L X (zhi s39) R G nc ns)) (fun n => rfl) ?_
                refine zW.jput rfl (zk_com (by omega)) rfl ?_
                refine zW.run 1 (pc' := 114) (ls' := [some (.ref 7), some (.int (Int32.ofInt x)), some (.int (Int32.ofInt y)), some (.int (Int32.ofInt v_2)), some (.ref 19), some (.int (Int32.ofInt 12)), some (.int (Int32.ofInt (i_4 : Int))), some (.ref (42 + i_4))]) (st' := [.ref (42 + i_4)]) (σ' := (zN L X (zhi (zup s39 (42 + i_4) 1 v_47)) R G nc ns)) (fun n => rfl) ?_
                have V49 : zV g U F T B ph (zup s39 (42 + i_4) 1 v_47) := (V_csq V40 (by omega) (by omega))
                generalize hs50 : (zup s39 (42 + i_4) 1 v_47) = s50 at V49 ⊢
                refine zW.callV rfl (by decide) rfl rfl rfl rfl (zk_com (by omega)) (Nat.le_of_ble_eq_true rfl) ?_
                refine t_Company_restNow S V49 (i := i_4) (by omega) (fun s51 V52 => ?_)
                show zW ro 51 117 [some (.ref 7), some (.int (Int32.ofInt x)), some (.int (Int32.ofInt y)), some (.int (Int32.ofInt v_2)), some (.ref 19), some (.int (Int32.ofInt 12)), some (.int (Int32.ofInt (i_4 : Int))), some (.ref (42 + i_4))] [] (zN L X (zhi s51) R G nc ns) Q
                refine zW.jinc (ls' := [some (.ref 7), some (.int (Int32.ofInt x)), some (.int (Int32.ofInt y)), some (.int (Int32.ofInt v_2)), some (.ref 19), some (.int (Int32.ofInt 12)), some (.int (Int32.ofInt ((i_4 : Int) + 1))), some (.ref (42 + i_4))]) rfl (Nat.le_of_ble_eq_true rfl) rfl rfl ?_
                refine zW.run 1 (pc' := 21) (ls' := [some (.ref 7), some (.int (Int32.ofInt x)), some (.int (Int32.ofInt y)), some (.int (Int32.ofInt v_2)), some (.ref 19), some (.int (Int32.ofInt 12)), some (.int (Int32.ofInt ((i_4 : Int) + 1))), some (.ref (42 + i_4))]) (st' := []) (σ' := (zN L X (zhi s51) R G nc ns)) (fun n => rfl) ?_
                exact ih10 (i_4 + 1) (some (.ref (42 + i_4))) s51 (zV_mono V52 (by omega) (by omega)) (by omega) (by omega)
          · skip
            refine zW.run 1 (pc' := 117) (ls' := [some (.ref 7), some (.int (Int32.ofInt x)), some (.int (Int32.ofInt y)), some (.int (Int32.ofInt v_2)), some (.ref 19), some (.int (Int32.ofInt 12)), some (.int (Int32.ofInt (i_4 : Int))), some (.ref (42 + i_4))]) (st' := []) (σ' := (zN L X (zhi s21) R G nc ns)) (fun n => rfl) ?_
            refine zW.jinc (ls' := [some (.ref 7), some (.int (Int32.ofInt x)), some (.int (Int32.ofInt y)), some (.int (Int32.ofInt v_2)), some (.ref 19), some (.int (Int32.ofInt 12)), some (.int (Int32.ofInt ((i_4 : Int) + 1))), some (.ref (42 + i_4))]) rfl (Nat.le_of_ble_eq_true rfl) rfl rfl ?_
            refine zW.run 1 (pc' := 21) (ls' := [some (.ref 7), some (.int (Int32.ofInt x)), some (.int (Int32.ofInt y)), some (.int (Int32.ofInt v_2)), some (.ref 19), some (.int (Int32.ofInt 12)), some (.int (Int32.ofInt ((i_4 : Int) + 1))), some (.ref (42 + i_4))]) (st' := []) (σ' := (zN L X (zhi s21) R G nc ns)) (fun n => rfl) ?_
            exact ih10 (i_4 + 1) (some (.ref (42 + i_4))) s21 (zV_mono V22 (by omega) (by omega)) (by omega) (by omega)
        · skip
          show zW ro 51 42 [some (.ref 7), some (.int (Int32.ofInt x)), some (.int (Int32.ofInt y)), some (.int (Int32.ofInt v_2)), some (.ref 19), some (.int (Int32.ofInt 12)), some (.int (Int32.ofInt (i_4 : Int))), some (.ref (42 + i_4))] [.int (Int32.ofInt 0)] (zN L X (zhi s6) R G nc ns) Q
          refine zW.run 2 (pc' := 117) (ls' := [some (.ref 7), some (.int (Int32.ofInt x)), some (.int (Int32.ofInt y)), some (.int (Int32.ofInt v_2)), some (.ref 19), some (.int (Int32.ofInt 12)), some (.int (Int32.ofInt (i_4 : Int))), some (.ref (42 + i_4))]) (st' := []) (σ' := (zN L X (zhi s6) R G nc ns)) (fun n => rfl) ?_
          refine zW.jinc (ls' := [some (.ref 7), some (.int (Int32.ofInt x)), some (.int (Int32.ofInt y)), some (.int (Int32.ofInt v_2)), some (.ref 19), some (.int (Int32.ofInt 12)), some (.int (Int32.ofInt ((i_4 : Int) + 1))), some (.ref (42 + i_4))]) rfl (Nat.le_of_ble_eq_true rfl) rfl rfl ?_
          refine zW.run 1 (pc' := 21) (ls' := [some (.ref 7), some (.int (Int32.ofInt x)), some (.int (Int32.ofInt y)), some (.int (Int32.ofInt v_2)), some (.ref 19), some (.int (Int32.ofInt 12)), some (.int (Int32.ofInt ((i_4 : Int) + 1))), some (.ref (42 + i_4))]) (st' := []) (σ' := (zN L X (zhi s6) R G nc ns)) (fun n => rfl) ?_
          exact ih10 (i_4 + 1) (some (.ref (42 + i_4))) s6 (zV_mono V7 (by omega) (by omega)) (by omega) (by omega)
  exact J9 _ 0 none s (zV_mono V (by omega) (by omega)) (by omega) (Nat.lt_succ_self _)
set_option maxHeartbeats 4000000 in
theorem t_Duties_assault (S : zSR R) (V : zV g U F T B ph s) {i : Nat} (p0 : i < 12) (hQ0 : ∀ (s1 : zJ), zV g U F T B ph s1 → Q (.inl none) (zN L X (zhi s1) R G nc ns)) : zW ro 39 0 (zfst [.ref 7, .ref (42 + i)] 9) [] (zN L X (zhi s) R G nc ns) Q := by
  show zW ro 39 0 [some (.ref 7), some (.ref (42 + i)), none, none, none, none, none, none, none] [] (zN L X (zhi s) R G nc ns) Q
  have f1 := zA_geo (zV_zA V)
  have hB0 := zV_B V
  refine zW.run 1 (pc' := 1) (ls' := [some (.ref 7), some (.ref (42 + i)), none, none, none, none, none, none, none]) (st' := [.ref 7]) (σ' := (zN L X (zhi s) R G nc ns)) (fun n => rfl) ?_
  refine zW.getf (v := .ref 8) rfl rfl (zr_7_0 S) ?_
  refine zW.run 2 (pc' := 6) (ls' := [some (.ref 7), some (.ref (42 + i)), some (.ref 8), none, none, none, none, none, none]) (st' := [.ref (42 + i)]) (σ' := (zN L X (zhi s) R G nc ns)) (fun n => rfl) ?_
  have f2 := zV_com V (i := i) (by omega)
  refine zW.jget (v := (s (42 + i) 5)) rfl (zk_com (by omega)) (fun _ _ _ => rfl) rfl ?_
  refine zW.run 3 (pc' := 12) (ls' := [some (.ref 7), some (.ref (42 + i)), some (.ref 8), some (.int (Int32.ofInt (s (42 + i) 5))), none, none, none, none, none]) (st' := [.ref (42 + i), .int (Int32.ofInt 1)]) (σ' := (zN L X (zhi s) R G nc ns)) (fun n => rfl) ?_
  refine zW.jget (v := (s (42 + i) 0)) rfl (zk_com (by omega)) (fun _ _ _ => rfl) rfl ?_
  refine zW.jsub rfl ?_
  refine zW.run 3 (pc' := 20) (ls' := [some (.ref 7), some (.ref (42 + i)), some (.ref 8), some (.int (Int32.ofInt (s (42 + i) 5))), some (.int (Int32.ofInt (1 - (s (42 + i) 0)))), none, none, none, none]) (st' := [.int (Int32.ofInt (s (42 + i) 5)), .ref 8]) (σ' := (zN L X (zhi s) R G nc ns)) (fun n => rfl) ?_
  refine zW.callV rfl (by decide) rfl rfl rfl rfl rfl (Nat.le_of_ble_eq_true rfl) ?_
  refine t_Ground_isOn S (zV_zA V) (x := (s (42 + i) 5)) (by omega) (fun f3 f4 => ?_) (fun f5 => ?_)
  · skip
    show zW ro 39 23 [some (.ref 7), some (.ref (42 + i)), some (.ref 8), some (.int (Int32.ofInt (s (42 + i) 5))), some (.int (Int32.ofInt (1 - (s (42 + i) 0)))), none, none, none, none] [.int (Int32.ofInt 1)] (zN L X (zhi s) R G nc ns) Q
    refine zW.run 3 (pc' := 28) (ls' := [some (.ref 7), some (.ref (42 + i)), some (.ref 8), some (.int (Int32.ofInt (s (42 + i) 5))), some (.int (Int32.ofInt (1 - (s (42 + i) 0)))), none, none, none, none]) (st' := [.ref (42 + i), .ref 8]) (σ' := (zN L X (zhi s) R G nc ns)) (fun n => rfl) ?_
    refine zW.jget (v := (s (42 + i) 1)) rfl (zk_com (by omega)) (fun _ _ _ => rfl) rfl ?_
    refine zW.run 1 (pc' := 32) (ls' := [some (.ref 7), some (.ref (42 + i)), some (.ref 8), some (.int (Int32.ofInt (s (42 + i) 5))), some (.int (Int32.ofInt (1 - (s (42 + i) 0)))), none, none, none, none]) (st' := [.int (Int32.ofInt (s (42 + i) 5)), .int (Int32.ofInt (s (42 + i) 1)), .ref 8]) (σ' := (zN L X (zhi s) R G nc ns)) (fun n => rfl) ?_
    refine zW.callS rfl rfl rfl rfl rfl (Nat.le_of_ble_eq_true rfl) ?_
    refine t_Duties_canAssault S V (a := (s (42 + i) 1)) (b := (s (42 + i) 5)) (by omega) (by omega) ?_ ?_
    · skip
      show zW ro 39 35 [some (.ref 7), some (.ref (42 + i)), some (.ref 8), some (.int (Int32.ofInt (s (42 + i) 5))), some (.int (Int32.ofInt (1 - (s (42 + i) 0)))), none, none, none, none] [.int (Int32.ofInt 1)] (zN L X (zhi s) R G nc ns) Q
      refine zW.run 4 (pc' := 43) (ls' := [some (.ref 7), some (.ref (42 + i)), some (.ref 8), some (.int (Int32.ofInt (s (42 + i) 5))), some (.int (Int32.ofInt (1 - (s (42 + i) 0)))), none, none, none, none]) (st' := [.int (Int32.ofInt (s (42 + i) 5)), .int (Int32.ofInt (1 - (s (42 + i) 0))), .ref 7]) (σ' := (zN L X (zhi s) R G nc ns)) (fun n => rfl) ?_
      refine zW.callV rfl (by decide) rfl rfl rfl rfl rfl (Nat.le_of_ble_eq_true rfl) ?_
      refine t_Siege_isHeldBy S V (x := (1 - (s (42 + i) 0))) (y := (s (42 + i) 5)) (by omega) (by omega) ?_ ?_
      · skip
        show zW ro 39 46 [some (.ref 7), some (.ref (42 + i)), some (.ref 8), some (.int (Int32.ofInt (s (42 + i) 5))), some (.int (Int32.ofInt (1 - (s (42 + i) 0)))), none, none, none, none] [.int (Int32.ofInt 1)] (zN L X (zhi s) R G nc ns) Q
        refine zW.run 3 (pc' := 51) (ls' := [some (.ref 7), some (.ref (42 + i)), some (.ref 8), some (.int (Int32.ofInt (s (42 + i) 5))), some (.int (Int32.ofInt (1 - (s (42 + i) 0)))), none, none, none, none]) (st' := [.ref (42 + i), .ref 7]) (σ' := (zN L X (zhi s) R G nc ns)) (fun n => rfl) ?_
        refine zW.callS rfl rfl rfl rfl rfl (Nat.le_of_ble_eq_true rfl) ?_
        refine t_Duties_attackOf S V (i := i) (by omega) (fun v_6 => ?_)
        show zW ro 39 54 [some (.ref 7), some (.ref (42 + i)), some (.ref 8), some (.int (Int32.ofInt (s (42 + i) 5))), some (.int (Int32.ofInt (1 - (s (42 + i) 0)))), none, none, none, none] [.int v_6] (zN L X (zhi s) R G nc ns) Q
        refine zW.run 3 (pc' := 58) (ls' := [some (.ref 7), some (.ref (42 + i)), some (.ref 8), some (.int (Int32.ofInt (s (42 + i) 5))), some (.int (Int32.ofInt (1 - (s (42 + i) 0)))), none, none, none, none]) (st' := [.int (Int32.ofInt (s (42 + i) 5)), .int (Int32.ofInt (1 - (s (42 + i) 0))), .ref 7, .int v_6]) (σ' := (zN L X (zhi s) R G nc ns)) (fun n => rfl) ?_
        refine zW.callS rfl rfl rfl rfl rfl (Nat.le_of_ble_eq_true rfl) ?_
        refine t_Duties_defenceOf S V (x := (1 - (s (42 + i) 0))) (y := (s (42 + i) 5)) (by omega) (by omega) (fun v_7 => ?_)
        show zW ro 39 61 [some (.ref 7), some (.ref (42 + i)), some (.ref 8), some (.int (Int32.ofInt (s (42 + i) 5))), some (.int (Int32.ofInt (1 - (s (42 + i) 0)))), none, none, none, none] [.int v_7, .int v_6] (zN L X (zhi s) R G nc ns) Q
        have J9 : ∀ (v8 : Int), (v8 = 0) ∨ (v8 = 1) → zW ro 39 69 [some (.ref 7), some (.ref (42 + i)), some (.ref 8), some (.int (Int32.ofInt (s (42 + i) 5))), some (.int (Int32.ofInt (1 - (s (42 + i) 0)))), none, none, none, none] [.int (Int32.ofInt v8)] (zN L X (zhi s) R G nc ns) Q := by
          intro v8 c10
          refine zW.run 3 (pc' := 74) (ls' := [some (.ref 7), some (.ref (42 + i)), some (.ref 8), some (.int (Int32.ofInt (s (42 + i) 5))), some (.int (Int32.ofInt (1 - (s (42 + i) 0)))), some (.int (Int32.ofInt v8)), none, none, none]) (st' := [.int (Int32.ofInt v8), .ref 7]) (σ' := (zN L X (zhi s) R G nc ns)) (fun n => rfl) ?_
          have J12 : ∀ (v11 : Int), (v8 = 0 ∧ v11 = (1 - (s (42 + i) 0))) ∨ (¬ v8 = 0 ∧ v11 = (s (42 + i) 0)) → zW ro 39 86 [some (.ref 7), some (.ref (42 + i)), some (.ref 8), some (.int (Int32.ofInt (s (42 + i) 5))), some (.int (Int32.ofInt (1 - (s (42 + i) 0)))), some (.int (Int32.ofInt v8)), none, none, none] [.int (Int32.ofInt v11), .ref 7] (zN L X (zhi s) R G nc ns) Q := by
            intro v11 c13
            refine zW.callV rfl (by decide) rfl rfl rfl rfl rfl (Nat.le_of_ble_eq_true rfl) ?_
            refine t_Siege_countFight S V (x := v11) (by omega) (fun s14 V15 => ?_)
            show zW ro 39 89 [some (.ref 7), some (.ref (42 + i)), some (.ref 8), some (.int (Int32.ofInt (s (42 + i) 5))), some (.int (Int32.ofInt (1 - (s (42 + i) 0)))), some (.int (Int32.ofInt v8)), none, none, none] [] (zN L X (zhi s14) R G nc ns) Q
            refine zW.run 1 (pc' := 91) (ls' := [some (.ref 7), some (.ref (42 + i)), some (.ref 8), some (.int (Int32.ofInt (s (42 + i) 5))), some (.int (Int32.ofInt (1 - (s (42 + i) 0)))), some (.int (Int32.ofInt v8)), none, none, none]) (st' := [.int (Int32.ofInt v8)]) (σ' := (zN L X (zhi s14) R G nc ns)) (fun n => rfl) ?_
            refine zW.jif_ne rfl (by omega) (fun c16 => ?_) (fun c16 => ?_)
            · skip
              refine zW.run 3 (pc' := 105) (ls' := [some (.ref 7), some (.ref (42 + i)), some (.ref 8), some (.int (Int32.ofInt (s (42 + i) 5))), some (.int (Int32.ofInt (1 - (s (42 + i) 0)))), some (.int (Int32.ofInt v8)), none, none, none]) (st' := [.ref (42 + i), .ref (42 + i), .ref 7]) (σ' := (zN L X (zhi s14) R G nc ns)) (fun n => rfl) ?_
              have f17 := zV_com V15 (i := i) (by omega)
              refine zW.jget (v := (s14 (42 + i) 2)) rfl (zk_com (by omega)) (fun _ _ _ => rfl) rfl ?_
              refine zW.run 1 (pc' := 110) (ls' := [some (.ref 7), some (.ref (42 + i)), some (.ref 8), some (.int (Int32.ofInt (s (42 + i) 5))), some (.int (Int32.ofInt (1 - (s (42 + i) 0)))), some (.int (Int32.ofInt v8)), none, none, none]) (st' := [.int (Int32.ofInt 8), .int (Int32.ofInt (s14 (42 + i) 2)), .ref (42 + i), .ref 7]) (σ' := (zN L X (zhi s14) R G nc ns)) (fun n => rfl) ?_
              refine zW.jdiv rfl (by omega) ?_
              refine zW.callV rfl (by decide) rfl rfl rfl rfl rfl (Nat.le_of_ble_eq_true rfl) ?_
              refine t_Siege_takeMen S V15 (i := i) (x := ((s14 (42 + i) 2) / 8)) (by omega) (by omega) (fun v_18 s19 V20 f21 => ?_)
              show zW ro 39 114 [some (.ref 7), some (.ref (42 + i)), some (.ref 8), some (.int (Int32.ofInt (s (42 + i) 5))), some (.int (Int32.ofInt (1 - (s (42 + i) 0)))), some (.int (Int32.ofInt v8)), none, none, none] [.int (Int32.ofInt v_18)] (zN L X (zhi s19) R G nc ns) Q
              refine zW.run 4 (pc' := 119) (ls' := [some (.ref 7), some (.ref (42 + i)), some (.ref 8), some (.int (Int32.ofInt (s (42 + i) 5))), some (.int (Int32.ofInt (1 - (s (42 + i) 0)))), some (.int (Int32.ofInt v8)), none, none, none]) (st' := [.int (Int32.ofInt (s (42 + i) 5)), .int (Int32.ofInt (1 - (s (42 + i) 0))), .ref 7]) (σ' := (zN L X (zhi s19) R G nc ns)) (fun n => rfl) ?_
              refine zW.callS rfl rfl rfl rfl rfl (Nat.le_of_ble_eq_true rfl) ?_
              refine t_Duties_putToFlight S V20 (x := (1 - (s (42 + i) 0))) (y := (s (42 + i) 5)) (by omega) (by omega) (fun s22 V23 => ?_)
              show zW ro 39 122 [some (.ref 7), some (.ref (42 + i)), some (.ref 8), some (.int (Int32.ofInt (s (42 + i) 5))), some (.int (Int32.ofInt (1 - (s (42 + i) 0)))), some (.int (Int32.ofInt v8)), none, none, none] [] (zN L X (zhi s22) R G nc ns) Q
              refine zW.run 2 (pc' := 124) (ls' := [some (.ref 7), some (.ref (42 + i)), some (.ref 8), some (.int (Int32.ofInt (s (42 + i) 5))), some (.int (Int32.ofInt (1 - (s (42 + i) 0)))), some (.int (Int32.ofInt v8)), none, none, none]) (st' := [.int (Int32.ofInt (s (42 + i) 5)), .ref (42 + i)]) (σ' := (zN L X (zhi s22) R G nc ns)) (fun n => rfl) ?_
              refine zW.jput rfl (zk_com (by omega)) rfl ?_
              refine zW.run 1 (pc' := 128) (ls' := [some (.ref 7), some (.ref (42 + i)), some (.ref 8), some (.int (Int32.ofInt (s (42 + i) 5))), some (.int (Int32.ofInt (1 - (s (42 + i) 0)))), some (.int (Int32.ofInt v8)), none, none, none]) (st' := [.ref (42 + i)]) (σ' := (zN L X (zhi (zup s22 (42 + i) 1 (s (42 + i) 5))) R G nc ns)) (fun n => rfl) ?_
              have V24 : zV g U F T B ph (zup s22 (42 + i) 1 (s (42 + i) 5)) := (V_csq V23 (by omega) (by omega))
              generalize hs25 : (zup s22 (42 + i) 1 (s (42 + i) 5)) = s25 at V24 ⊢
              refine zW.callV rfl (by decide) rfl rfl rfl rfl (zk_com (by omega)) (Nat.le_of_ble_eq_true rfl) ?_
              refine t_Company_restNow S V24 (i := i) (by omega) (fun s26 V27 => ?_)
              show zW ro 39 131 [some (.ref 7), some (.ref (42 + i)), some (.ref 8), some (.int (Int32.ofInt (s (42 + i) 5))), some (.int (Int32.ofInt (1 - (s (42 + i) 0)))), some (.int (Int32.ofInt v8)), none, none, none] [] (zN L X (zhi s26) R G nc ns) Q
              refine zW.run 1 (pc' := 132) (ls' := [some (.ref 7), some (.ref (42 + i)), some (.ref 8), some (.int (Int32.ofInt (s (42 + i) 5))), some (.int (Int32.ofInt (1 - (s (42 + i) 0)))), some (.int (Int32.ofInt v8)), none, none, none]) (st' := [.ref 7]) (σ' := (zN L X (zhi s26) R G nc ns)) (fun n => rfl) ?_
              refine zW.getf (v := .ref 18) rfl rfl (zr_7_1 S) ?_
              refine zW.run 2 (pc' := 139) (ls' := [some (.ref 7), some (.ref (42 + i)), some (.ref 8), some (.int (Int32.ofInt (s (42 + i) 5))), some (.int (Int32.ofInt (1 - (s (42 + i) 0)))), some (.ref 18), none, none, none]) (st' := [.ref 18]) (σ' := (zN L X (zhi s26) R G nc ns)) (fun n => rfl) ?_
              refine zW.alen rfl rfl (by decide) ?_
              show zW ro 39 140 [some (.ref 7), some (.ref (42 + i)), some (.ref 8), some (.int (Int32.ofInt (s (42 + i) 5))), some (.int (Int32.ofInt (1 - (s (42 + i) 0)))), some (.ref 18), none, none, none] [.int (Int32.ofInt 16)] (zN L X (zhi s26) R G nc ns) Q
              refine zW.run 3 (pc' := 145) (ls' := [some (.ref 7), some (.ref (42 + i)), some (.ref 8), some (.int (Int32.ofInt (s (42 + i) 5))), some (.int (Int32.ofInt (1 - (s (42 + i) 0)))), some (.ref 18), some (.int (Int32.ofInt 16)), some (.int (Int32.ofInt 0)), none]) (st' := []) (σ' := (zN L X (zhi s26) R G nc ns)) (fun n => rfl) ?_
              have J33 : ∀ m : Nat, ∀ (i_28 : Nat) (w29 : Option Value) (s30 : zJ), zV g U F T B ph s30 → i_28 ≤ 16 → 17 - i_28 < m → zW ro 39 145 [some (.ref 7), some (.ref (42 + i)), some (.ref 8), some (.int (Int32.ofInt (s (42 + i) 5))), some (.int (Int32.ofInt (1 - (s (42 + i) 0)))), some (.ref 18), some (.int (Int32.ofInt 16)), some (.int (Int32.ofInt (i_28 : Int))), w29] [] (zN L X (zhi s30) R G nc ns) Q := by
                intro m
                induction m with
                | zero => intros; omega
                | succ m ih34 =>
                  intro i_28 w29 s30 V31 c32 hm35
                  refine zW.run 2 (pc' := 149) (ls' := [some (.ref 7), some (.ref (42 + i)), some (.ref 8), some (.int (Int32.ofInt (s (42 + i) 5))), some (.int (Int32.ofInt (1 - (s (42 + i) 0)))), some (.ref 18), some (.int (Int32.ofInt 16)), some (.int (Int32.ofInt (i_28 : Int))), w29]) (st' := [.int (Int32.ofInt 16), .int (Int32.ofInt (i_28 : Int))]) (σ' := (zN L X (zhi s30) R G nc ns)) (fun n => rfl) ?_
                  refine zW.jcmp_ge rfl (by omega) (fun c36 => ?_) (fun c36 => ?_)
                  · skip
                    refine zW.run 1 (pc' := 191) (ls' := [some (.ref 7), some (.ref (42 + i)), some (.ref 8), some (.int (Int32.ofInt (s (42 + i) 5))), some (.int (Int32.ofInt (1 - (s (42 + i) 0)))), some (.ref 18), some (.int (Int32.ofInt 16)), some (.int (Int32.ofInt (i_28 : Int))), w29]) (st' := [.ref (42 + i)]) (σ' := (zN L X (zhi s30) R G nc ns)) (fun n => rfl) ?_
                    have f37 := zV_com V31 (i := i) (by omega)
                    refine zW.jget (v := (s30 (42 + i) 0)) rfl (zk_com (by omega)) (fun _ _ _ => rfl) rfl ?_
                    refine zW.run 1 (pc' := 195) (ls' := [some (.ref 7), some (.ref (42 + i)), some (.ref 8), some (.int (Int32.ofInt (s (42 + i) 5))), some (.int (Int32.ofInt (1 - (s (42 + i) 0)))), some (.ref 18), some (.int (Int32.ofInt 16)), some (.int (Int32.ofInt (i_28 : Int))), w29]) (st' := [.int (Int32.ofInt 1), .int (Int32.ofInt (s30 (42 + i) 0))]) (σ' := (zN L X (zhi s30) R G nc ns)) (fun n => rfl) ?_
                    refine zW.jcmp_ne rfl (by omega) (fun c38 => ?_) (fun c38 => ?_)
                    · skip
                      exact zW.vret rfl (hQ0 s30 V31)
                    · skip
                      refine zW.run 1 (pc' := 199) (ls' := [some (.ref 7), some (.ref (42 + i)), some (.ref 8), some (.int (Int32.ofInt (s (42 + i) 5))), some (.int (Int32.ofInt (1 - (s (42 + i) 0)))), some (.ref 18), some (.int (Int32.ofInt 16)), some (.int (Int32.ofInt (i_28 : Int))), w29]) (st' := [.ref 8]) (σ' := (zN L X (zhi s30) R G nc ns)) (fun n => rfl) ?_
                      refine zW.getf (v := .ref 11) rfl rfl (zr_8 S (f := 2) (by decide)) ?_
                      refine zW.run 1 (pc' := 203) (ls' := [some (.ref 7), some (.ref (42 + i)), some (.ref 8), some (.int (Int32.ofInt (s (42 + i) 5))), some (.int (Int32.ofInt (1 - (s (42 + i) 0)))), some (.ref 18), some (.int (Int32.ofInt 16)), some (.int (Int32.ofInt (i_28 : Int))), w29]) (st' := [.int (Int32.ofInt (s (42 + i) 5)), .ref 11]) (σ' := (zN L X (zhi s30) R G nc ns)) (fun n => rfl) ?_
                      refine zW.jald (n := 144) (v := (s30 11 ((s (42 + i) 5).toNat))) rfl rfl (by decide) (by omega) rfl ?_
                      have f39 := zV_sq V31 (k := (s (42 + i) 5).toNat) (by omega)
                      refine zW.run 1 (pc' := 205) (ls' := [some (.ref 7), some (.ref (42 + i)), some (.ref 8), some (.int (Int32.ofInt (s (42 + i) 5))), some (.int (Int32.ofInt (1 - (s (42 + i) 0)))), some (.ref 18), some (.int (Int32.ofInt 16)), some (.int (Int32.ofInt (i_28 : Int))), w29]) (st' := [.int (Int32.ofInt 5), .int (Int32.ofInt (s30 11 ((s (42 + i) 5).toNat)))]) (σ' := (zN L X (zhi s30) R G nc ns)) (fun n => rfl) ?_
                      refine zW.jcmp_ne rfl (by omega) (fun c40 => ?_) (fun c40 => ?_)
                      · skip
                        exact zW.vret rfl (hQ0 s30 V31)
                      · skip
                        refine zW.run 1 (pc' := 209) (ls' := [some (.ref 7), some (.ref (42 + i)), some (.ref 8), some (.int (Int32.ofInt (s (42 + i) 5))), some (.int (Int32.ofInt (1 - (s (42 + i) 0)))), some (.ref 18), some (.int (Int32.ofInt 16)), some (.int (Int32.ofInt (i_28 : Int))), w29]) (st' := [.ref 8]) (σ' := (zN L X (zhi s30) R G nc ns)) (fun n => rfl) ?_
                        refine zW.getf (v := .ref 11) rfl rfl (zr_8 S (f := 2) (by decide)) ?_
                        refine zW.run 2 (pc' := 214) (ls' := [some (.ref 7), some (.ref (42 + i)), some (.ref 8), some (.int (Int32.ofInt (s (42 + i) 5))), some (.int (Int32.ofInt (1 - (s (42 + i) 0)))), some (.ref 18), some (.int (Int32.ofInt 16)), some (.int (Int32.ofInt (i_28 : Int))), w29]) (st' := [.int (Int32.ofInt 0), .int (Int32.ofInt (s (42 + i) 5)), .ref 11]) (σ' := (zN L X (zhi s30) R G nc ns)) (fun n => rfl) ?_
                        refine zW.jast (n := 144) rfl rfl (by decide) (by omega) ?_
                        refine zW.run 1 (pc' := 216) (ls' := [some (.ref 7), some (.ref (42 + i)), some (.ref 8), some (.int (Int32.ofInt (s (42 + i) 5))), some (.int (Int32.ofInt (1 - (s (42 + i) 0)))), some (.ref 18), some (.int (Int32.ofInt 16)), some (.int (Int32.ofInt (i_28 : Int))), w29]) (st' := [.ref 7]) (σ' := (zN L X (zhi (zup s30 11 ((s (42 + i) 5).toNat) 0)) R G nc ns)) (fun n => rfl) ?_
                        refine zW.getf (v := .ref 21) rfl rfl (zr_7_4 S) ?_
                        refine zW.run 1 (pc' := 220) (ls' := [some (.ref 7), some (.ref (42 + i)), some (.ref 8), some (.int (Int32.ofInt (s (42 + i) 5))), some (.int (Int32.ofInt (1 - (s (42 + i) 0)))), some (.ref 18), some (.int (Int32.ofInt 16)), some (.int (Int32.ofInt (i_28 : Int))), w29]) (st' := [.ref 21, .ref 21]) (σ' := (zN L X (zhi (zup s30 11 ((s (42 + i) 5).toNat) 0)) R G nc ns)) (fun n => rfl) ?_
                        have f41 := zV_sid V31 (o := 21) (by omega)
                        refine zW.jget (v := (s30 21 2)) rfl rfl (fun _ _ _ => rfl) (zup_nj (by omega)) ?_
                        refine zW.run 1 (pc' := 224) (ls' := [some (.ref 7), some (.ref (42 + i)), some (.ref 8), some (.int (Int32.ofInt (s (42 + i) 5))), some (.int (Int32.ofInt (1 - (s (42 + i) 0)))), some (.ref 18), some (.int (Int32.ofInt 16)), some (.int (Int32.ofInt (i_28 : Int))), w29]) (st' := [.ref 7, .int (Int32.ofInt (s30 21 2)), .ref 21]) (σ' := (zN L X (zhi (zup s30 11 ((s (42 + i) 5).toNat) 0)) R G nc ns)) (fun n => rfl) ?_
                        refine zW.getf (v := .ref 21) rfl rfl (zr_7_4 S) ?_
                        refine zW.jget (v := (s30 21 2)) rfl rfl (fun _ _ _ => rfl) (zup_nj (by omega)) ?_
                        refine zW.run 1 (pc' := 231) (ls' := [some (.ref 7), some (.ref (42 + i)), some (.ref 8), some (.int (Int32.ofInt (s (42 + i) 5))), some (.int (Int32.ofInt (1 - (s (42 + i) 0)))), some (.ref 18), some (.int (Int32.ofInt 16)), some (.int (Int32.ofInt (i_28 : Int))), w29]) (st' := [.int (Int32.ofInt 2), .int (Int32.ofInt (s30 21 2)), .int (Int32.ofInt (s30 21 2)), .ref 21]) (σ' := (zN L X (zhi (zup s30 11 ((s (42 + i) 5).toNat) 0)) R G nc ns)) (fun n => rfl) ?_
                        refine zW.jdiv rfl (by omega) ?_
                        refine zW.jsub rfl ?_
                        refine zW.jput rfl rfl rfl ?_
                        have V42 : zV g U F T B ph (zup (zup s30 11 ((s (42 + i) 5).toNat) 0) 21 2 ((s30 21 2) - ((s30 21 2) / 2))) := (V_fill V31 (by omega) (by omega) (by omega))
                        generalize hs43 : (zup (zup s30 11 ((s (42 + i) 5).toNat) 0) 21 2 ((s30 21 2) - ((s30 21 2) / 2))) = s43 at V42 ⊢
                        exact zW.vret rfl (hQ0 s43 V42)
                  · skip
                    refine zW.run 2 (pc' := 156) (ls' := [some (.ref 7), some (.ref (42 + i)), some (.ref 8), some (.int (Int32.ofInt (s (42 + i) 5))), some (.int (Int32.ofInt (1 - (s (42 + i) 0)))), some (.ref 18), some (.int (Int32.ofInt 16)), some (.int (Int32.ofInt (i_28 : Int))), w29]) (st' := [.int (Int32.ofInt (i_28 : Int)), .ref 18]) (σ' := (zN L X (zhi s30) R G nc ns)) (fun n => rfl) ?_
                    refine zW.jaald (n := 16) (v := .ref (26 + i_28)) rfl rfl (by decide) (by decide) (by omega) (zr_gun S (by omega)) ?_
                    refine zW.run 3 (pc' := 163) (ls' := [some (.ref 7), some (.ref (42 + i)), some (.ref 8), some (.int (Int32.ofInt (s (42 + i) 5))), some (.int (Int32.ofInt (1 - (s (42 + i) 0)))), some (.ref 18), some (.int (Int32.ofInt 16)), some (.int (Int32.ofInt (i_28 : Int))), some (.ref (26 + i_28))]) (st' := [.int (Int32.ofInt (1 - (s (42 + i) 0))), .ref (26 + i_28)]) (σ' := (zN L X (zhi s30) R G nc ns)) (fun n => rfl) ?_
                    refine zW.callV rfl (by decide) rfl rfl rfl rfl (zk_gun (by omega)) (Nat.le_of_ble_eq_true rfl) ?_
                    refine t_Gun_isReadyOf S V31 (i := i_28) (x := (1 - (s (42 + i) 0))) (by omega) (by omega) (fun f44 f45 => ?_) (fun f46 => ?_)
                    · skip
                      show zW ro 39 166 [some (.ref 7), some (.ref (42 + i)), some (.ref 8), some (.int (Int32.ofInt (s (42 + i) 5))), some (.int (Int32.ofInt (1 - (s (42 + i) 0)))), some (.ref 18), some (.int (Int32.ofInt 16)), some (.int (Int32.ofInt (i_28 : Int))), some (.ref (26 + i_28))] [.int (Int32.ofInt 1)] (zN L X (zhi s30) R G nc ns) Q
                      refine zW.run 2 (pc' := 171) (ls' := [some (.ref 7), some (.ref (42 + i)), some (.ref 8), some (.int (Int32.ofInt (s (42 + i) 5))), some (.int (Int32.ofInt (1 - (s (42 + i) 0)))), some (.ref 18), some (.int (Int32.ofInt 16)), some (.int (Int32.ofInt (i_28 : Int))), some (.ref (26 + i_28))]) (st' := [.ref (26 + i_28)]) (σ' := (zN L X (zhi s30) R G nc ns)) (fun n => rfl) ?_
                      have f47 := zV_gun V31 (i := i_28) (by omega)
                      refine zW.jget (v := (s30 (26 + i_28) 1)) rfl (zk_gun (by omega)) (fun _ _ _ => rfl) rfl ?_
                      refine zW.run 1 (pc' := 175) (ls' := [some (.ref 7), some (.ref (42 + i)), some (.ref 8), some (.int (Int32.ofInt (s (42 + i) 5))), some (.int (Int32.ofInt (1 - (s (42 + i) 0)))), some (.ref 18), some (.int (Int32.ofInt 16)), some (.int (Int32.ofInt (i_28 : Int))), some (.ref (26 + i_28))]) (st' := [.int (Int32.ofInt (s (42 + i) 5)), .int (Int32.ofInt (s30 (26 + i_28) 1))]) (σ' := (zN L X (zhi s30) R G nc ns)) (fun n => rfl) ?_
                      refine zW.jcmp_ne rfl (by omega) (fun c48 => ?_) (fun c48 => ?_)
                      · skip
                        refine zW.jinc (ls' := [some (.ref 7), some (.ref (42 + i)), some (.ref 8), some (.int (Int32.ofInt (s (42 + i) 5))), some (.int (Int32.ofInt (1 - (s (42 + i) 0)))), some (.ref 18), some (.int (Int32.ofInt 16)), some (.int (Int32.ofInt ((i_28 : Int) + 1))), some (.ref (26 + i_28))]) rfl (Nat.le_of_ble_eq_true rfl) rfl rfl ?_
                        refine zW.run 1 (pc' := 145) (ls' := [some (.ref 7), some (.ref (42 + i)), some (.ref 8), some (.int (Int32.ofInt (s (42 + i) 5))), some (.int (Int32.ofInt (1 - (s (42 + i) 0)))), some (.ref 18), some (.int (Int32.ofInt 16)), some (.int (Int32.ofInt ((i_28 : Int) + 1))), some (.ref (26 + i_28))]) (st' := []) (σ' := (zN L X (zhi s30) R G nc ns)) (fun n => rfl) ?_
                        exact ih34 (i_28 + 1) (some (.ref (26 + i_28))) s30 (zV_mono V31 (by omega) (by omega)) (by omega) (by omega)
                      · skip
                        refine zW.run 2 (pc' := 181) (ls' := [some (.ref 7), some (.ref (42 + i)), some (.ref 8), some (.int (Int32.ofInt (s (42 + i) 5))), some (.int (Int32.ofInt (1 - (s (42 + i) 0)))), some (.ref 18), some (.int (Int32.ofInt 16)), some (.int (Int32.ofInt (i_28 : Int))), some (.ref (26 + i_28))]) (st' := [.int (Int32.ofInt 2), .ref (26 + i_28)]) (σ' := (zN L X (zhi s30) R G nc ns)) (fun n => rfl) ?_
                        refine zW.jput rfl (zk_gun (by omega)) rfl ?_
                        refine zW.jinc (ls' := [some (.ref 7), some (.ref (42 + i)), some (.ref 8), some (.int (Int32.ofInt (s (42 + i) 5))), some (.int (Int32.ofInt (1 - (s (42 + i) 0)))), some (.ref 18), some (.int (Int32.ofInt 16)), some (.int (Int32.ofInt ((i_28 : Int) + 1))), some (.ref (26 + i_28))]) rfl (Nat.le_of_ble_eq_true rfl) rfl rfl ?_
                        refine zW.run 1 (pc' := 145) (ls' := [some (.ref 7), some (.ref (42 + i)), some (.ref 8), some (.int (Int32.ofInt (s (42 + i) 5))), some (.int (Int32.ofInt (1 - (s (42 + i) 0)))), some (.ref 18), some (.int (Int32.ofInt 16)), some (.int (Int32.ofInt ((i_28 : Int) + 1))), some (.ref (26 + i_28))]) (st' := []) (σ' := (zN L X (zhi (zup s30 (26 + i_28) 5 2)) R G nc ns)) (fun n => rfl) ?_
                        have V49 : zV g U F T B ph (zup s30 (26 + i_28) 5 2) := (V_gst V31 (by omega) (by omega))
                        generalize hs50 : (zup s30 (26 + i_28) 5 2) = s50 at V49 ⊢
                        exact ih34 (i_28 + 1) (some (.ref (26 + i_28))) s50 (zV_mono V49 (by omega) (by omega)) (by omega) (by omega)
                    · skip
                      show zW ro 39 166 [some (.ref 7), some (.ref (42 + i)), some (.ref 8), some (.int (Int32.ofInt (s (42 + i) 5))), some (.int (Int32.ofInt (1 - (s (42 + i) 0)))), some (.ref 18), some (.int (Int32.ofInt 16)), some (.int (Int32.ofInt (i_28 : Int))), some (.ref (26 + i_28))] [.int (Int32.ofInt 0)] (zN L X (zhi s30) R G nc ns) Q
                      refine zW.run 1 (pc' := 184) (ls' := [some (.ref 7), some (.ref (42 + i)), some (.ref 8), some (.int (Int32.ofInt (s (42 + i) 5))), some (.int (Int32.ofInt (1 - (s (42 + i) 0)))), some (.ref 18), some (.int (Int32.ofInt 16)), some (.int (Int32.ofInt (i_28 : Int))), some (.ref (26 + i_28))]) (st' := []) (σ' := (zN L X (zhi s30) R G nc ns)) (fun n => rfl) ?_
                      refine zW.jinc (ls' := [some (.ref 7), some (.ref (42 + i)), some (.ref 8), some (.int (Int32.ofInt (s (42 + i) 5))), some (.int (Int32.ofInt (1 - (s (42 + i) 0)))), some (.ref 18), some (.int (Int32.ofInt 16)), some (.int (Int32.ofInt ((i_28 : Int) + 1))), some (.ref (26 + i_28))]) rfl (Nat.le_of_ble_eq_true rfl) rfl rfl ?_
                      refine zW.run 1 (pc' := 145) (ls' := [some (.ref 7), some (.ref (42 + i)), some (.ref 8), some (.int (Int32.ofInt (s (42 + i) 5))), some (.int (Int32.ofInt (1 - (s (42 + i) 0)))), some (.ref 18), some (.int (Int32.ofInt 16)), some (.int (Int32.ofInt ((i_28 : Int) + 1))), some (.ref (26 + i_28))]) (st' := []) (σ' := (zN L X (zhi s30) R G nc ns)) (fun n => rfl) ?_
                      exact ih34 (i_28 + 1) (some (.ref (26 + i_28))) s30 (zV_mono V31 (by omega) (by omega)) (by omega) (by omega)
              exact J33 _ 0 none s26 (zV_mono V27 (by omega) (by omega)) (by omega) (Nat.lt_succ_self _)
            · skip
              refine zW.run 3 (pc' := 98) (ls' := [some (.ref 7), some (.ref (42 + i)), some (.ref 8), some (.int (Int32.ofInt (s (42 + i) 5))), some (.int (Int32.ofInt (1 - (s (42 + i) 0)))), some (.int (Int32.ofInt v8)), none, none, none]) (st' := [.int (Int32.ofInt (1 - (s (42 + i) 0))), .ref (42 + i), .ref 7]) (σ' := (zN L X (zhi s14) R G nc ns)) (fun n => rfl) ?_
              refine zW.callS rfl rfl rfl rfl rfl (Nat.le_of_ble_eq_true rfl) ?_
              refine t_Duties_payForDefeat S V15 (i := i) (x := (1 - (s (42 + i) 0))) (by omega) (by omega) (fun s51 V52 => ?_)
              show zW ro 39 101 [some (.ref 7), some (.ref (42 + i)), some (.ref 8), some (.int (Int32.ofInt (s (42 + i) 5))), some (.int (Int32.ofInt (1 - (s (42 + i) 0)))), some (.int (Int32.ofInt v8)), none, none, none] [] (zN L X (zhi s51) R G nc ns) Q
              exact zW.vret rfl (hQ0 s51 V52)
          refine zW.jif_eq rfl (by omega) (fun c53 => ?_) (fun c53 => ?_)
          · skip
            refine zW.run 1 (pc' := 86) (ls' := [some (.ref 7), some (.ref (42 + i)), some (.ref 8), some (.int (Int32.ofInt (s (42 + i) 5))), some (.int (Int32.ofInt (1 - (s (42 + i) 0)))), some (.int (Int32.ofInt v8)), none, none, none]) (st' := [.int (Int32.ofInt (1 - (s (42 + i) 0))), .ref 7]) (σ' := (zN L X (zhi s) R G nc ns)) (fun n => rfl) ?_
            exact J12 (1 - (s (42 + i) 0)) (by omega)
          · skip
            refine zW.run 1 (pc' := 78) (ls' := [some (.ref 7), some (.ref (42 + i)), some (.ref 8), some (.int (Int32.ofInt (s (42 + i) 5))), some (.int (Int32.ofInt (1 - (s (42 + i) 0)))), some (.int (Int32.ofInt v8)), none, none, none]) (st' := [.ref (42 + i), .ref 7]) (σ' := (zN L X (zhi s) R G nc ns)) (fun n => rfl) ?_
            refine zW.jget (v := (s (42 + i) 0)) rfl (zk_com (by omega)) (fun _ _ _ => rfl) rfl ?_
            refine zW.run 1 (pc' := 86) (ls' := [some (.ref 7), some (.ref (42 + i)), some (.ref 8), some (.int (Int32.ofInt (s (42 + i) 5))), some (.int (Int32.ofInt (1 - (s (42 + i) 0)))), some (.int (Int32.ofInt v8)), none, none, none]) (st' := [.int (Int32.ofInt (s (42 + i) 0)), .ref 7]) (σ' := (zN L X (zhi s) R G nc ns)) (fun n => rfl) ?_
            exact J12 (s (42 + i) 0) (by omega)
        refine zW.icmp_le rfl (fun _ => ?_) (fun _ => ?_)
        · skip
          refine zW.run 1 (pc' := 69) (ls' := [some (.ref 7), some (.ref (42 + i)), some (.ref 8), some (.int (Int32.ofInt (s (42 + i) 5))), some (.int (Int32.ofInt (1 - (s (42 + i) 0)))), none, none, none, none]) (st' := [.int (Int32.ofInt 0)]) (σ' := (zN L X (zhi s) R G nc ns)) (fun n => rfl) ?_
          exact J9 0 (by omega)
        · skip
          refine zW.run 2 (pc' := 69) (ls' := [some (.ref 7), some (.ref (42 + i)), some (.ref 8), some (.int (Int32.ofInt (s (42 + i) 5))), some (.int (Int32.ofInt (1 - (s (42 + i) 0)))), none, none, none, none]) (st' := [.int (Int32.ofInt 1)]) (σ' := (zN L X (zhi s) R G nc ns)) (fun n => rfl) ?_
          exact J9 1 (by omega)
      · skip
        show zW ro 39 46 [some (.ref 7), some (.ref (42 + i)), some (.ref 8), some (.int (Int32.ofInt (s (42 + i) 5))), some (.int (Int32.ofInt (1 - (s (42 + i) 0)))), none, none, none, none] [.int (Int32.ofInt 0)] (zN L X (zhi s) R G nc ns) Q
        refine zW.run 3 (pc' := 124) (ls' := [some (.ref 7), some (.ref (42 + i)), some (.ref 8), some (.int (Int32.ofInt (s (42 + i) 5))), some (.int (Int32.ofInt (1 - (s (42 + i) 0)))), none, none, none, none]) (st' := [.int (Int32.ofInt (s (42 + i) 5)), .ref (42 + i)]) (σ' := (zN L X (zhi s) R G nc ns)) (fun n => rfl) ?_
        refine zW.jput rfl (zk_com (by omega)) rfl ?_
        refine zW.run 1 (pc' := 128) (ls' := [some (.ref 7), some (.ref (42 + i)), some (.ref 8), some (.int (Int32.ofInt (s (42 + i) 5))), some (.int (Int32.ofInt (1 - (s (42 + i) 0)))), none, none, none, none]) (st' := [.ref (42 + i)]) (σ' := (zN L X (zhi (zup s (42 + i) 1 (s (42 + i) 5))) R G nc ns)) (fun n => rfl) ?_
        have V55 : zV g U F T B ph (zup s (42 + i) 1 (s (42 + i) 5)) := (V_csq V (by omega) (by omega))
        generalize hs56 : (zup s (42 + i) 1 (s (42 + i) 5)) = s56 at V55 ⊢
        refine zW.callV rfl (by decide) rfl rfl rfl rfl (zk_com (by omega)) (Nat.le_of_ble_eq_true rfl) ?_
        refine t_Company_restNow S V55 (i := i) (by omega) (fun s57 V58 => ?_)
        show zW ro 39 131 [some (.ref 7), some (.ref (42 + i)), some (.ref 8), some (.int (Int32.ofInt (s (42 + i) 5))), some (.int (Int32.ofInt (1 - (s (42 + i) 0)))), none, none, none, none] [] (zN L X (zhi s57) R G nc ns) Q
        refine zW.run 1 (pc' := 132) (ls' := [some (.ref 7), some (.ref (42 + i)), some (.ref 8), some (.int (Int32.ofInt (s (42 + i) 5))), some (.int (Int32.ofInt (1 - (s (42 + i) 0)))), none, none, none, none]) (st' := [.ref 7]) (σ' := (zN L X (zhi s57) R G nc ns)) (fun n => rfl) ?_
        refine zW.getf (v := .ref 18) rfl rfl (zr_7_1 S) ?_
        refine zW.run 2 (pc' := 139) (ls' := [some (.ref 7), some (.ref (42 + i)), some (.ref 8), some (.int (Int32.ofInt (s (42 + i) 5))), some (.int (Int32.ofInt (1 - (s (42 + i) 0)))), some (.ref 18), none, none, none]) (st' := [.ref 18]) (σ' := (zN L X (zhi s57) R G nc ns)) (fun n => rfl) ?_
        refine zW.alen rfl rfl (by decide) ?_
        show zW ro 39 140 [some (.ref 7), some (.ref (42 + i)), some (.ref 8), some (.int (Int32.ofInt (s (42 + i) 5))), some (.int (Int32.ofInt (1 - (s (42 + i) 0)))), some (.ref 18), none, none, none] [.int (Int32.ofInt 16)] (zN L X (zhi s57) R G nc ns) Q
        refine zW.run 3 (pc' := 145) (ls' := [some (.ref 7), some (.ref (42 + i)), some (.ref 8), some (.int (Int32.ofInt (s (42 + i) 5))), some (.int (Int32.ofInt (1 - (s (42 + i) 0)))), some (.ref 18), some (.int (Int32.ofInt 16)), some (.int (Int32.ofInt 0)), none]) (st' := []) (σ' := (zN L X (zhi s57) R G nc ns)) (fun n => rfl) ?_
        have J64 : ∀ m : Nat, ∀ (i_59 : Nat) (w60 : Option Value) (s61 : zJ), zV g U F T B ph s61 → i_59 ≤ 16 → 17 - i_59 < m → zW ro 39 145 [some (.ref 7), some (.ref (42 + i)), some (.ref 8), some (.int (Int32.ofInt (s (42 + i) 5))), some (.int (Int32.ofInt (1 - (s (42 + i) 0)))), some (.ref 18), some (.int (Int32.ofInt 16)), some (.int (Int32.ofInt (i_59 : Int))), w60] [] (zN L X (zhi s61) R G nc ns) Q := by
          intro m
          induction m with
          | zero => intros; omega
          | succ m ih65 =>
            intro i_59 w60 s61 V62 c63 hm66
            refine zW.run 2 (pc' := 149) (ls' := [some (.ref 7), some (.ref (42 + i)), some (.ref 8), some (.int (Int32.ofInt (s (42 + i) 5))), some (.int (Int32.ofInt (1 - (s (42 + i) 0)))), some (.ref 18), some (.int (Int32.ofInt 16)), some (.int (Int32.ofInt (i_59 : Int))), w60]) (st' := [.int (Int32.ofInt 16), .int (Int32.ofInt (i_59 : Int))]) (σ' := (zN L X (zhi s61) R G nc ns)) (fun n => rfl) ?_
            refine zW.jcmp_ge rfl (by omega) (fun c67 => ?_) (fun c67 => ?_)
            · skip
              refine zW.run 1 (pc' := 191) (ls' := [some (.ref 7), some (.ref (42 + i)), some (.ref 8), some (.int (Int32.ofInt (s (42 + i) 5))), some (.int (Int32.ofInt (1 - (s (42 + i) 0)))), some (.ref 18), some (.int (Int32.ofInt 16)), some (.int (Int32.ofInt (i_59 : Int))), w60]) (st' := [.ref (42 + i)]) (σ' := (zN L X (zhi s61) R G nc ns)) (fun n => rfl) ?_
              have f68 := zV_com V62 (i := i) (by omega)
              refine zW.jget (v := (s61 (42 + i) 0)) rfl (zk_com (by omega)) (fun _ _ _ => rfl) rfl ?_
              refine zW.run 1 (pc' := 195) (ls' := [some (.ref 7), some (.ref (42 + i)), some (.ref 8), some (.int (Int32.ofInt (s (42 + i) 5))), some (.int (Int32.ofInt (1 - (s (42 + i) 0)))), some (.ref 18), some (.int (Int32.ofInt 16)), some (.int (Int32.ofInt (i_59 : Int))), w60]) (st' := [.int (Int32.ofInt 1), .int (Int32.ofInt (s61 (42 + i) 0))]) (σ' := (zN L X (zhi s61) R G nc ns)) (fun n => rfl) ?_
              refine zW.jcmp_ne rfl (by omega) (fun c69 => ?_) (fun c69 => ?_)
              · skip
                exact zW.vret rfl (hQ0 s61 V62)
              · skip
                refine zW.run 1 (pc' := 199) (ls' := [some (.ref 7), some (.ref (42 + i)), some (.ref 8), some (.int (Int32.ofInt (s (42 + i) 5))), some (.int (Int32.ofInt (1 - (s (42 + i) 0)))), some (.ref 18), some (.int (Int32.ofInt 16)), some (.int (Int32.ofInt (i_59 : Int))), w60]) (st' := [.ref 8]) (σ' := (zN L X (zhi s61) R G nc ns)) (fun n => rfl) ?_
                refine zW.getf (v := .ref 11) rfl rfl (zr_8 S (f := 2) (by decide)) ?_
                refine zW.run 1 (pc' := 203) (ls' := [some (.ref 7), some (.ref (42 + i)), some (.ref 8), some (.int (Int32.ofInt (s (42 + i) 5))), some (.int (Int32.ofInt (1 - (s (42 + i) 0)))), some (.ref 18), some (.int (Int32.ofInt 16)), some (.int (Int32.ofInt (i_59 : Int))), w60]) (st' := [.int (Int32.ofInt (s (42 + i) 5)), .ref 11]) (σ' := (zN L X (zhi s61) R G nc ns)) (fun n => rfl) ?_
                refine zW.jald (n := 144) (v := (s61 11 ((s (42 + i) 5).toNat))) rfl rfl (by decide) (by omega) rfl ?_
                have f70 := zV_sq V62 (k := (s (42 + i) 5).toNat) (by omega)
                refine zW.run 1 (pc' := 205) (ls' := [some (.ref 7), some (.ref (42 + i)), some (.ref 8), some (.int (Int32.ofInt (s (42 + i) 5))), some (.int (Int32.ofInt (1 - (s (42 + i) 0)))), some (.ref 18), some (.int (Int32.ofInt 16)), some (.int (Int32.ofInt (i_59 : Int))), w60]) (st' := [.int (Int32.ofInt 5), .int (Int32.ofInt (s61 11 ((s (42 + i) 5).toNat)))]) (σ' := (zN L X (zhi s61) R G nc ns)) (fun n => rfl) ?_
                refine zW.jcmp_ne rfl (by omega) (fun c71 => ?_) (fun c71 => ?_)
                · skip
                  exact zW.vret rfl (hQ0 s61 V62)
                · skip
                  refine zW.run 1 (pc' := 209) (ls' := [some (.ref 7), some (.ref (42 + i)), some (.ref 8), some (.int (Int32.ofInt (s (42 + i) 5))), some (.int (Int32.ofInt (1 - (s (42 + i) 0)))), some (.ref 18), some (.int (Int32.ofInt 16)), some (.int (Int32.ofInt (i_59 : Int))), w60]) (st' := [.ref 8]) (σ' := (zN L X (zhi s61) R G nc ns)) (fun n => rfl) ?_
                  refine zW.getf (v := .ref 11) rfl rfl (zr_8 S (f := 2) (by decide)) ?_
                  refine zW.run 2 (pc' := 214) (ls' := [some (.ref 7), some (.ref (42 + i)), some (.ref 8), some (.int (Int32.ofInt (s (42 + i) 5))), some (.int (Int32.ofInt (1 - (s (42 + i) 0)))), some (.ref 18), some (.int (Int32.ofInt 16)), some (.int (Int32.ofInt (i_59 : Int))), w60]) (st' := [.int (Int32.ofInt 0), .int (Int32.ofInt (s (42 + i) 5)), .ref 11]) (σ' := (zN L X (zhi s61) R G nc ns)) (fun n => rfl) ?_
                  refine zW.jast (n := 144) rfl rfl (by decide) (by omega) ?_
                  refine zW.run 1 (pc' := 216) (ls' := [some (.ref 7), some (.ref (42 + i)), some (.ref 8), some (.int (Int32.ofInt (s (42 + i) 5))), some (.int (Int32.ofInt (1 - (s (42 + i) 0)))), some (.ref 18), some (.int (Int32.ofInt 16)), some (.int (Int32.ofInt (i_59 : Int))), w60]) (st' := [.ref 7]) (σ' := (zN L X (zhi (zup s61 11 ((s (42 + i) 5).toNat) 0)) R G nc ns)) (fun n => rfl) ?_
                  refine zW.getf (v := .ref 21) rfl rfl (zr_7_4 S) ?_
                  refine zW.run 1 (pc' := 220) (ls' := [some (.ref 7), some (.ref (42 + i)), some (.ref 8), some (.int (Int32.ofInt (s (42 + i) 5))), some (.int (Int32.ofInt (1 - (s (42 + i) 0)))), some (.ref 18), some (.int (Int32.ofInt 16)), some (.int (Int32.ofInt (i_59 : Int))), w60]) (st' := [.ref 21, .ref 21]) (σ' := (zN L X (zhi (zup s61 11 ((s (42 + i) 5).toNat) 0)) R G nc ns)) (fun n => rfl) ?_
                  have f72 := zV_sid V62 (o := 21) (by omega)
                  refine zW.jget (v := (s61 21 2)) rfl rfl (fun _ _ _ => rfl) (zup_nj (by omega)) ?_
                  refine zW.run 1 (pc' := 224) (ls' := [some (.ref 7), some (.ref (42 + i)), some (.ref 8), some (.int (Int32.ofInt (s (42 + i) 5))), some (.int (Int32.ofInt (1 - (s (42 + i) 0)))), some (.ref 18), some (.int (Int32.ofInt 16)), some (.int (Int32.ofInt (i_59 : Int))), w60]) (st' := [.ref 7, .int (Int32.ofInt (s61 21 2)), .ref 21]) (σ' := (zN L X (zhi (zup s61 11 ((s (42 + i) 5).toNat) 0)) R G nc ns)) (fun n => rfl) ?_
                  refine zW.getf (v := .ref 21) rfl rfl (zr_7_4 S) ?_
                  refine zW.jget (v := (s61 21 2)) rfl rfl (fun _ _ _ => rfl) (zup_nj (by omega)) ?_
                  refine zW.run 1 (pc' := 231) (ls' := [some (.ref 7), some (.ref (42 + i)), some (.ref 8), some (.int (Int32.ofInt (s (42 + i) 5))), some (.int (Int32.ofInt (1 - (s (42 + i) 0)))), some (.ref 18), some (.int (Int32.ofInt 16)), some (.int (Int32.ofInt (i_59 : Int))), w60]) (st' := [.int (Int32.ofInt 2), .int (Int32.ofInt (s61 21 2)), .int (Int32.ofInt (s61 21 2)), .ref 21]) (σ' := (zN L X (zhi (zup s61 11 ((s (42 + i) 5).toNat) 0)) R G nc ns)) (fun n => rfl) ?_
                  refine zW.jdiv rfl (by omega) ?_
                  refine zW.jsub rfl ?_
                  refine zW.jput rfl rfl rfl ?_
                  have V73 : zV g U F T B ph (zup (zup s61 11 ((s (42 + i) 5).toNat) 0) 21 2 ((s61 21 2) - ((s61 21 2) / 2))) := (V_fill V62 (by omega) (by omega) (by omega))
                  generalize hs74 : (zup (zup s61 11 ((s (42 + i) 5).toNat) 0) 21 2 ((s61 21 2) - ((s61 21 2) / 2))) = s74 at V73 ⊢
                  exact zW.vret rfl (hQ0 s74 V73)
            · skip
              refine zW.run 2 (pc' := 156) (ls' := [some (.ref 7), some (.ref (42 + i)), some (.ref 8), some (.int (Int32.ofInt (s (42 + i) 5))), some (.int (Int32.ofInt (1 - (s (42 + i) 0)))), some (.ref 18), some (.int (Int32.ofInt 16)), some (.int (Int32.ofInt (i_59 : Int))), w60]) (st' := [.int (Int32.ofInt (i_59 : Int)), .ref 18]) (σ' := (zN L X (zhi s61) R G nc ns)) (fun n => rfl) ?_
              refine zW.jaald (n := 16) (v := .ref (26 + i_59)) rfl rfl (by decide) (by decide) (by omega) (zr_gun S (by omega)) ?_
              refine zW.run 3 (pc' := 163) (ls' := [some (.ref 7), some (.ref (42 + i)), some (.ref 8), some (.int (Int32.ofInt (s (42 + i) 5))), some (.int (Int32.ofInt (1 - (s (42 + i) 0)))), some (.ref 18), some (.int (Int32.ofInt 16)), some (.int (Int32.ofInt (i_59 : Int))), some (.ref (26 + i_59))]) (st' := [.int (Int32.ofInt (1 - (s (42 + i) 0))), .ref (26 + i_59)]) (σ' := (zN L X (zhi s61) R G nc ns)) (fun n => rfl) ?_
              refine zW.callV rfl (by decide) rfl rfl rfl rfl (zk_gun (by omega)) (Nat.le_of_ble_eq_true rfl) ?_
              refine t_Gun_isReadyOf S V62 (i := i_59) (x := (1 - (s (42 + i) 0))) (by omega) (by omega) (fun f75 f76 => ?_) (fun f77 => ?_)
              · skip
                show zW ro 39 166 [some (.ref 7), some (.ref (42 + i)), some (.ref 8), some (.int (Int32.ofInt (s (42 + i) 5))), some (.int (Int32.ofInt (1 - (s (42 + i) 0)))), some (.ref 18), some (.int (Int32.ofInt 16)), some (.int (Int32.ofInt (i_59 : Int))), some (.ref (26 + i_59))] [.int (Int32.ofInt 1)] (zN L X (zhi s61) R G nc ns) Q
                refine zW.run 2 (pc' := 171) (ls' := [some (.ref 7), some (.ref (42 + i)), some (.ref 8), some (.int (Int32.ofInt (s (42 + i) 5))), some (.int (Int32.ofInt (1 - (s (42 + i) 0)))), some (.ref 18), some (.int (Int32.ofInt 16)), some (.int (Int32.ofInt (i_59 : Int))), some (.ref (26 + i_59))]) (st' := [.ref (26 + i_59)]) (σ' := (zN L X (zhi s61) R G nc ns)) (fun n => rfl) ?_
                have f78 := zV_gun V62 (i := i_59) (by omega)
                refine zW.jget (v := (s61 (26 + i_59) 1)) rfl (zk_gun (by omega)) (fun _ _ _ => rfl) rfl ?_
                refine zW.run 1 (pc' := 175) (ls' := [some (.ref 7), some (.ref (42 + i)), some (.ref 8), some (.int (Int32.ofInt (s (42 + i) 5))), some (.int (Int32.ofInt (1 - (s (42 + i) 0)))), some (.ref 18), some (.int (Int32.ofInt 16)), some (.int (Int32.ofInt (i_59 : Int))), some (.ref (26 + i_59))]) (st' := [.int (Int32.ofInt (s (42 + i) 5)), .int (Int32.ofInt (s61 (26 + i_59) 1))]) (σ' := (zN L X (zhi s61) R G nc ns)) (fun n => rfl) ?_
                refine zW.jcmp_ne rfl (by omega) (fun c79 => ?_) (fun c79 => ?_)
                · skip
                  refine zW.jinc (ls' := [some (.ref 7), some (.ref (42 + i)), some (.ref 8), some (.int (Int32.ofInt (s (42 + i) 5))), some (.int (Int32.ofInt (1 - (s (42 + i) 0)))), some (.ref 18), some (.int (Int32.ofInt 16)), some (.int (Int32.ofInt ((i_59 : Int) + 1))), some (.ref (26 + i_59))]) rfl (Nat.le_of_ble_eq_true rfl) rfl rfl ?_
                  refine zW.run 1 (pc' := 145) (ls' := [some (.ref 7), some (.ref (42 + i)), some (.ref 8), some (.int (Int32.ofInt (s (42 + i) 5))), some (.int (Int32.ofInt (1 - (s (42 + i) 0)))), some (.ref 18), some (.int (Int32.ofInt 16)), some (.int (Int32.ofInt ((i_59 : Int) + 1))), some (.ref (26 + i_59))]) (st' := []) (σ' := (zN L X (zhi s61) R G nc ns)) (fun n => rfl) ?_
                  exact ih65 (i_59 + 1) (some (.ref (26 + i_59))) s61 (zV_mono V62 (by omega) (by omega)) (by omega) (by omega)
                · skip
                  refine zW.run 2 (pc' := 181) (ls' := [some (.ref 7), some (.ref (42 + i)), some (.ref 8), some (.int (Int32.ofInt (s (42 + i) 5))), some (.int (Int32.ofInt (1 - (s (42 + i) 0)))), some (.ref 18), some (.int (Int32.ofInt 16)), some (.int (Int32.ofInt (i_59 : Int))), some (.ref (26 + i_59))]) (st' := [.int (Int32.ofInt 2), .ref (26 + i_59)]) (σ' := (zN L X (zhi s61) R G nc ns)) (fun n => rfl) ?_
                  refine zW.jput rfl (zk_gun (by omega)) rfl ?_
                  refine zW.jinc (ls' := [some (.ref 7), some (.ref (42 + i)), some (.ref 8), some (.int (Int32.ofInt (s (42 + i) 5))), some (.int (Int32.ofInt (1 - (s (42 + i) 0)))), some (.ref 18), some (.int (Int32.ofInt 16)), some (.int (Int32.ofInt ((i_59 : Int) + 1))), some (.ref (26 + i_59))]) rfl (Nat.le_of_ble_eq_true rfl) rfl rfl ?_
                  refine zW.run 1 (pc' := 145) (ls' := [some (.ref 7), some (.ref (42 + i)), some (.ref 8), some (.int (Int32.ofInt (s (42 + i) 5))), some (.int (Int32.ofInt (1 - (s (42 + i) 0)))), some (.ref 18), some (.int (Int32.ofInt 16)), some (.int (Int32.ofInt ((i_59 : Int) + 1))), some (.ref (26 + i_59))]) (st' := []) (σ' := (zN L X (zhi (zup s61 (26 + i_59) 5 2)) R G nc ns)) (fun n => rfl) ?_
                  have V80 : zV g U F T B ph (zup s61 (26 + i_59) 5 2) := (V_gst V62 (by omega) (by omega))
                  generalize hs81 : (zup s61 (26 + i_59) 5 2) = s81 at V80 ⊢
                  exact ih65 (i_59 + 1) (some (.ref (26 + i_59))) s81 (zV_mono V80 (by omega) (by omega)) (by omega) (by omega)
              · skip
                show zW ro 39 166 [some (.ref 7), some (.ref (42 + i)), some (.ref 8), some (.int (Int32.ofInt (s (42 + i) 5))), some (.int (Int32.ofInt (1 - (s (42 + i) 0)))), some (.ref 18), some (.int (Int32.ofInt 16)), some (.int (Int32.ofInt (i_59 : Int))), some (.ref (26 + i_59))] [.int (Int32.ofInt 0)] (zN L X (zhi s61) R G nc ns) Q
                refine zW.run 1 (pc' := 184) (ls' := [some (.ref 7), some (.ref (42 + i)), some (.ref 8), some (.int (Int32.ofInt (s (42 + i) 5))), some (.int (Int32.ofInt (1 - (s (42 + i) 0)))), some (.ref 18), some (.int (Int32.ofInt 16)), some (.int (Int32.ofInt (i_59 : Int))), some (.ref (26 + i_59))]) (st' := []) (σ' := (zN L X (zhi s61) R G nc ns)) (fun n => rfl) ?_
                refine zW.jinc (ls' := [some (.ref 7), some (.ref (42 + i)), some (.ref 8), some (.int (Int32.ofInt (s (42 + i) 5))), some (.int (Int32.ofInt (1 - (s (42 + i) 0)))), some (.ref 18), some (.int (Int32.ofInt 16)), some (.int (Int32.ofInt ((i_59 : Int) + 1))), some (.ref (26 + i_59))]) rfl (Nat.le_of_ble_eq_true rfl) rfl rfl ?_
                refine zW.run 1 (pc' := 145) (ls' := [some (.ref 7), some (.ref (42 + i)), some (.ref 8), some (.int (Int32.ofInt (s (42 + i) 5))), some (.int (Int32.ofInt (1 - (s (42 + i) 0)))), some (.ref 18), some (.int (Int32.ofInt 16)), some (.int (Int32.ofInt ((i_59 : Int) + 1))), some (.ref (26 + i_59))]) (st' := []) (σ' := (zN L X (zhi s61) R G nc ns)) (fun n => rfl) ?_
                exact ih65 (i_59 + 1) (some (.ref (26 + i_59))) s61 (zV_mono V62 (by omega) (by omega)) (by omega) (by omega)
        exact J64 _ 0 none s57 (zV_mono V58 (by omega) (by omega)) (by omega) (Nat.lt_succ_self _)
    · skip
      show zW ro 39 35 [some (.ref 7), some (.ref (42 + i)), some (.ref 8), some (.int (Int32.ofInt (s (42 + i) 5))), some (.int (Int32.ofInt (1 - (s (42 + i) 0)))), none, none, none, none] [.int (Int32.ofInt 0)] (zN L X (zhi s) R G nc ns) Q
      refine zW.run 1 (pc' := 38) (ls' := [some (.ref 7), some (.ref (42 + i)), some (.ref 8), some (.int (Int32.ofInt (s (42 + i) 5))), some (.int (Int32.ofInt (1 - (s (42 + i) 0)))), none, none, none, none]) (st' := []) (σ' := (zN L X (zhi s) R G nc ns)) (fun n => rfl) ?_
      exact zW.vret rfl (hQ0 s V)
  · skip
    show zW ro 39 23 [some (.ref 7), some (.ref (42 + i)), some (.ref 8), some (.int (Int32.ofInt (s (42 + i) 5))), some (.int (Int32.ofInt (1 - (s (42 + i) 0)))), none, none, none, none] [.int (Int32.ofInt 0)] (zN L X (zhi s) R G nc ns) Q
    refine zW.run 1 (pc' := 38) (ls' := [some (.ref 7), some (.ref (42 + i)), some (.ref 8), some (.int (Int32.ofInt (s (42 + i) 5))), some (.int (Int32.ofInt (1 - (s (42 + i) 0)))), none, none, none, none]) (st' := []) (σ' := (zN L X (zhi s) R G nc ns)) (fun n => rfl) ?_
    exact zW.vret rfl (hQ0 s V)
set_option maxHeartbeats 4000000 in
theorem t_Duties_act (S : zSR R) (V : zV g U F T B ph s) {i : Nat} (p0 : i < 12) (p1 : B + 20 ≤ 1000000000) (hQ0 : ∀ (s1 : zJ), zV g U F T (B + 20) ph s1 → Q (.inl none) (zN L X (zhi s1) R G nc ns)) : zW ro 38 0 (zfst [.ref 7, .ref (42 + i)] 2) [] (zN L X (zhi s) R G nc ns) Q := by
  show zW ro 38 0 [some (.ref 7), some (.ref (42 + i))] [] (zN L X (zhi s) R G nc ns) Q
  have f1 := zA_geo (zV_zA V)
  have hB0 := zV_B V
  refine zW.run 1 (pc' := 1) (ls' := [some (.ref 7), some (.ref (42 + i))]) (st' := [.ref (42 + i)]) (σ' := (zN L X (zhi s) R G nc ns)) (fun n => rfl) ?_
  have f2 := zV_com V (i := i) (by omega)
  refine zW.jget (v := (s (42 + i) 3)) rfl (zk_com (by omega)) (fun _ _ _ => rfl) rfl ?_
  refine zW.run 1 (pc' := 6) (ls' := [some (.ref 7), some (.ref (42 + i))]) (st' := [.int (Int32.ofInt 10), .int (Int32.ofInt (s (42 + i) 3))]) (σ' := (zN L X (zhi s) R G nc ns)) (fun n => rfl) ?_
  refine zW.jcmp_ge rfl (by omega) (fun c3 => ?_) (fun c3 => ?_)
  · skip
    refine zW.run 2 (pc' := 18) (ls' := [some (.ref 7), some (.ref (42 + i))]) (st' := [.ref (42 + i), .ref (42 + i)]) (σ' := (zN L X (zhi s) R G nc ns)) (fun n => rfl) ?_
    refine zW.jget (v := (s (42 + i) 3)) rfl (zk_com (by omega)) (fun _ _ _ => rfl) rfl ?_
    refine zW.run 1 (pc' := 22) (ls' := [some (.ref 7), some (.ref (42 + i))]) (st' := [.int (Int32.ofInt 2), .int (Int32.ofInt (s (42 + i) 3)), .ref (42 + i)]) (σ' := (zN L X (zhi s) R G nc ns)) (fun n => rfl) ?_
    have J5 : ∀ (v4 : Int), ((s (42 + i) 3) ≤ 2 ∧ v4 = 0) ∨ ((s (42 + i) 3) > 2 ∧ v4 = ((s (42 + i) 3) - 2)) → zW ro 38 35 [some (.ref 7), some (.ref (42 + i))] [.int (Int32.ofInt v4), .ref (42 + i)] (zN L X (zhi s) R G nc ns) Q := by
      intro v4 c6
      refine zW.jput rfl (zk_com (by omega)) rfl ?_
      have V7 : zV g U F T B ph (zup s (42 + i) 3 v4) := (V_tired V (by omega) (by omega))
      generalize hs8 : (zup s (42 + i) 3 v4) = s8 at V7 ⊢
      exact zW.vret rfl (hQ0 s8 (zV_mono V7 (by omega) (by omega)))
    refine zW.jcmp_le rfl (by omega) (fun c9 => ?_) (fun c9 => ?_)
    · skip
      refine zW.run 1 (pc' := 35) (ls' := [some (.ref 7), some (.ref (42 + i))]) (st' := [.int (Int32.ofInt 0), .ref (42 + i)]) (σ' := (zN L X (zhi s) R G nc ns)) (fun n => rfl) ?_
      exact J5 0 (by omega)
    · skip
      refine zW.run 1 (pc' := 26) (ls' := [some (.ref 7), some (.ref (42 + i))]) (st' := [.ref (42 + i), .ref (42 + i)]) (σ' := (zN L X (zhi s) R G nc ns)) (fun n => rfl) ?_
      refine zW.jget (v := (s (42 + i) 3)) rfl (zk_com (by omega)) (fun _ _ _ => rfl) rfl ?_
      refine zW.run 1 (pc' := 30) (ls' := [some (.ref 7), some (.ref (42 + i))]) (st' := [.int (Int32.ofInt 2), .int (Int32.ofInt (s (42 + i) 3)), .ref (42 + i)]) (σ' := (zN L X (zhi s) R G nc ns)) (fun n => rfl) ?_
      refine zW.jsub rfl ?_
      refine zW.run 1 (pc' := 35) (ls' := [some (.ref 7), some (.ref (42 + i))]) (st' := [.int (Int32.ofInt ((s (42 + i) 3) - 2)), .ref (42 + i)]) (σ' := (zN L X (zhi s) R G nc ns)) (fun n => rfl) ?_
      exact J5 ((s (42 + i) 3) - 2) (by omega)
  · skip
    refine zW.run 1 (pc' := 10) (ls' := [some (.ref 7), some (.ref (42 + i))]) (st' := [.ref (42 + i)]) (σ' := (zN L X (zhi s) R G nc ns)) (fun n => rfl) ?_
    refine zW.jget (v := (s (42 + i) 4)) rfl (zk_com (by omega)) (fun _ _ _ => rfl) rfl ?_
    refine zW.jif_ne rfl (by omega) (fun c10 => ?_) (fun c10 => ?_)
    · skip
      refine zW.run 1 (pc' := 40) (ls' := [some (.ref 7), some (.ref (42 + i))]) (st' := [.ref (42 + i)]) (σ' := (zN L X (zhi s) R G nc ns)) (fun n => rfl) ?_
      refine zW.jget (v := (s (42 + i) 4)) rfl (zk_com (by omega)) (fun _ _ _ => rfl) rfl ?_
      refine zW.run 1 (pc' := 44) (ls' := [some (.ref 7), some (.ref (42 + i))]) (st' := [.int (Int32.ofInt 2), .int (Int32.ofInt (s (42 + i) 4))]) (σ' := (zN L X (zhi s) R G nc ns)) (fun n => rfl) ?_
      refine zW.jcmp_ne rfl (by omega) (fun c11 => ?_) (fun c11 => ?_)
      · skip
        refine zW.run 2 (pc' := 72) (ls' := [some (.ref 7), some (.ref (42 + i))]) (st' := [.ref (42 + i), .ref (42 + i)]) (σ' := (zN L X (zhi s) R G nc ns)) (fun n => rfl) ?_
        refine zW.jget (v := (s (42 + i) 3)) rfl (zk_com (by omega)) (fun _ _ _ => rfl) rfl ?_
        refine zW.run 1 (pc' := 77) (ls' := [some (.ref 7), some (.ref (42 + i))]) (st' := [.int (Int32.ofInt 12), .int (Int32.ofInt (s (42 + i) 3)), .ref (42 + i)]) (σ' := (zN L X (zhi s) R G nc ns)) (fun n => rfl) ?_
        have J13 : ∀ (v12 : Int), ((s (42 + i) 3) ≥ 12 ∧ v12 = 12) ∨ ((s (42 + i) 3) < 12 ∧ v12 = ((s (42 + i) 3) + 1)) → zW ro 38 91 [some (.ref 7), some (.ref (42 + i))] [.int (Int32.ofInt v12), .ref (42 + i)] (zN L X (zhi s) R G nc ns) Q := by
          intro v12 c14
          refine zW.jput rfl (zk_com (by omega)) rfl ?_
          refine zW.run 1 (pc' := 95) (ls' := [some (.ref 7), some (.ref (42 + i))]) (st' := [.ref (42 + i)]) (σ' := (zN L X (zhi (zup s (42 + i) 3 v12)) R G nc ns)) (fun n => rfl) ?_
          refine zW.jget (v := (s (42 + i) 4)) rfl (zk_com (by omega)) (fun _ _ _ => rfl) (zup_nj (by omega)) ?_
          refine zW.jtab rfl (by omega) (fun d15 => ?_) (fun j9 t9 d15 f9 => ?_) (by decide)
          · skip
            have V16 : zV g U F T B ph (zup s (42 + i) 3 v12) := (V_tired V (by omega) (by omega))
            generalize hs17 : (zup s (42 + i) 3 v12) = s17 at V16 ⊢
            exact zW.vret rfl (hQ0 s17 (zV_mono V16 (by omega) (by omega)))
          match j9, d15, f9 with
          | 0, d15, f9 =>
            cases f9
            refine zW.run 2 (pc' := 138) (ls' := [some (.ref 7), some (.ref (42 + i))]) (st' := [.ref (42 + i), .ref 7]) (σ' := (zN L X (zhi (zup s (42 + i) 3 v12)) R G nc ns)) (fun n => rfl) ?_
            have V18 : zV g U F T B ph (zup s (42 + i) 3 v12) := (V_tired V (by omega) (by omega))
            generalize hs19 : (zup s (42 + i) 3 v12) = s19 at V18 ⊢
            refine zW.callS rfl rfl rfl rfl rfl (Nat.le_of_ble_eq_true rfl) ?_
            refine t_Duties_dig S V18 (i := i) (by omega) (by omega) (fun s20 V21 => ?_)
            show zW ro 38 141 [some (.ref 7), some (.ref (42 + i))] [] (zN L X (zhi s20) R G nc ns) Q
            refine zW.run 1 (pc' := 176) (ls' := [some (.ref 7), some (.ref (42 + i))]) (st' := []) (σ' := (zN L X (zhi s20) R G nc ns)) (fun n => rfl) ?_
            exact zW.vret rfl (hQ0 s20 V21)
          | 1, d15, f9 =>
            cases f9
            have V22 : zV g U F T B ph (zup s (42 + i) 3 v12) := (V_tired V (by omega) (by omega))
            generalize hs23 : (zup s (42 + i) 3 v12) = s23 at V22 ⊢
            exact zW.vret rfl (hQ0 s23 (zV_mono V22 (by omega) (by omega)))
          | 2, d15, f9 =>
            cases f9
            refine zW.run 2 (pc' := 146) (ls' := [some (.ref 7), some (.ref (42 + i))]) (st' := [.ref (42 + i), .ref 7]) (σ' := (zN L X (zhi (zup s (42 + i) 3 v12)) R G nc ns)) (fun n => rfl) ?_
            have V24 : zV g U F T B ph (zup s (42 + i) 3 v12) := (V_tired V (by omega) (by omega))
            generalize hs25 : (zup s (42 + i) 3 v12) = s25 at V24 ⊢
            refine zW.callS rfl rfl rfl rfl rfl (Nat.le_of_ble_eq_true rfl) ?_
            refine t_Duties_makeGabions S V24 (i := i) (by omega) (by omega) (fun s26 V27 => ?_)
            show zW ro 38 149 [some (.ref 7), some (.ref (42 + i))] [] (zN L X (zhi s26) R G nc ns) Q
            refine zW.run 1 (pc' := 176) (ls' := [some (.ref 7), some (.ref (42 + i))]) (st' := []) (σ' := (zN L X (zhi s26) R G nc ns)) (fun n => rfl) ?_
            exact zW.vret rfl (hQ0 s26 V27)
          | 3, d15, f9 =>
            cases f9
            refine zW.run 2 (pc' := 154) (ls' := [some (.ref 7), some (.ref (42 + i))]) (st' := [.ref (42 + i), .ref 7]) (σ' := (zN L X (zhi (zup s (42 + i) 3 v12)) R G nc ns)) (fun n => rfl) ?_
            have V28 : zV g U F T B ph (zup s (42 + i) 3 v12) := (V_tired V (by omega) (by omega))
            generalize hs29 : (zup s (42 + i) 3 v12) = s29 at V28 ⊢
            refine zW.callS rfl rfl rfl rfl rfl (Nat.le_of_ble_eq_true rfl) ?_
            refine t_Duties_goOn S V28 (i := i) (by omega) (fun s30 V31 => ?_)
            show zW ro 38 157 [some (.ref 7), some (.ref (42 + i))] [] (zN L X (zhi s30) R G nc ns) Q
            refine zW.run 1 (pc' := 176) (ls' := [some (.ref 7), some (.ref (42 + i))]) (st' := []) (σ' := (zN L X (zhi s30) R G nc ns)) (fun n => rfl) ?_
            exact zW.vret rfl (hQ0 s30 (zV_mono V31 (by omega) (by omega)))
          | 4, d15, f9 =>
            cases f9
            refine zW.run 2 (pc' := 162) (ls' := [some (.ref 7), some (.ref (42 + i))]) (st' := [.ref (42 + i), .ref 7]) (σ' := (zN L X (zhi (zup s (42 + i) 3 v12)) R G nc ns)) (fun n => rfl) ?_
            have V32 : zV g U F T B ph (zup s (42 + i) 3 v12) := (V_tired V (by omega) (by omega))
            generalize hs33 : (zup s (42 + i) 3 v12) = s33 at V32 ⊢
            refine zW.callS rfl rfl rfl rfl rfl (Nat.le_of_ble_eq_true rfl) ?_
            refine t_Duties_assault S V32 (i := i) (by omega) (fun s34 V35 => ?_)
            show zW ro 38 165 [some (.ref 7), some (.ref (42 + i))] [] (zN L X (zhi s34) R G nc ns) Q
            refine zW.run 1 (pc' := 176) (ls' := [some (.ref 7), some (.ref (42 + i))]) (st' := []) (σ' := (zN L X (zhi s34) R G nc ns)) (fun n => rfl) ?_
            exact zW.vret rfl (hQ0 s34 (zV_mono V35 (by omega) (by omega)))
          | 5, d15, f9 =>
            cases f9
            refine zW.run 2 (pc' := 170) (ls' := [some (.ref 7), some (.ref (42 + i))]) (st' := [.ref (42 + i), .ref 7]) (σ' := (zN L X (zhi (zup s (42 + i) 3 v12)) R G nc ns)) (fun n => rfl) ?_
            have V36 : zV g U F T B ph (zup s (42 + i) 3 v12) := (V_tired V (by omega) (by omega))
            generalize hs37 : (zup s (42 + i) 3 v12) = s37 at V36 ⊢
            refine zW.callS rfl rfl rfl rfl rfl (Nat.le_of_ble_eq_true rfl) ?_
            refine t_Duties_mend S V36 (i := i) (by omega) (by omega) (fun s38 V39 => ?_)
            show zW ro 38 173 [some (.ref 7), some (.ref (42 + i))] [] (zN L X (zhi s38) R G nc ns) Q
            refine zW.run 1 (pc' := 176) (ls' := [some (.ref 7), some (.ref (42 + i))]) (st' := []) (σ' := (zN L X (zhi s38) R G nc ns)) (fun n => rfl) ?_
            exact zW.vret rfl (hQ0 s38 V39)
          | n9 + 6, e9, f9 => cases f9
        refine zW.jcmp_ge rfl (by omega) (fun c40 => ?_) (fun c40 => ?_)
        · skip
          refine zW.run 1 (pc' := 91) (ls' := [some (.ref 7), some (.ref (42 + i))]) (st' := [.int (Int32.ofInt 12), .ref (42 + i)]) (σ' := (zN L X (zhi s) R G nc ns)) (fun n => rfl) ?_
          exact J13 12 (by omega)
        · skip
          refine zW.run 1 (pc' := 81) (ls' := [some (.ref 7), some (.ref (42 + i))]) (st' := [.ref (42 + i), .ref (42 + i)]) (σ' := (zN L X (zhi s) R G nc ns)) (fun n => rfl) ?_
          refine zW.jget (v := (s (42 + i) 3)) rfl (zk_com (by omega)) (fun _ _ _ => rfl) rfl ?_
          refine zW.run 1 (pc' := 85) (ls' := [some (.ref 7), some (.ref (42 + i))]) (st' := [.int (Int32.ofInt 1), .int (Int32.ofInt (s (42 + i) 3)), .ref (42 + i)]) (σ' := (zN L X (zhi s) R G nc ns)) (fun n => rfl) ?_
          refine zW.jadd rfl ?_
          refine zW.run 1 (pc' := 91) (ls' := [some (.ref 7), some (.ref (42 + i))]) (st' := [.int (Int32.ofInt ((s (42 + i) 3) + 1)), .ref (42 + i)]) (σ' := (zN L X (zhi s) R G nc ns)) (fun n => rfl) ?_
          exact J13 ((s (42 + i) 3) + 1) (by omega)
      · skip
        refine zW.run 2 (pc' := 49) (ls' := [some (.ref 7), some (.ref (42 + i))]) (st' := [.ref (42 + i), .ref (42 + i)]) (σ' := (zN L X (zhi s) R G nc ns)) (fun n => rfl) ?_
        refine zW.jget (v := (s (42 + i) 3)) rfl (zk_com (by omega)) (fun _ _ _ => rfl) rfl ?_
        refine zW.run 1 (pc' := 53) (ls' := [some (.ref 7), some (.ref (42 + i))]) (st' := [.int (Int32.ofInt 1), .int (Int32.ofInt (s (42 + i) 3)), .ref (42 + i)]) (σ' := (zN L X (zhi s) R G nc ns)) (fun n => rfl) ?_
        have J42 : ∀ (v41 : Int), ((s (42 + i) 3) ≤ 1 ∧ v41 = 0) ∨ ((s (42 + i) 3) > 1 ∧ v41 = ((s (42 + i) 3) - 1)) → zW ro 38 66 [some (.ref 7), some (.ref (42 + i))] [.int (Int32.ofInt v41), .ref (42 + i)] (zN L X (zhi s) R G nc ns) Q := by
          intro v41 c43
          refine zW.jput rfl (zk_com (by omega)) rfl ?_
          have V44 : zV g U F T B ph (zup s (42 + i) 3 v41) := (V_tired V (by omega) (by omega))
          generalize hs45 : (zup s (42 + i) 3 v41) = s45 at V44 ⊢
          exact zW.vret rfl (hQ0 s45 (zV_mono V44 (by omega) (by omega)))
        refine zW.jcmp_le rfl (by omega) (fun c46 => ?_) (fun c46 => ?_)
        · skip
          refine zW.run 1 (pc' := 66) (ls' := [some (.ref 7), some (.ref (42 + i))]) (st' := [.int (Int32.ofInt 0), .ref (42 + i)]) (σ' := (zN L X (zhi s) R G nc ns)) (fun n => rfl) ?_
          exact J42 0 (by omega)
        · skip
          refine zW.run 1 (pc' := 57) (ls' := [some (.ref 7), some (.ref (42 + i))]) (st' := [.ref (42 + i), .ref (42 + i)]) (σ' := (zN L X (zhi s) R G nc ns)) (fun n => rfl) ?_
          refine zW.jget (v := (s (42 + i) 3)) rfl (zk_com (by omega)) (fun _ _ _ => rfl) rfl ?_
          refine zW.run 1 (pc' := 61) (ls' := [some (.ref 7), some (.ref (42 + i))]) (st' := [.int (Int32.ofInt 1), .int (Int32.ofInt (s (42 + i) 3)), .ref (42 + i)]) (σ' := (zN L X (zhi s) R G nc ns)) (fun n => rfl) ?_
          refine zW.jsub rfl ?_
          refine zW.run 1 (pc' := 66) (ls' := [some (.ref 7), some (.ref (42 + i))]) (st' := [.int (Int32.ofInt ((s (42 + i) 3) - 1)), .ref (42 + i)]) (σ' := (zN L X (zhi s) R G nc ns)) (fun n => rfl) ?_
          exact J42 ((s (42 + i) 3) - 1) (by omega)
    · skip
      refine zW.run 2 (pc' := 18) (ls' := [some (.ref 7), some (.ref (42 + i))]) (st' := [.ref (42 + i), .ref (42 + i)]) (σ' := (zN L X (zhi s) R G nc ns)) (fun n => rfl) ?_
      refine zW.jget (v := (s (42 + i) 3)) rfl (zk_com (by omega)) (fun _ _ _ => rfl) rfl ?_
      refine zW.run 1 (pc' := 22) (ls' := [some (.ref 7), some (.ref (42 + i))]) (st' := [.int (Int32.ofInt 2), .int (Int32.ofInt (s (42 + i) 3)), .ref (42 + i)]) (σ' := (zN L X (zhi s) R G nc ns)) (fun n => rfl) ?_
      have J48 : ∀ (v47 : Int), ((s (42 + i) 3) ≤ 2 ∧ v47 = 0) ∨ ((s (42 + i) 3) > 2 ∧ v47 = ((s (42 + i) 3) - 2)) → zW ro 38 35 [some (.ref 7), some (.ref (42 + i))] [.int (Int32.ofInt v47), .ref (42 + i)] (zN L X (zhi s) R G nc ns) Q := by
        intro v47 c49
        refine zW.jput rfl (zk_com (by omega)) rfl ?_
        have V50 : zV g U F T B ph (zup s (42 + i) 3 v47) := (V_tired V (by omega) (by omega))
        generalize hs51 : (zup s (42 + i) 3 v47) = s51 at V50 ⊢
        exact zW.vret rfl (hQ0 s51 (zV_mono V50 (by omega) (by omega)))
      refine zW.jcmp_le rfl (by omega) (fun c52 => ?_) (fun c52 => ?_)
      · skip
        refine zW.run 1 (pc' := 35) (ls' := [some (.ref 7), some (.ref (42 + i))]) (st' := [.int (Int32.ofInt 0), .ref (42 + i)]) (σ' := (zN L X (zhi s) R G nc ns)) (fun n => rfl) ?_
        exact J48 0 (by omega)
      · skip
        refine zW.run 1 (pc' := 26) (ls' := [some (.ref 7), some (.ref (42 + i))]) (st' := [.ref (42 + i), .ref (42 + i)]) (σ' := (zN L X (zhi s) R G nc ns)) (fun n => rfl) ?_
        refine zW.jget (v := (s (42 + i) 3)) rfl (zk_com (by omega)) (fun _ _ _ => rfl) rfl ?_
        refine zW.run 1 (pc' := 30) (ls' := [some (.ref 7), some (.ref (42 + i))]) (st' := [.int (Int32.ofInt 2), .int (Int32.ofInt (s (42 + i) 3)), .ref (42 + i)]) (σ' := (zN L X (zhi s) R G nc ns)) (fun n => rfl) ?_
        refine zW.jsub rfl ?_
        refine zW.run 1 (pc' := 35) (ls' := [some (.ref 7), some (.ref (42 + i))]) (st' := [.int (Int32.ofInt ((s (42 + i) 3) - 2)), .ref (42 + i)]) (σ' := (zN L X (zhi s) R G nc ns)) (fun n => rfl) ?_
        exact J48 ((s (42 + i) 3) - 2) (by omega)
set_option maxHeartbeats 4000000 in
theorem t_Mine_goOn (S : zSR R) (V : zV g U F T B ph s) {i : Nat} {x : Int} (p0 : i < 6) (p1 : -1 ≤ x ∧ x < g 2) (hQ0 : ∀ (s1 : zJ), zV g U F T B ph s1 → Q (.inl none) (zN L X (zhi s1) R G nc ns)) : zW ro 102 0 (zfst [.ref (54 + 2 * i), .int (Int32.ofInt x)] 2) [] (zN L X (zhi s) R G nc ns) Q := by
  show zW ro 102 0 [some (.ref (54 + 2 * i)), some (.int (Int32.ofInt x))] [] (zN L X (zhi s) R G nc ns) Q
  have f1 := zA_geo (zV_zA V)
  have hB0 := zV_B V
  refine zW.run 1 (pc' := 1) (ls' := [some (.ref (54 + 2 * i)), some (.int (Int32.ofInt x))]) (st' := [.ref (54 + 2 * i)]) (σ' := (zN L X (zhi s) R G nc ns)) (fun n => rfl) ?_
  have f2 := zV_min V (i := i) (by omega)
  refine zW.jget (v := (s (54 + 2 * i) 2)) rfl (zk_min (by omega)) (fun _ _ _ => rfl) rfl ?_
  refine zW.jif_lt rfl (by omega) (fun c3 => ?_) (fun c3 => ?_)
  · skip
    exact zW.vret rfl (hQ0 s V)
  · skip
    refine zW.run 1 (pc' := 8) (ls' := [some (.ref (54 + 2 * i)), some (.int (Int32.ofInt x))]) (st' := [.ref (54 + 2 * i)]) (σ' := (zN L X (zhi s) R G nc ns)) (fun n => rfl) ?_
    refine zW.jget (v := (s (54 + 2 * i) 2)) rfl (zk_min (by omega)) (fun _ _ _ => rfl) rfl ?_
    refine zW.run 1 (pc' := 13) (ls' := [some (.ref (54 + 2 * i)), some (.int (Int32.ofInt x))]) (st' := [.int (Int32.ofInt 6), .int (Int32.ofInt (s (54 + 2 * i) 2))]) (σ' := (zN L X (zhi s) R G nc ns)) (fun n => rfl) ?_
    refine zW.jcmp_ge rfl (by omega) (fun c4 => ?_) (fun c4 => ?_)
    · skip
      exact zW.vret rfl (hQ0 s V)
    · skip
      refine zW.run 1 (pc' := 17) (ls' := [some (.ref (54 + 2 * i)), some (.int (Int32.ofInt x))]) (st' := [.ref (54 + 2 * i)]) (σ' := (zN L X (zhi s) R G nc ns)) (fun n => rfl) ?_
      refine zW.getf (v := .ref (55 + 2 * i)) rfl (zk_min (by omega)) (zr_mrow S (by omega)) ?_
      refine zW.run 1 (pc' := 21) (ls' := [some (.ref (54 + 2 * i)), some (.int (Int32.ofInt x))]) (st' := [.ref (54 + 2 * i), .ref (55 + 2 * i)]) (σ' := (zN L X (zhi s) R G nc ns)) (fun n => rfl) ?_
      refine zW.jget (v := (s (54 + 2 * i) 2)) rfl (zk_min (by omega)) (fun _ _ _ => rfl) rfl ?_
      refine zW.run 1 (pc' := 25) (ls' := [some (.ref (54 + 2 * i)), some (.int (Int32.ofInt x))]) (st' := [.int (Int32.ofInt x), .int (Int32.ofInt (s (54 + 2 * i) 2)), .ref (55 + 2 * i)]) (σ' := (zN L X (zhi s) R G nc ns)) (fun n => rfl) ?_
      refine zW.jast (n := 6) rfl (zk_mrow (by omega)) (by decide) (by omega) ?_
      refine zW.run 2 (pc' := 28) (ls' := [some (.ref (54 + 2 * i)), some (.int (Int32.ofInt x))]) (st' := [.ref (54 + 2 * i), .ref (54 + 2 * i)]) (σ' := (zN L X (zhi (zup s (55 + 2 * i) ((s (54 + 2 * i) 2).toNat) x)) R G nc ns)) (fun n => rfl) ?_
      refine zW.jget (v := (s (54 + 2 * i) 2)) rfl (zk_min (by omega)) (fun _ _ _ => rfl) (zup_nj (by omega)) ?_
      refine zW.run 1 (pc' := 32) (ls' := [some (.ref (54 + 2 * i)), some (.int (Int32.ofInt x))]) (st' := [.int (Int32.ofInt 1), .int (Int32.ofInt (s (54 + 2 * i) 2)), .ref (54 + 2 * i)]) (σ' := (zN L X (zhi (zup s (55 + 2 * i) ((s (54 + 2 * i) 2).toNat) x)) R G nc ns)) (fun n => rfl) ?_
      refine zW.jadd rfl ?_
      refine zW.jput rfl (zk_min (by omega)) rfl ?_
      refine zW.run 2 (pc' := 38) (ls' := [some (.ref (54 + 2 * i)), some (.int (Int32.ofInt x))]) (st' := [.int (Int32.ofInt 0), .ref (54 + 2 * i)]) (σ' := (zN L X (zhi (zup (zup s (55 + 2 * i) ((s (54 + 2 * i) 2).toNat) x) (54 + 2 * i) 2 ((s (54 + 2 * i) 2) + 1))) R G nc ns)) (fun n => rfl) ?_
      refine zW.jput rfl (zk_min (by omega)) rfl ?_
      have V5 : zV g U F T B ph (zup (zup (zup s (55 + 2 * i) ((s (54 + 2 * i) 2).toNat) x) (54 + 2 * i) 2 ((s (54 + 2 * i) 2) + 1)) (54 + 2 * i) 5 0) := (V_mgo V (by omega) (by omega) (by omega) (by omega))
      generalize hs6 : (zup (zup (zup s (55 + 2 * i) ((s (54 + 2 * i) 2).toNat) x) (54 + 2 * i) 2 ((s (54 + 2 * i) 2) + 1)) (54 + 2 * i) 5 0) = s6 at V5 ⊢
      exact zW.vret rfl (hQ0 s6 V5)
set_option maxHeartbeats 4000000 in
theorem t_Mining_advance (S : zSR R) (V : zV g U F T B ph s) {i : Nat} (p0 : i < 6) (hQ0 : ∀ (s1 : zJ), zV g U F T B ph s1 → Q (.inl none) (zN L X (zhi s1) R G nc ns)) : zW ro 108 0 (zfst [.ref 7, .ref (54 + 2 * i)] 4) [] (zN L X (zhi s) R G nc ns) Q := by
  show zW ro 108 0 [some (.ref 7), some (.ref (54 + 2 * i)), none, none] [] (zN L X (zhi s) R G nc ns) Q
  have f1 := zA_geo (zV_zA V)
  have hB0 := zV_B V
  refine zW.run 1 (pc' := 1) (ls' := [some (.ref 7), some (.ref (54 + 2 * i)), none, none]) (st' := [.ref (54 + 2 * i)]) (σ' := (zN L X (zhi s) R G nc ns)) (fun n => rfl) ?_
  refine zW.callV rfl (by decide) rfl rfl rfl rfl (zk_min (by omega)) (Nat.le_of_ble_eq_true rfl) ?_
  refine t_Mine_isBegun S V (i := i) (by omega) (fun f2 => ?_) (fun f3 => ?_)
  · skip
    show zW ro 108 4 [some (.ref 7), some (.ref (54 + 2 * i)), none, none] [.int (Int32.ofInt 1)] (zN L X (zhi s) R G nc ns) Q
    refine zW.run 2 (pc' := 8) (ls' := [some (.ref 7), some (.ref (54 + 2 * i)), none, none]) (st' := [.ref (54 + 2 * i)]) (σ' := (zN L X (zhi s) R G nc ns)) (fun n => rfl) ?_
    have f4 := zV_min V (i := i) (by omega)
    refine zW.jget (v := (s (54 + 2 * i) 6)) rfl (zk_min (by omega)) (fun _ _ _ => rfl) rfl ?_
    refine zW.jif_ne rfl (by omega) (fun c5 => ?_) (fun c5 => ?_)
    · skip
      exact zW.vret rfl (hQ0 s V)
    · skip
      refine zW.run 2 (pc' := 16) (ls' := [some (.ref 7), some (.ref (54 + 2 * i)), none, none]) (st' := [.ref (54 + 2 * i), .ref 7]) (σ' := (zN L X (zhi s) R G nc ns)) (fun n => rfl) ?_
      refine zW.jget (v := (s (54 + 2 * i) 1)) rfl (zk_min (by omega)) (fun _ _ _ => rfl) rfl ?_
      refine zW.run 1 (pc' := 20) (ls' := [some (.ref 7), some (.ref (54 + 2 * i)), none, none]) (st' := [.ref (54 + 2 * i), .int (Int32.ofInt (s (54 + 2 * i) 1)), .ref 7]) (σ' := (zN L X (zhi s) R G nc ns)) (fun n => rfl) ?_
      refine zW.callV rfl (by decide) rfl rfl rfl rfl (zk_min (by omega)) (Nat.le_of_ble_eq_true rfl) ?_
      refine t_Mine_mouth S V (i := i) (by omega) (fun v_6 f7 => ?_)
      show zW ro 108 23 [some (.ref 7), some (.ref (54 + 2 * i)), none, none] [.int (Int32.ofInt v_6), .int (Int32.ofInt (s (54 + 2 * i) 1)), .ref 7] (zN L X (zhi s) R G nc ns) Q
      refine zW.callV rfl (by decide) rfl rfl rfl rfl rfl (Nat.le_of_ble_eq_true rfl) ?_
      refine t_Siege_isHeldBy S V (x := (s (54 + 2 * i) 1)) (y := v_6) (by omega) (by omega) ?_ ?_
      · skip
        show zW ro 108 26 [some (.ref 7), some (.ref (54 + 2 * i)), none, none] [.int (Int32.ofInt 1)] (zN L X (zhi s) R G nc ns) Q
        refine zW.run 2 (pc' := 31) (ls' := [some (.ref 7), some (.ref (54 + 2 * i)), none, none]) (st' := [.ref 7]) (σ' := (zN L X (zhi s) R G nc ns)) (fun n => rfl) ?_
        refine zW.getf (v := .ref 8) rfl rfl (zr_7_0 S) ?_
        refine zW.run 1 (pc' := 35) (ls' := [some (.ref 7), some (.ref (54 + 2 * i)), none, none]) (st' := [.ref (54 + 2 * i), .ref 8]) (σ' := (zN L X (zhi s) R G nc ns)) (fun n => rfl) ?_
        refine zW.callV rfl (by decide) rfl rfl rfl rfl (zk_min (by omega)) (Nat.le_of_ble_eq_true rfl) ?_
        refine t_Mine_head S V (i := i) (by omega) (fun v_8 f9 => ?_)
        show zW ro 108 38 [some (.ref 7), some (.ref (54 + 2 * i)), none, none] [.int (Int32.ofInt v_8), .ref 8] (zN L X (zhi s) R G nc ns) Q
        refine zW.run 1 (pc' := 39) (ls' := [some (.ref 7), some (.ref (54 + 2 * i)), none, none]) (st' := [.ref (54 + 2 * i), .int (Int32.ofInt v_8), .ref 8]) (σ' := (zN L X (zhi s) R G nc ns)) (fun n => rfl) ?_
        refine zW.jget (v := (s (54 + 2 * i) 3)) rfl (zk_min (by omega)) (fun _ _ _ => rfl) rfl ?_
        obtain ⟨u10, ru10, eu10⟩ := zj_n (s (54 + 2 * i) 3)
        rw [eu10]
        refine zW.callV rfl (by decide) rfl rfl rfl rfl rfl (Nat.le_of_ble_eq_true rfl) ?_
        refine t_Ground_next S (zV_zA V) (x := v_8) (d := u10) (by omega) (by omega) (fun v_11 f12 => ?_)
        show zW ro 108 45 [some (.ref 7), some (.ref (54 + 2 * i)), none, none] [.int (Int32.ofInt v_11)] (zN L X (zhi s) R G nc ns) Q
        refine zW.run 2 (pc' := 47) (ls' := [some (.ref 7), some (.ref (54 + 2 * i)), some (.int (Int32.ofInt v_11)), none]) (st' := [.ref 7]) (σ' := (zN L X (zhi s) R G nc ns)) (fun n => rfl) ?_
        refine zW.getf (v := .ref 8) rfl rfl (zr_7_0 S) ?_
        refine zW.run 1 (pc' := 51) (ls' := [some (.ref 7), some (.ref (54 + 2 * i)), some (.int (Int32.ofInt v_11)), none]) (st' := [.int (Int32.ofInt v_11), .ref 8]) (σ' := (zN L X (zhi s) R G nc ns)) (fun n => rfl) ?_
        refine zW.callV rfl (by decide) rfl rfl rfl rfl rfl (Nat.le_of_ble_eq_true rfl) ?_
        refine t_Ground_soilOf S V (x := v_11) (by omega) (fun v_13 f14 f15 => ?_)
        show zW ro 108 54 [some (.ref 7), some (.ref (54 + 2 * i)), some (.int (Int32.ofInt v_11)), none] [.int (Int32.ofInt v_13)] (zN L X (zhi s) R G nc ns) Q
        refine zW.run 3 (pc' := 57) (ls' := [some (.ref 7), some (.ref (54 + 2 * i)), some (.int (Int32.ofInt v_11)), some (.int (Int32.ofInt v_13))]) (st' := [.int (Int32.ofInt (-1)), .int (Int32.ofInt v_11)]) (σ' := (zN L X (zhi s) R G nc ns)) (fun n => rfl) ?_
        refine zW.jcmp_eq rfl (by omega) (fun c16 => ?_) (fun c16 => ?_)
        · skip
          refine zW.run 2 (pc' := 81) (ls' := [some (.ref 7), some (.ref (54 + 2 * i)), some (.int (Int32.ofInt v_11)), some (.int (Int32.ofInt v_13))]) (st' := [.int (Int32.ofInt 1), .ref (54 + 2 * i)]) (σ' := (zN L X (zhi s) R G nc ns)) (fun n => rfl) ?_
          refine zW.jput rfl (zk_min (by omega)) rfl ?_
          have V17 : zV g U F T B ph (zup s (54 + 2 * i) 6 1) := (V_mst V (by omega) (by omega))
          generalize hs18 : (zup s (54 + 2 * i) 6 1) = s18 at V17 ⊢
          exact zW.vret rfl (hQ0 s18 V17)
        · skip
          refine zW.run 2 (pc' := 62) (ls' := [some (.ref 7), some (.ref (54 + 2 * i)), some (.int (Int32.ofInt v_11)), some (.int (Int32.ofInt v_13))]) (st' := [.int (Int32.ofInt 2), .int (Int32.ofInt v_13)]) (σ' := (zN L X (zhi s) R G nc ns)) (fun n => rfl) ?_
          refine zW.jcmp_eq rfl (by omega) (fun c19 => ?_) (fun c19 => ?_)
          · skip
            refine zW.run 2 (pc' := 81) (ls' := [some (.ref 7), some (.ref (54 + 2 * i)), some (.int (Int32.ofInt v_11)), some (.int (Int32.ofInt v_13))]) (st' := [.int (Int32.ofInt 1), .ref (54 + 2 * i)]) (σ' := (zN L X (zhi s) R G nc ns)) (fun n => rfl) ?_
            refine zW.jput rfl (zk_min (by omega)) rfl ?_
            have V20 : zV g U F T B ph (zup s (54 + 2 * i) 6 1) := (V_mst V (by omega) (by omega))
            generalize hs21 : (zup s (54 + 2 * i) 6 1) = s21 at V20 ⊢
            exact zW.vret rfl (hQ0 s21 V20)
          · skip
            refine zW.run 2 (pc' := 67) (ls' := [some (.ref 7), some (.ref (54 + 2 * i)), some (.int (Int32.ofInt v_11)), some (.int (Int32.ofInt v_13))]) (st' := [.int (Int32.ofInt 3), .int (Int32.ofInt v_13)]) (σ' := (zN L X (zhi s) R G nc ns)) (fun n => rfl) ?_
            refine zW.jcmp_eq rfl (by omega) (fun c22 => ?_) (fun c22 => ?_)
            · skip
              refine zW.run 2 (pc' := 81) (ls' := [some (.ref 7), some (.ref (54 + 2 * i)), some (.int (Int32.ofInt v_11)), some (.int (Int32.ofInt v_13))]) (st' := [.int (Int32.ofInt 1), .ref (54 + 2 * i)]) (σ' := (zN L X (zhi s) R G nc ns)) (fun n => rfl) ?_
              refine zW.jput rfl (zk_min (by omega)) rfl ?_
              have V23 : zV g U F T B ph (zup s (54 + 2 * i) 6 1) := (V_mst V (by omega) (by omega))
              generalize hs24 : (zup s (54 + 2 * i) 6 1) = s24 at V23 ⊢
              exact zW.vret rfl (hQ0 s24 V23)
            · skip
              refine zW.run 1 (pc' := 71) (ls' := [some (.ref 7), some (.ref (54 + 2 * i)), some (.int (Int32.ofInt v_11)), some (.int (Int32.ofInt v_13))]) (st' := [.ref (54 + 2 * i)]) (σ' := (zN L X (zhi s) R G nc ns)) (fun n => rfl) ?_
              refine zW.jget (v := (s (54 + 2 * i) 2)) rfl (zk_min (by omega)) (fun _ _ _ => rfl) rfl ?_
              refine zW.run 1 (pc' := 76) (ls' := [some (.ref 7), some (.ref (54 + 2 * i)), some (.int (Int32.ofInt v_11)), some (.int (Int32.ofInt v_13))]) (st' := [.int (Int32.ofInt 6), .int (Int32.ofInt (s (54 + 2 * i) 2))]) (σ' := (zN L X (zhi s) R G nc ns)) (fun n => rfl) ?_
              refine zW.jcmp_lt rfl (by omega) (fun c25 => ?_) (fun c25 => ?_)
              · skip
                refine zW.run 2 (pc' := 87) (ls' := [some (.ref 7), some (.ref (54 + 2 * i)), some (.int (Int32.ofInt v_11)), some (.int (Int32.ofInt v_13))]) (st' := [.ref (54 + 2 * i), .ref (54 + 2 * i)]) (σ' := (zN L X (zhi s) R G nc ns)) (fun n => rfl) ?_
                refine zW.jget (v := (s (54 + 2 * i) 5)) rfl (zk_min (by omega)) (fun _ _ _ => rfl) rfl ?_
                refine zW.run 1 (pc' := 91) (ls' := [some (.ref 7), some (.ref (54 + 2 * i)), some (.int (Int32.ofInt v_11)), some (.int (Int32.ofInt v_13))]) (st' := [.int (Int32.ofInt 1), .int (Int32.ofInt (s (54 + 2 * i) 5)), .ref (54 + 2 * i)]) (σ' := (zN L X (zhi s) R G nc ns)) (fun n => rfl) ?_
                refine zW.jadd rfl ?_
                refine zW.jput rfl (zk_min (by omega)) rfl ?_
                refine zW.run 1 (pc' := 96) (ls' := [some (.ref 7), some (.ref (54 + 2 * i)), some (.int (Int32.ofInt v_11)), some (.int (Int32.ofInt v_13))]) (st' := [.ref (54 + 2 * i)]) (σ' := (zN L X (zhi (zup s (54 + 2 * i) 5 ((s (54 + 2 * i) 5) + 1))) R G nc ns)) (fun n => rfl) ?_
                refine zW.jget (v := ((s (54 + 2 * i) 5) + 1)) rfl (zk_min (by omega)) (fun _ _ _ => rfl) zup_ej ?_
                refine zW.run 2 (pc' := 101) (ls' := [some (.ref 7), some (.ref (54 + 2 * i)), some (.int (Int32.ofInt v_11)), some (.int (Int32.ofInt v_13))]) (st' := [.int (Int32.ofInt 1), .int (Int32.ofInt v_13), .int (Int32.ofInt ((s (54 + 2 * i) 5) + 1))]) (σ' := (zN L X (zhi (zup s (54 + 2 * i) 5 ((s (54 + 2 * i) 5) + 1))) R G nc ns)) (fun n => rfl) ?_
                have J27 : ∀ (v26 : Int), (¬ v_13 = 1 ∧ v26 = 4) ∨ (v_13 = 1 ∧ v26 = 6) → zW ro 108 110 [some (.ref 7), some (.ref (54 + 2 * i)), some (.int (Int32.ofInt v_11)), some (.int (Int32.ofInt v_13))] [.int (Int32.ofInt v26), .int (Int32.ofInt ((s (54 + 2 * i) 5) + 1))] (zN L X (zhi (zup s (54 + 2 * i) 5 ((s (54 + 2 * i) 5) + 1))) R G nc ns) Q := by
                  intro v26 c28
                  refine zW.icmp_lt rfl (fun _ => ?_) (fun _ => ?_)
                  · skip
                    have V30 : zV g U F T B ph (zup s (54 + 2 * i) 5 ((s (54 + 2 * i) 5) + 1)) := (V_irr V (by omega))
                    generalize hs31 : (zup s (54 + 2 * i) 5 ((s (54 + 2 * i) 5) + 1)) = s31 at V30 ⊢
                    exact zW.vret rfl (hQ0 s31 V30)
                  · skip
                    refine zW.run 2 (pc' := 115) (ls' := [some (.ref 7), some (.ref (54 + 2 * i)), some (.int (Int32.ofInt v_11)), some (.int (Int32.ofInt v_13))]) (st' := [.int (Int32.ofInt v_11), .ref (54 + 2 * i)]) (σ' := (zN L X (zhi (zup s (54 + 2 * i) 5 ((s (54 + 2 * i) 5) + 1))) R G nc ns)) (fun n => rfl) ?_
                    have V32 : zV g U F T B ph (zup s (54 + 2 * i) 5 ((s (54 + 2 * i) 5) + 1)) := (V_irr V (by omega))
                    generalize hs33 : (zup s (54 + 2 * i) 5 ((s (54 + 2 * i) 5) + 1)) = s33 at V32 ⊢
                    refine zW.callV rfl (by decide) rfl rfl rfl rfl (zk_min (by omega)) (Nat.le_of_ble_eq_true rfl) ?_
                    refine t_Mine_goOn S V32 (i := i) (x := v_11) (by omega) (by omega) (fun s34 V35 => ?_)
                    show zW ro 108 118 [some (.ref 7), some (.ref (54 + 2 * i)), some (.int (Int32.ofInt v_11)), some (.int (Int32.ofInt v_13))] [] (zN L X (zhi s34) R G nc ns) Q
                    exact zW.vret rfl (hQ0 s34 V35)
                refine zW.jcmp_ne rfl (by omega) (fun c36 => ?_) (fun c36 => ?_)
                · skip
                  refine zW.run 1 (pc' := 110) (ls' := [some (.ref 7), some (.ref (54 + 2 * i)), some (.int (Int32.ofInt v_11)), some (.int (Int32.ofInt v_13))]) (st' := [.int (Int32.ofInt 4), .int (Int32.ofInt ((s (54 + 2 * i) 5) + 1))]) (σ' := (zN L X (zhi (zup s (54 + 2 * i) 5 ((s (54 + 2 * i) 5) + 1))) R G nc ns)) (fun n => rfl) ?_
                  exact J27 4 (by omega)
                · skip
                  refine zW.run 2 (pc' := 110) (ls' := [some (.ref 7), some (.ref (54 + 2 * i)), some (.int (Int32.ofInt v_11)), some (.int (Int32.ofInt v_13))]) (st' := [.int (Int32.ofInt 6), .int (Int32.ofInt ((s (54 + 2 * i) 5) + 1))]) (σ' := (zN L X (zhi (zup s (54 + 2 * i) 5 ((s (54 + 2 * i) 5) + 1))) R G nc ns)) (fun n => rfl) ?_
                  exact J27 6 (by omega)
              · skip
                refine zW.run 2 (pc' := 81) (ls' := [some (.ref 7), some (.ref (54 + 2 * i)), some (.int (Int32.ofInt v_11)), some (.int (Int32.ofInt v_13))]) (st' := [.int (Int32.ofInt 1), .ref (54 + 2 * i)]) (σ' := (zN L X (zhi s) R G nc ns)) (fun n => rfl) ?_
                refine zW.jput rfl (zk_min (by omega)) rfl ?_
                have V37 : zV g U F T B ph (zup s (54 + 2 * i) 6 1) := (V_mst V (by omega) (by omega))
                generalize hs38 : (zup s (54 + 2 * i) 6 1) = s38 at V37 ⊢
                exact zW.vret rfl (hQ0 s38 V37)
      · skip
        show zW ro 108 26 [some (.ref 7), some (.ref (54 + 2 * i)), none, none] [.int (Int32.ofInt 0)] (zN L X (zhi s) R G nc ns) Q
        refine zW.run 1 (pc' := 29) (ls' := [some (.ref 7), some (.ref (54 + 2 * i)), none, none]) (st' := []) (σ' := (zN L X (zhi s) R G nc ns)) (fun n => rfl) ?_
        exact zW.vret rfl (hQ0 s V)
  · skip
    show zW ro 108 4 [some (.ref 7), some (.ref (54 + 2 * i)), none, none] [.int (Int32.ofInt 0)] (zN L X (zhi s) R G nc ns) Q
    refine zW.run 1 (pc' := 29) (ls' := [some (.ref 7), some (.ref (54 + 2 * i)), none, none]) (st' := []) (σ' := (zN L X (zhi s) R G nc ns)) (fun n => rfl) ?_
    exact zW.vret rfl (hQ0 s V)
set_option maxHeartbeats 4000000 in
theorem t_Mining_sink (S : zSR R) (V : zV g U F T B ph s) {x : Int} (p0 : -2147483648 ≤ x ∧ x < 2147483648) (hQ0 : ∀ (s1 : zJ), zV g U F T B ph s1 → Q (.inl none) (zN L X (zhi s1) R G nc ns)) : zW ro 116 0 (zfst [.ref 8, .int (Int32.ofInt x)] 3) [] (zN L X (zhi s) R G nc ns) Q := by
  show zW ro 116 0 [some (.ref 8), some (.int (Int32.ofInt x)), none] [] (zN L X (zhi s) R G nc ns) Q
  have f1 := zA_geo (zV_zA V)
  have hB0 := zV_B V
  refine zW.run 2 (pc' := 2) (ls' := [some (.ref 8), some (.int (Int32.ofInt x)), none]) (st' := [.int (Int32.ofInt x), .ref 8]) (σ' := (zN L X (zhi s) R G nc ns)) (fun n => rfl) ?_
  refine zW.callV rfl (by decide) rfl rfl rfl rfl rfl (Nat.le_of_ble_eq_true rfl) ?_
  refine t_Ground_isOn S (zV_zA V) (x := x) (by omega) (fun f2 f3 => ?_) (fun f4 => ?_)
  · skip
    show zW ro 116 5 [some (.ref 8), some (.int (Int32.ofInt x)), none] [.int (Int32.ofInt 1)] (zN L X (zhi s) R G nc ns) Q
    refine zW.run 3 (pc' := 10) (ls' := [some (.ref 8), some (.int (Int32.ofInt x)), none]) (st' := [.ref 8, .int (Int32.ofInt x)]) (σ' := (zN L X (zhi s) R G nc ns)) (fun n => rfl) ?_
    refine zW.run 1 (pc' := 13) (ls' := [some (.ref 8), some (.int (Int32.ofInt x)), none]) (st' := [.int (Int32.ofInt (s 8 12)), .int (Int32.ofInt x)]) (σ' := (zN L X (zhi s) R G nc ns)) (fun n => rfl) ?_
    refine zW.jcmp_eq rfl (by omega) (fun c5 => ?_) (fun c5 => ?_)
    · skip
      exact zW.vret rfl (hQ0 s V)
    · skip
      refine zW.run 2 (pc' := 18) (ls' := [some (.ref 8), some (.int (Int32.ofInt x)), none]) (st' := [.ref 8, .int (Int32.ofInt x)]) (σ' := (zN L X (zhi s) R G nc ns)) (fun n => rfl) ?_
      refine zW.run 1 (pc' := 21) (ls' := [some (.ref 8), some (.int (Int32.ofInt x)), none]) (st' := [.int (Int32.ofInt (s 8 13)), .int (Int32.ofInt x)]) (σ' := (zN L X (zhi s) R G nc ns)) (fun n => rfl) ?_
      refine zW.jcmp_ne rfl (by omega) (fun c6 => ?_) (fun c6 => ?_)
      · skip
        refine zW.run 1 (pc' := 26) (ls' := [some (.ref 8), some (.int (Int32.ofInt x)), none]) (st' := [.ref 8]) (σ' := (zN L X (zhi s) R G nc ns)) (fun n => rfl) ?_
        refine zW.getf (v := .ref 11) rfl rfl (zr_8 S (f := 2) (by decide)) ?_
        refine zW.run 1 (pc' := 30) (ls' := [some (.ref 8), some (.int (Int32.ofInt x)), none]) (st' := [.int (Int32.ofInt x), .ref 11]) (σ' := (zN L X (zhi s) R G nc ns)) (fun n => rfl) ?_
        refine zW.jald (n := 144) (v := (s 11 x.toNat)) rfl rfl (by decide) (by omega) rfl ?_
        have f7 := zV_sq V (k := x.toNat) (by omega)
        refine zW.run 3 (pc' := 34) (ls' := [some (.ref 8), some (.int (Int32.ofInt x)), some (.int (Int32.ofInt (s 11 x.toNat)))]) (st' := [.int (Int32.ofInt 1), .int (Int32.ofInt (s 11 x.toNat))]) (σ' := (zN L X (zhi s) R G nc ns)) (fun n => rfl) ?_
        refine zW.jcmp_eq rfl (by omega) (fun c8 => ?_) (fun c8 => ?_)
        · skip
          exact zW.vret rfl (hQ0 s V)
        · skip
          refine zW.run 2 (pc' := 40) (ls' := [some (.ref 8), some (.int (Int32.ofInt x)), some (.int (Int32.ofInt (s 11 x.toNat)))]) (st' := [.int (Int32.ofInt 6), .int (Int32.ofInt (s 11 x.toNat))]) (σ' := (zN L X (zhi s) R G nc ns)) (fun n => rfl) ?_
          refine zW.jcmp_eq rfl (by omega) (fun c9 => ?_) (fun c9 => ?_)
          · skip
            exact zW.vret rfl (hQ0 s V)
          · skip
            refine zW.run 2 (pc' := 45) (ls' := [some (.ref 8), some (.int (Int32.ofInt x)), some (.int (Int32.ofInt (s 11 x.toNat)))]) (st' := [.int (Int32.ofInt 3), .int (Int32.ofInt (s 11 x.toNat))]) (σ' := (zN L X (zhi s) R G nc ns)) (fun n => rfl) ?_
            refine zW.jcmp_eq rfl (by omega) (fun c10 => ?_) (fun c10 => ?_)
            · skip
              exact zW.vret rfl (hQ0 s V)
            · skip
              refine zW.run 2 (pc' := 50) (ls' := [some (.ref 8), some (.int (Int32.ofInt x)), some (.int (Int32.ofInt (s 11 x.toNat)))]) (st' := [.int (Int32.ofInt 2), .int (Int32.ofInt (s 11 x.toNat))]) (σ' := (zN L X (zhi s) R G nc ns)) (fun n => rfl) ?_
              refine zW.jcmp_ne rfl (by omega) (fun c11 => ?_) (fun c11 => ?_)
              · skip
                refine zW.run 1 (pc' := 55) (ls' := [some (.ref 8), some (.int (Int32.ofInt x)), some (.int (Int32.ofInt (s 11 x.toNat)))]) (st' := [.ref 8]) (σ' := (zN L X (zhi s) R G nc ns)) (fun n => rfl) ?_
                refine zW.getf (v := .ref 11) rfl rfl (zr_8 S (f := 2) (by decide)) ?_
                refine zW.run 2 (pc' := 61) (ls' := [some (.ref 8), some (.int (Int32.ofInt x)), some (.int (Int32.ofInt (s 11 x.toNat)))]) (st' := [.int (Int32.ofInt 7), .int (Int32.ofInt x), .ref 11]) (σ' := (zN L X (zhi s) R G nc ns)) (fun n => rfl) ?_
                refine zW.jast (n := 144) rfl rfl (by decide) (by omega) ?_
                refine zW.run 1 (pc' := 63) (ls' := [some (.ref 8), some (.int (Int32.ofInt x)), some (.int (Int32.ofInt (s 11 x.toNat)))]) (st' := [.ref 8]) (σ' := (zN L X (zhi (zup s 11 x.toNat 7)) R G nc ns)) (fun n => rfl) ?_
                refine zW.getf (v := .ref 9) rfl rfl (zr_8 S (f := 0) (by decide)) ?_
                refine zW.run 1 (pc' := 67) (ls' := [some (.ref 8), some (.int (Int32.ofInt x)), some (.int (Int32.ofInt (s 11 x.toNat)))]) (st' := [.int (Int32.ofInt x), .ref 9]) (σ' := (zN L X (zhi (zup s 11 x.toNat 7)) R G nc ns)) (fun n => rfl) ?_
                refine zW.jald (n := 144) (v := (s 9 x.toNat)) rfl rfl (by decide) (by omega) (zup_nj (by omega)) ?_
                refine zW.jif_le rfl (by omega) (fun c12 => ?_) (fun c12 => ?_)
                · skip
                  have V13 : zV g U F T B ph (zup s 11 x.toNat 7) := (V_sink V (by omega) (by omega) (by omega) (by omega) (by omega))
                  generalize hs14 : (zup s 11 x.toNat 7) = s14 at V13 ⊢
                  exact zW.vret rfl (hQ0 s14 V13)
                · skip
                  refine zW.run 1 (pc' := 72) (ls' := [some (.ref 8), some (.int (Int32.ofInt x)), some (.int (Int32.ofInt (s 11 x.toNat)))]) (st' := [.ref 8]) (σ' := (zN L X (zhi (zup s 11 x.toNat 7)) R G nc ns)) (fun n => rfl) ?_
                  refine zW.getf (v := .ref 9) rfl rfl (zr_8 S (f := 0) (by decide)) ?_
                  refine zW.run 2 (pc' := 77) (ls' := [some (.ref 8), some (.int (Int32.ofInt x)), some (.int (Int32.ofInt (s 11 x.toNat)))]) (st' := [.int (Int32.ofInt x), .ref 9, .int (Int32.ofInt x), .ref 9]) (σ' := (zN L X (zhi (zup s 11 x.toNat 7)) R G nc ns)) (fun n => rfl) ?_
                  refine zW.jald (n := 144) (v := (s 9 x.toNat)) rfl rfl (by decide) (by omega) (zup_nj (by omega)) ?_
                  refine zW.run 1 (pc' := 79) (ls' := [some (.ref 8), some (.int (Int32.ofInt x)), some (.int (Int32.ofInt (s 11 x.toNat)))]) (st' := [.int (Int32.ofInt 1), .int (Int32.ofInt (s 9 x.toNat)), .int (Int32.ofInt x), .ref 9]) (σ' := (zN L X (zhi (zup s 11 x.toNat 7)) R G nc ns)) (fun n => rfl) ?_
                  refine zW.jsub rfl ?_
                  refine zW.jast (n := 144) rfl rfl (by decide) (by omega) ?_
                  have V15 : zV g U F T B ph (zup (zup s 11 x.toNat 7) 9 x.toNat ((s 9 x.toNat) - 1)) := (V_sinl V (by omega) (by omega) (by omega) (by omega) (by omega) (by omega))
                  generalize hs16 : (zup (zup s 11 x.toNat 7) 9 x.toNat ((s 9 x.toNat) - 1)) = s16 at V15 ⊢
                  exact zW.vret rfl (hQ0 s16 V15)
              · skip
                exact zW.vret rfl (hQ0 s V)
      · skip
        exact zW.vret rfl (hQ0 s V)
  · skip
    show zW ro 116 5 [some (.ref 8), some (.int (Int32.ofInt x)), none] [.int (Int32.ofInt 0)] (zN L X (zhi s) R G nc ns) Q
    refine zW.run 1 (pc' := 24) (ls' := [some (.ref 8), some (.int (Int32.ofInt x)), none]) (st' := []) (σ' := (zN L X (zhi s) R G nc ns)) (fun n => rfl) ?_
    exact zW.vret rfl (hQ0 s V)
set_option maxHeartbeats 4000000 in
theorem t_Mining_shake (S : zSR R) (V : zV g U F T B ph s) {x : Int} {y : Int} (p0 : -2147483648 ≤ x ∧ x < 2147483648) (p1 : -2147483648 ≤ y ∧ y < 2147483648) (p2 : B + 1 ≤ 1000000000) (hQ0 : ∀ (v : Int) (s1 : zJ), zV g U F T (B + 1) ph s1 → Q (.inl (some (.int (Int32.ofInt v)))) (zN L X (zhi s1) R G nc ns)) : zW ro 115 0 (zfst [.ref 7, .int (Int32.ofInt x), .int (Int32.ofInt y)] 8) [] (zN L X (zhi s) R G nc ns) Q := by
  show zW ro 115 0 [some (.ref 7), some (.int (Int32.ofInt x)), some (.int (Int32.ofInt y)), none, none, none, none, none] [] (zN L X (zhi s) R G nc ns) Q
  have f1 := zA_geo (zV_zA V)
  have hB0 := zV_B V
  refine zW.run 3 (pc' := 3) (ls' := [some (.ref 7), some (.int (Int32.ofInt x)), some (.int (Int32.ofInt y)), some (.int (Int32.ofInt 0)), none, none, none, none]) (st' := [.ref 7]) (σ' := (zN L X (zhi s) R G nc ns)) (fun n => rfl) ?_
  refine zW.getf (v := .ref 19) rfl rfl (zr_7_2 S) ?_
  refine zW.run 2 (pc' := 10) (ls' := [some (.ref 7), some (.int (Int32.ofInt x)), some (.int (Int32.ofInt y)), some (.int (Int32.ofInt 0)), some (.ref 19), none, none, none]) (st' := [.ref 19]) (σ' := (zN L X (zhi s) R G nc ns)) (fun n => rfl) ?_
  refine zW.alen rfl rfl (by decide) ?_
  show zW ro 115 11 [some (.ref 7), some (.int (Int32.ofInt x)), some (.int (Int32.ofInt y)), some (.int (Int32.ofInt 0)), some (.ref 19), none, none, none] [.int (Int32.ofInt 12)] (zN L X (zhi s) R G nc ns) Q
  refine zW.run 3 (pc' := 16) (ls' := [some (.ref 7), some (.int (Int32.ofInt x)), some (.int (Int32.ofInt y)), some (.int (Int32.ofInt 0)), some (.ref 19), some (.int (Int32.ofInt 12)), some (.int (Int32.ofInt 0)), none]) (st' := []) (σ' := (zN L X (zhi s) R G nc ns)) (fun n => rfl) ?_
  have J8 : ∀ m : Nat, ∀ (i_2 : Nat) (a_3 : Int) (w4 : Option Value) (s5 : zJ), zV g U F T B ph s5 → i_2 ≤ 12 → 13 - i_2 < m → zW ro 115 16 [some (.ref 7), some (.int (Int32.ofInt x)), some (.int (Int32.ofInt y)), some (.int (Int32.ofInt a_3)), some (.ref 19), some (.int (Int32.ofInt 12)), some (.int (Int32.ofInt (i_2 : Int))), w4] [] (zN L X (zhi s5) R G nc ns) Q := by
    intro m
    induction m with
    | zero => intros; omega
    | succ m ih9 =>
      intro i_2 a_3 w4 s5 V6 c7 hm10
      refine zW.run 2 (pc' := 20) (ls' := [some (.ref 7), some (.int (Int32.ofInt x)), some (.int (Int32.ofInt y)), some (.int (Int32.ofInt a_3)), some (.ref 19), some (.int (Int32.ofInt 12)), some (.int (Int32.ofInt (i_2 : Int))), w4]) (st' := [.int (Int32.ofInt 12), .int (Int32.ofInt (i_2 : Int))]) (σ' := (zN L X (zhi s5) R G nc ns)) (fun n => rfl) ?_
      refine zW.jcmp_ge rfl (by omega) (fun c11 => ?_) (fun c11 => ?_)
      · skip
        refine zW.run 1 (pc' := 70) (ls' := [some (.ref 7), some (.int (Int32.ofInt x)), some (.int (Int32.ofInt y)), some (.int (Int32.ofInt a_3)), some (.ref 19), some (.int (Int32.ofInt 12)), some (.int (Int32.ofInt (i_2 : Int))), w4]) (st' := [.ref 7]) (σ' := (zN L X (zhi s5) R G nc ns)) (fun n => rfl) ?_
        refine zW.getf (v := .ref 18) rfl rfl (zr_7_1 S) ?_
        refine zW.run 2 (pc' := 77) (ls' := [some (.ref 7), some (.int (Int32.ofInt x)), some (.int (Int32.ofInt y)), some (.int (Int32.ofInt a_3)), some (.ref 18), some (.int (Int32.ofInt 12)), some (.int (Int32.ofInt (i_2 : Int))), w4]) (st' := [.ref 18]) (σ' := (zN L X (zhi s5) R G nc ns)) (fun n => rfl) ?_
        refine zW.alen rfl rfl (by decide) ?_
        show zW ro 115 78 [some (.ref 7), some (.int (Int32.ofInt x)), some (.int (Int32.ofInt y)), some (.int (Int32.ofInt a_3)), some (.ref 18), some (.int (Int32.ofInt 12)), some (.int (Int32.ofInt (i_2 : Int))), w4] [.int (Int32.ofInt 16)] (zN L X (zhi s5) R G nc ns) Q
        refine zW.run 3 (pc' := 83) (ls' := [some (.ref 7), some (.int (Int32.ofInt x)), some (.int (Int32.ofInt y)), some (.int (Int32.ofInt a_3)), some (.ref 18), some (.int (Int32.ofInt 16)), some (.int (Int32.ofInt 0)), w4]) (st' := []) (σ' := (zN L X (zhi s5) R G nc ns)) (fun n => rfl) ?_
        have J17 : ∀ m : Nat, ∀ (i_12 : Nat) (w13 : Option Value) (s14 : zJ), zV g U F T B ph s14 → i_12 ≤ 16 → 17 - i_12 < m → zW ro 115 83 [some (.ref 7), some (.int (Int32.ofInt x)), some (.int (Int32.ofInt y)), some (.int (Int32.ofInt a_3)), some (.ref 18), some (.int (Int32.ofInt 16)), some (.int (Int32.ofInt (i_12 : Int))), w13] [] (zN L X (zhi s14) R G nc ns) Q := by
          intro m
          induction m with
          | zero => intros; omega
          | succ m ih18 =>
            intro i_12 w13 s14 V15 c16 hm19
            refine zW.run 2 (pc' := 87) (ls' := [some (.ref 7), some (.int (Int32.ofInt x)), some (.int (Int32.ofInt y)), some (.int (Int32.ofInt a_3)), some (.ref 18), some (.int (Int32.ofInt 16)), some (.int (Int32.ofInt (i_12 : Int))), w13]) (st' := [.int (Int32.ofInt 16), .int (Int32.ofInt (i_12 : Int))]) (σ' := (zN L X (zhi s14) R G nc ns)) (fun n => rfl) ?_
            refine zW.jcmp_ge rfl (by omega) (fun c20 => ?_) (fun c20 => ?_)
            · skip
              refine zW.run 3 (pc' := 138) (ls' := [some (.ref 7), some (.int (Int32.ofInt x)), some (.int (Int32.ofInt y)), some (.int (Int32.ofInt a_3)), some (.ref 18), some (.int (Int32.ofInt 16)), some (.int (Int32.ofInt (i_12 : Int))), w13]) (st' := [.int (Int32.ofInt 30), .int (Int32.ofInt x), .ref 7]) (σ' := (zN L X (zhi s14) R G nc ns)) (fun n => rfl) ?_
              refine zW.callV rfl (by decide) rfl rfl rfl rfl rfl (Nat.le_of_ble_eq_true rfl) ?_
              refine t_Siege_batter S V15 (x := x) (d := 30) (by omega) (by omega) (by omega) (fun s21 V22 => ?_)
              show zW ro 115 141 [some (.ref 7), some (.int (Int32.ofInt x)), some (.int (Int32.ofInt y)), some (.int (Int32.ofInt a_3)), some (.ref 18), some (.int (Int32.ofInt 16)), some (.int (Int32.ofInt (i_12 : Int))), w13] [] (zN L X (zhi s21) R G nc ns) Q
              refine zW.run 1 (pc' := 142) (ls' := [some (.ref 7), some (.int (Int32.ofInt x)), some (.int (Int32.ofInt y)), some (.int (Int32.ofInt a_3)), some (.ref 18), some (.int (Int32.ofInt 16)), some (.int (Int32.ofInt (i_12 : Int))), w13]) (st' := [.int (Int32.ofInt y)]) (σ' := (zN L X (zhi s21) R G nc ns)) (fun n => rfl) ?_
              refine zW.jif_eq rfl (by omega) (fun c23 => ?_) (fun c23 => ?_)
              · skip
                refine zW.run 1 (pc' := 154) (ls' := [some (.ref 7), some (.int (Int32.ofInt x)), some (.int (Int32.ofInt y)), some (.int (Int32.ofInt a_3)), some (.ref 18), some (.int (Int32.ofInt 16)), some (.int (Int32.ofInt (i_12 : Int))), w13]) (st' := [.int (Int32.ofInt a_3)]) (σ' := (zN L X (zhi s21) R G nc ns)) (fun n => rfl) ?_
                exact zW.jret rfl rfl (hQ0 a_3 s21 V22)
              · skip
                refine zW.run 1 (pc' := 146) (ls' := [some (.ref 7), some (.int (Int32.ofInt x)), some (.int (Int32.ofInt y)), some (.int (Int32.ofInt a_3)), some (.ref 18), some (.int (Int32.ofInt 16)), some (.int (Int32.ofInt (i_12 : Int))), w13]) (st' := [.ref 7]) (σ' := (zN L X (zhi s21) R G nc ns)) (fun n => rfl) ?_
                refine zW.getf (v := .ref 8) rfl rfl (zr_7_0 S) ?_
                refine zW.run 1 (pc' := 150) (ls' := [some (.ref 7), some (.int (Int32.ofInt x)), some (.int (Int32.ofInt y)), some (.int (Int32.ofInt a_3)), some (.ref 18), some (.int (Int32.ofInt 16)), some (.int (Int32.ofInt (i_12 : Int))), w13]) (st' := [.int (Int32.ofInt x), .ref 8]) (σ' := (zN L X (zhi s21) R G nc ns)) (fun n => rfl) ?_
                refine zW.callS rfl rfl rfl rfl rfl (Nat.le_of_ble_eq_true rfl) ?_
                refine t_Mining_sink S V22 (x := x) (by omega) (fun s24 V25 => ?_)
                show zW ro 115 153 [some (.ref 7), some (.int (Int32.ofInt x)), some (.int (Int32.ofInt y)), some (.int (Int32.ofInt a_3)), some (.ref 18), some (.int (Int32.ofInt 16)), some (.int (Int32.ofInt (i_12 : Int))), w13] [] (zN L X (zhi s24) R G nc ns) Q
                refine zW.run 1 (pc' := 154) (ls' := [some (.ref 7), some (.int (Int32.ofInt x)), some (.int (Int32.ofInt y)), some (.int (Int32.ofInt a_3)), some (.ref 18), some (.int (Int32.ofInt 16)), some (.int (Int32.ofInt (i_12 : Int))), w13]) (st' := [.int (Int32.ofInt a_3)]) (σ' := (zN L X (zhi s24) R G nc ns)) (fun n => rfl) ?_
                exact zW.jret rfl rfl (hQ0 a_3 s24 (zV_mono V25 (by omega) (by omega)))
            · skip
              refine zW.run 2 (pc' := 94) (ls' := [some (.ref 7), some (.int (Int32.ofInt x)), some (.int (Int32.ofInt y)), some (.int (Int32.ofInt a_3)), some (.ref 18), some (.int (Int32.ofInt 16)), some (.int (Int32.ofInt (i_12 : Int))), w13]) (st' := [.int (Int32.ofInt (i_12 : Int)), .ref 18]) (σ' := (zN L X (zhi s14) R G nc ns)) (fun n => rfl) ?_
              refine zW.jaald (n := 16) (v := .ref (26 + i_12)) rfl rfl (by decide) (by decide) (by omega) (zr_gun S (by omega)) ?_
              refine zW.run 2 (pc' := 99) (ls' := [some (.ref 7), some (.int (Int32.ofInt x)), some (.int (Int32.ofInt y)), some (.int (Int32.ofInt a_3)), some (.ref 18), some (.int (Int32.ofInt 16)), some (.int (Int32.ofInt (i_12 : Int))), some (.ref (26 + i_12))]) (st' := [.ref (26 + i_12)]) (σ' := (zN L X (zhi s14) R G nc ns)) (fun n => rfl) ?_
              refine zW.callV rfl (by decide) rfl rfl rfl rfl (zk_gun (by omega)) (Nat.le_of_ble_eq_true rfl) ?_
              refine t_Gun_isPlaced S V15 (i := i_12) (by omega) (fun f26 => ?_) (fun f27 => ?_)
              · skip
                show zW ro 115 102 [some (.ref 7), some (.int (Int32.ofInt x)), some (.int (Int32.ofInt y)), some (.int (Int32.ofInt a_3)), some (.ref 18), some (.int (Int32.ofInt 16)), some (.int (Int32.ofInt (i_12 : Int))), some (.ref (26 + i_12))] [.int (Int32.ofInt 1)] (zN L X (zhi s14) R G nc ns) Q
                refine zW.run 2 (pc' := 107) (ls' := [some (.ref 7), some (.int (Int32.ofInt x)), some (.int (Int32.ofInt y)), some (.int (Int32.ofInt a_3)), some (.ref 18), some (.int (Int32.ofInt 16)), some (.int (Int32.ofInt (i_12 : Int))), some (.ref (26 + i_12))]) (st' := [.ref (26 + i_12)]) (σ' := (zN L X (zhi s14) R G nc ns)) (fun n => rfl) ?_
                have f28 := zV_gun V15 (i := i_12) (by omega)
                refine zW.jget (v := (s14 (26 + i_12) 1)) rfl (zk_gun (by omega)) (fun _ _ _ => rfl) rfl ?_
                refine zW.run 1 (pc' := 111) (ls' := [some (.ref 7), some (.int (Int32.ofInt x)), some (.int (Int32.ofInt y)), some (.int (Int32.ofInt a_3)), some (.ref 18), some (.int (Int32.ofInt 16)), some (.int (Int32.ofInt (i_12 : Int))), some (.ref (26 + i_12))]) (st' := [.int (Int32.ofInt x), .int (Int32.ofInt (s14 (26 + i_12) 1))]) (σ' := (zN L X (zhi s14) R G nc ns)) (fun n => rfl) ?_
                refine zW.jcmp_ne rfl (by omega) (fun c29 => ?_) (fun c29 => ?_)
                · skip
                  refine zW.jinc (ls' := [some (.ref 7), some (.int (Int32.ofInt x)), some (.int (Int32.ofInt y)), some (.int (Int32.ofInt a_3)), some (.ref 18), some (.int (Int32.ofInt 16)), some (.int (Int32.ofInt ((i_12 : Int) + 1))), some (.ref (26 + i_12))]) rfl (Nat.le_of_ble_eq_true rfl) rfl rfl ?_
                  refine zW.run 1 (pc' := 83) (ls' := [some (.ref 7), some (.int (Int32.ofInt x)), some (.int (Int32.ofInt y)), some (.int (Int32.ofInt a_3)), some (.ref 18), some (.int (Int32.ofInt 16)), some (.int (Int32.ofInt ((i_12 : Int) + 1))), some (.ref (26 + i_12))]) (st' := []) (σ' := (zN L X (zhi s14) R G nc ns)) (fun n => rfl) ?_
                  exact ih18 (i_12 + 1) (some (.ref (26 + i_12))) s14 (zV_mono V15 (by omega) (by omega)) (by omega) (by omega)
                · skip
                  refine zW.run 1 (pc' := 116) (ls' := [some (.ref 7), some (.int (Int32.ofInt x)), some (.int (Int32.ofInt y)), some (.int (Int32.ofInt a_3)), some (.ref 18), some (.int (Int32.ofInt 16)), some (.int (Int32.ofInt (i_12 : Int))), some (.ref (26 + i_12))]) (st' := [.ref (26 + i_12)]) (σ' := (zN L X (zhi s14) R G nc ns)) (fun n => rfl) ?_
                  refine zW.jget (v := (s14 (26 + i_12) 5)) rfl (zk_gun (by omega)) (fun _ _ _ => rfl) rfl ?_
                  refine zW.jif_ne rfl (by omega) (fun c30 => ?_) (fun c30 => ?_)
                  · skip
                    refine zW.jinc (ls' := [some (.ref 7), some (.int (Int32.ofInt x)), some (.int (Int32.ofInt y)), some (.int (Int32.ofInt a_3)), some (.ref 18), some (.int (Int32.ofInt 16)), some (.int (Int32.ofInt ((i_12 : Int) + 1))), some (.ref (26 + i_12))]) rfl (Nat.le_of_ble_eq_true rfl) rfl rfl ?_
                    refine zW.run 1 (pc' := 83) (ls' := [some (.ref 7), some (.int (Int32.ofInt x)), some (.int (Int32.ofInt y)), some (.int (Int32.ofInt a_3)), some (.ref 18), some (.int (Int32.ofInt 16)), some (.int (Int32.ofInt ((i_12 : Int) + 1))), some (.ref (26 + i_12))]) (st' := []) (σ' := (zN L X (zhi s14) R G nc ns)) (fun n => rfl) ?_
                    exact ih18 (i_12 + 1) (some (.ref (26 + i_12))) s14 (zV_mono V15 (by omega) (by omega)) (by omega) (by omega)
                  · skip
                    refine zW.run 2 (pc' := 125) (ls' := [some (.ref 7), some (.int (Int32.ofInt x)), some (.int (Int32.ofInt y)), some (.int (Int32.ofInt a_3)), some (.ref 18), some (.int (Int32.ofInt 16)), some (.int (Int32.ofInt (i_12 : Int))), some (.ref (26 + i_12))]) (st' := [.int (Int32.ofInt 1), .ref (26 + i_12)]) (σ' := (zN L X (zhi s14) R G nc ns)) (fun n => rfl) ?_
                    refine zW.jput rfl (zk_gun (by omega)) rfl ?_
                    refine zW.jinc (ls' := [some (.ref 7), some (.int (Int32.ofInt x)), some (.int (Int32.ofInt y)), some (.int (Int32.ofInt a_3)), some (.ref 18), some (.int (Int32.ofInt 16)), some (.int (Int32.ofInt ((i_12 : Int) + 1))), some (.ref (26 + i_12))]) rfl (Nat.le_of_ble_eq_true rfl) rfl rfl ?_
                    refine zW.run 1 (pc' := 83) (ls' := [some (.ref 7), some (.int (Int32.ofInt x)), some (.int (Int32.ofInt y)), some (.int (Int32.ofInt a_3)), some (.ref 18), some (.int (Int32.ofInt 16)), some (.int (Int32.ofInt ((i_12 : Int) + 1))), some (.ref (26 + i_12))]) (st' := []) (σ' := (zN L X (zhi (zup s14 (26 + i_12) 5 1)) R G nc ns)) (fun n => rfl) ?_
                    have V31 : zV g U F T B ph (zup s14 (26 + i_12) 5 1) := (V_gst V15 (by omega) (by omega))
                    generalize hs32 : (zup s14 (26 + i_12) 5 1) = s32 at V31 ⊢
                    exact ih18 (i_12 + 1) (some (.ref (26 + i_12))) s32 (zV_mono V31 (by omega) (by omega)) (by omega) (by omega)
              · skip
                show zW ro 115 102 [some (.ref 7), some (.int (Int32.ofInt x)), some (.int (Int32.ofInt y)), some (.int (Int32.ofInt a_3)), some (.ref 18), some (.int (Int32.ofInt 16)), some (.int (Int32.ofInt (i_12 : Int))), some (.ref (26 + i_12))] [.int (Int32.ofInt 0)] (zN L X (zhi s14) R G nc ns) Q
                refine zW.run 1 (pc' := 128) (ls' := [some (.ref 7), some (.int (Int32.ofInt x)), some (.int (Int32.ofInt y)), some (.int (Int32.ofInt a_3)), some (.ref 18), some (.int (Int32.ofInt 16)), some (.int (Int32.ofInt (i_12 : Int))), some (.ref (26 + i_12))]) (st' := []) (σ' := (zN L X (zhi s14) R G nc ns)) (fun n => rfl) ?_
                refine zW.jinc (ls' := [some (.ref 7), some (.int (Int32.ofInt x)), some (.int (Int32.ofInt y)), some (.int (Int32.ofInt a_3)), some (.ref 18), some (.int (Int32.ofInt 16)), some (.int (Int32.ofInt ((i_12 : Int) + 1))), some (.ref (26 + i_12))]) rfl (Nat.le_of_ble_eq_true rfl) rfl rfl ?_
                refine zW.run 1 (pc' := 83) (ls' := [some (.ref 7), some (.int (Int32.ofInt x)), some (.int (Int32.ofInt y)), some (.int (Int32.ofInt a_3)), some (.ref 18), some (.int (Int32.ofInt 16)), some (.int (Int32.ofInt ((i_12 : Int) + 1))), some (.ref (26 + i_12))]) (st' := []) (σ' := (zN L X (zhi s14) R G nc ns)) (fun n => rfl) ?_
                exact ih18 (i_12 + 1) (some (.ref (26 + i_12))) s14 (zV_mono V15 (by omega) (by omega)) (by omega) (by omega)
        exact J17 _ 0 w4 s5 (zV_mono V6 (by omega) (by omega)) (by omega) (Nat.lt_succ_self _)
      · skip
        refine zW.run 2 (pc' := 27) (ls' := [some (.ref 7), some (.int (Int32.ofInt x)), some (.int (Int32.ofInt y)), some (.int (Int32.ofInt a_3)), some (.ref 19), some (.int (Int32.ofInt 12)), some (.int (Int32.ofInt (i_2 : Int))), w4]) (st' := [.int (Int32.ofInt (i_2 : Int)), .ref 19]) (σ' := (zN L X (zhi s5) R G nc ns)) (fun n => rfl) ?_
        refine zW.jaald (n := 12) (v := .ref (42 + i_2)) rfl rfl (by decide) (by decide) (by omega) (zr_com S (by omega)) ?_
        refine zW.run 2 (pc' := 32) (ls' := [some (.ref 7), some (.int (Int32.ofInt x)), some (.int (Int32.ofInt y)), some (.int (Int32.ofInt a_3)), some (.ref 19), some (.int (Int32.ofInt 12)), some (.int (Int32.ofInt (i_2 : Int))), some (.ref (42 + i_2))]) (st' := [.ref (42 + i_2)]) (σ' := (zN L X (zhi s5) R G nc ns)) (fun n => rfl) ?_
        refine zW.callV rfl (by decide) rfl rfl rfl rfl (zk_com (by omega)) (Nat.le_of_ble_eq_true rfl) ?_
        refine t_Company_isPlaced S V6 (i := i_2) (by omega) (fun f33 => ?_) (fun f34 => ?_)
        · skip
          show zW ro 115 35 [some (.ref 7), some (.int (Int32.ofInt x)), some (.int (Int32.ofInt y)), some (.int (Int32.ofInt a_3)), some (.ref 19), some (.int (Int32.ofInt 12)), some (.int (Int32.ofInt (i_2 : Int))), some (.ref (42 + i_2))] [.int (Int32.ofInt 1)] (zN L X (zhi s5) R G nc ns) Q
          refine zW.run 2 (pc' := 40) (ls' := [some (.ref 7), some (.int (Int32.ofInt x)), some (.int (Int32.ofInt y)), some (.int (Int32.ofInt a_3)), some (.ref 19), some (.int (Int32.ofInt 12)), some (.int (Int32.ofInt (i_2 : Int))), some (.ref (42 + i_2))]) (st' := [.ref (42 + i_2)]) (σ' := (zN L X (zhi s5) R G nc ns)) (fun n => rfl) ?_
          have f35 := zV_com V6 (i := i_2) (by omega)
          refine zW.jget (v := (s5 (42 + i_2) 1)) rfl (zk_com (by omega)) (fun _ _ _ => rfl) rfl ?_
          refine zW.run 1 (pc' := 44) (ls' := [some (.ref 7), some (.int (Int32.ofInt x)), some (.int (Int32.ofInt y)), some (.int (Int32.ofInt a_3)), some (.ref 19), some (.int (Int32.ofInt 12)), some (.int (Int32.ofInt (i_2 : Int))), some (.ref (42 + i_2))]) (st' := [.int (Int32.ofInt x), .int (Int32.ofInt (s5 (42 + i_2) 1))]) (σ' := (zN L X (zhi s5) R G nc ns)) (fun n => rfl) ?_
          refine zW.jcmp_ne rfl (by omega) (fun c36 => ?_) (fun c36 => ?_)
          · skip
            refine zW.jinc (ls' := [some (.ref 7), some (.int (Int32.ofInt x)), some (.int (Int32.ofInt y)), some (.int (Int32.ofInt a_3)), some (.ref 19), some (.int (Int32.ofInt 12)), some (.int (Int32.ofInt ((i_2 : Int) + 1))), some (.ref (42 + i_2))]) rfl (Nat.le_of_ble_eq_true rfl) rfl rfl ?_
            refine zW.run 1 (pc' := 16) (ls' := [some (.ref 7), some (.int (Int32.ofInt x)), some (.int (Int32.ofInt y)), some (.int (Int32.ofInt a_3)), some (.ref 19), some (.int (Int32.ofInt 12)), some (.int (Int32.ofInt ((i_2 : Int) + 1))), some (.ref (42 + i_2))]) (st' := []) (σ' := (zN L X (zhi s5) R G nc ns)) (fun n => rfl) ?_
            exact ih9 (i_2 + 1) a_3 (some (.ref (42 + i_2))) s5 (zV_mono V6 (by omega) (by omega)) (by omega) (by omega)
          · skip
            refine zW.run 4 (pc' := 53) (ls' := [some (.ref 7), some (.int (Int32.ofInt x)), some (.int (Int32.ofInt y)), some (.int (Int32.ofInt a_3)), some (.ref 19), some (.int (Int32.ofInt 12)), some (.int (Int32.ofInt (i_2 : Int))), some (.ref (42 + i_2))]) (st' := [.ref (42 + i_2), .ref (42 + i_2), .ref 7, .int (Int32.ofInt a_3)]) (σ' := (zN L X (zhi s5) R G nc ns)) (fun n => rfl) ?_
            refine zW.jget (v := (s5 (42 + i_2) 2)) rfl (zk_com (by omega)) (fun _ _ _ => rfl) rfl ?_
            refine zW.run 1 (pc' := 57) (ls' := [some (.ref 7), some (.int (Int32.ofInt x)), some (.int (Int32.ofInt y)), some (.int (Int32.ofInt a_3)), some (.ref 19), some (.int (Int32.ofInt 12)), some (.int (Int32.ofInt (i_2 : Int))), some (.ref (42 + i_2))]) (st' := [.int (Int32.ofInt 3), .int (Int32.ofInt (s5 (42 + i_2) 2)), .ref (42 + i_2), .ref 7, .int (Int32.ofInt a_3)]) (σ' := (zN L X (zhi s5) R G nc ns)) (fun n => rfl) ?_
            refine zW.jdiv rfl (by omega) ?_
            refine zW.callV rfl (by decide) rfl rfl rfl rfl rfl (Nat.le_of_ble_eq_true rfl) ?_
            refine t_Siege_takeMen S V6 (i := i_2) (x := ((s5 (42 + i_2) 2) / 3)) (by omega) (by omega) (fun v_37 s38 V39 f40 => ?_)
            show zW ro 115 61 [some (.ref 7), some (.int (Int32.ofInt x)), some (.int (Int32.ofInt y)), some (.int (Int32.ofInt a_3)), some (.ref 19), some (.int (Int32.ofInt 12)), some (.int (Int32.ofInt (i_2 : Int))), some (.ref (42 + i_2))] [.int (Int32.ofInt v_37), .int (Int32.ofInt a_3)] (zN L X (zhi s38) R G nc ns) Q
            refine zW.jadd rfl ?_
            refine zW.run 1 (pc' := 63) (ls' := [some (.ref 7), some (.int (Int32.ofInt x)), some (.int (Int32.ofInt y)), some (.int (Int32.ofInt (a_3 + v_37))), some (.ref 19), some (.int (Int32.ofInt 12)), some (.int (Int32.ofInt (i_2 : Int))), some (.ref (42 + i_2))]) (st' := []) (σ' := (zN L X (zhi s38) R G nc ns)) (fun n => rfl) ?_
            refine zW.jinc (ls' := [some (.ref 7), some (.int (Int32.ofInt x)), some (.int (Int32.ofInt y)), some (.int (Int32.ofInt (a_3 + v_37))), some (.ref 19), some (.int (Int32.ofInt 12)), some (.int (Int32.ofInt ((i_2 : Int) + 1))), some (.ref (42 + i_2))]) rfl (Nat.le_of_ble_eq_true rfl) rfl rfl ?_
            refine zW.run 1 (pc' := 16) (ls' := [some (.ref 7), some (.int (Int32.ofInt x)), some (.int (Int32.ofInt y)), some (.int (Int32.ofInt (a_3 + v_37))), some (.ref 19), some (.int (Int32.ofInt 12)), some (.int (Int32.ofInt ((i_2 : Int) + 1))), some (.ref (42 + i_2))]) (st' := []) (σ' := (zN L X (zhi s38) R G nc ns)) (fun n => rfl) ?_
            exact ih9 (i_2 + 1) (a_3 + v_37) (some (.ref (42 + i_2))) s38 (zV_mono V39 (by omega) (by omega)) (by omega) (by omega)
        · skip
          show zW ro 115 35 [some (.ref 7), some (.int (Int32.ofInt x)), some (.int (Int32.ofInt y)), some (.int (Int32.ofInt a_3)), some (.ref 19), some (.int (Int32.ofInt 12)), some (.int (Int32.ofInt (i_2 : Int))), some (.ref (42 + i_2))] [.int (Int32.ofInt 0)] (zN L X (zhi s5) R G nc ns) Q
          refine zW.run 1 (pc' := 63) (ls' := [some (.ref 7), some (.int (Int32.ofInt x)), some (.int (Int32.ofInt y)), some (.int (Int32.ofInt a_3)), some (.ref 19), some (.int (Int32.ofInt 12)), some (.int (Int32.ofInt (i_2 : Int))), some (.ref (42 + i_2))]) (st' := []) (σ' := (zN L X (zhi s5) R G nc ns)) (fun n => rfl) ?_
          refine zW.jinc (ls' := [some (.ref 7), some (.int (Int32.ofInt x)), some (.int (Int32.ofInt y)), some (.int (Int32.ofInt a_3)), some (.ref 19), some (.int (Int32.ofInt 12)), some (.int (Int32.ofInt ((i_2 : Int) + 1))), some (.ref (42 + i_2))]) rfl (Nat.le_of_ble_eq_true rfl) rfl rfl ?_
          refine zW.run 1 (pc' := 16) (ls' := [some (.ref 7), some (.int (Int32.ofInt x)), some (.int (Int32.ofInt y)), some (.int (Int32.ofInt a_3)), some (.ref 19), some (.int (Int32.ofInt 12)), some (.int (Int32.ofInt ((i_2 : Int) + 1))), some (.ref (42 + i_2))]) (st' := []) (σ' := (zN L X (zhi s5) R G nc ns)) (fun n => rfl) ?_
          exact ih9 (i_2 + 1) a_3 (some (.ref (42 + i_2))) s5 (zV_mono V6 (by omega) (by omega)) (by omega) (by omega)
  exact J8 _ 0 0 none s (zV_mono V (by omega) (by omega)) (by omega) (Nat.lt_succ_self _)
set_option maxHeartbeats 4000000 in
theorem t_Mining_crushOthers (S : zSR R) (V : zV g U F T B ph s) {i : Nat} {r : Int} (p0 : i < 6) (p1 : -2147483648 ≤ r ∧ r < 2147483648) (hQ0 : ∀ (s1 : zJ), zV g U F T B ph s1 → Q (.inl none) (zN L X (zhi s1) R G nc ns)) : zW ro 111 0 (zfst [.ref 7, .ref (54 + 2 * i), .int (Int32.ofInt r)] 8) [] (zN L X (zhi s) R G nc ns) Q := by
  show zW ro 111 0 [some (.ref 7), some (.ref (54 + 2 * i)), some (.int (Int32.ofInt r)), none, none, none, none, none] [] (zN L X (zhi s) R G nc ns) Q
  have f1 := zA_geo (zV_zA V)
  have hB0 := zV_B V
  refine zW.run 2 (pc' := 2) (ls' := [some (.ref 7), some (.ref (54 + 2 * i)), some (.int (Int32.ofInt r)), none, none, none, none, none]) (st' := [.ref (54 + 2 * i), .int (Int32.ofInt 1)]) (σ' := (zN L X (zhi s) R G nc ns)) (fun n => rfl) ?_
  have f2 := zV_min V (i := i) (by omega)
  refine zW.jget (v := (s (54 + 2 * i) 1)) rfl (zk_min (by omega)) (fun _ _ _ => rfl) rfl ?_
  refine zW.jsub rfl ?_
  refine zW.run 2 (pc' := 8) (ls' := [some (.ref 7), some (.ref (54 + 2 * i)), some (.int (Int32.ofInt r)), some (.int (Int32.ofInt (1 - (s (54 + 2 * i) 1)))), none, none, none, none]) (st' := [.ref 7]) (σ' := (zN L X (zhi s) R G nc ns)) (fun n => rfl) ?_
  refine zW.getf (v := .ref 20) rfl rfl (zr_7_3 S) ?_
  refine zW.run 2 (pc' := 15) (ls' := [some (.ref 7), some (.ref (54 + 2 * i)), some (.int (Int32.ofInt r)), some (.int (Int32.ofInt (1 - (s (54 + 2 * i) 1)))), some (.ref 20), none, none, none]) (st' := [.ref 20]) (σ' := (zN L X (zhi s) R G nc ns)) (fun n => rfl) ?_
  refine zW.alen rfl rfl (by decide) ?_
  show zW ro 111 16 [some (.ref 7), some (.ref (54 + 2 * i)), some (.int (Int32.ofInt r)), some (.int (Int32.ofInt (1 - (s (54 + 2 * i) 1)))), some (.ref 20), none, none, none] [.int (Int32.ofInt 6)] (zN L X (zhi s) R G nc ns) Q
  refine zW.run 3 (pc' := 21) (ls' := [some (.ref 7), some (.ref (54 + 2 * i)), some (.int (Int32.ofInt r)), some (.int (Int32.ofInt (1 - (s (54 + 2 * i) 1)))), some (.ref 20), some (.int (Int32.ofInt 6)), some (.int (Int32.ofInt 0)), none]) (st' := []) (σ' := (zN L X (zhi s) R G nc ns)) (fun n => rfl) ?_
  have J8 : ∀ m : Nat, ∀ (i_3 : Nat) (w4 : Option Value) (s5 : zJ), zV g U F T B ph s5 → i_3 ≤ 6 → 7 - i_3 < m → zW ro 111 21 [some (.ref 7), some (.ref (54 + 2 * i)), some (.int (Int32.ofInt r)), some (.int (Int32.ofInt (1 - (s (54 + 2 * i) 1)))), some (.ref 20), some (.int (Int32.ofInt 6)), some (.int (Int32.ofInt (i_3 : Int))), w4] [] (zN L X (zhi s5) R G nc ns) Q := by
    intro m
    induction m with
    | zero => intros; omega
    | succ m ih9 =>
      intro i_3 w4 s5 V6 c7 hm10
      refine zW.run 2 (pc' := 25) (ls' := [some (.ref 7), some (.ref (54 + 2 * i)), some (.int (Int32.ofInt r)), some (.int (Int32.ofInt (1 - (s (54 + 2 * i) 1)))), some (.ref 20), some (.int (Int32.ofInt 6)), some (.int (Int32.ofInt (i_3 : Int))), w4]) (st' := [.int (Int32.ofInt 6), .int (Int32.ofInt (i_3 : Int))]) (σ' := (zN L X (zhi s5) R G nc ns)) (fun n => rfl) ?_
      refine zW.jcmp_ge rfl (by omega) (fun c11 => ?_) (fun c11 => ?_)
      · skip
        exact zW.vret rfl (hQ0 s5 V6)
      · skip
        refine zW.run 2 (pc' := 32) (ls' := [some (.ref 7), some (.ref (54 + 2 * i)), some (.int (Int32.ofInt r)), some (.int (Int32.ofInt (1 - (s (54 + 2 * i) 1)))), some (.ref 20), some (.int (Int32.ofInt 6)), some (.int (Int32.ofInt (i_3 : Int))), w4]) (st' := [.int (Int32.ofInt (i_3 : Int)), .ref 20]) (σ' := (zN L X (zhi s5) R G nc ns)) (fun n => rfl) ?_
        refine zW.jaald (n := 6) (v := .ref (54 + 2 * i_3)) rfl rfl (by decide) (by decide) (by omega) (zr_min S (by omega)) ?_
        refine zW.run 2 (pc' := 37) (ls' := [some (.ref 7), some (.ref (54 + 2 * i)), some (.int (Int32.ofInt r)), some (.int (Int32.ofInt (1 - (s (54 + 2 * i) 1)))), some (.ref 20), some (.int (Int32.ofInt 6)), some (.int (Int32.ofInt (i_3 : Int))), some (.ref (54 + 2 * i_3))]) (st' := [.ref (54 + 2 * i_3)]) (σ' := (zN L X (zhi s5) R G nc ns)) (fun n => rfl) ?_
        have f12 := zV_min V6 (i := i_3) (by omega)
        refine zW.jget (v := (s5 (54 + 2 * i_3) 1)) rfl (zk_min (by omega)) (fun _ _ _ => rfl) rfl ?_
        refine zW.run 1 (pc' := 41) (ls' := [some (.ref 7), some (.ref (54 + 2 * i)), some (.int (Int32.ofInt r)), some (.int (Int32.ofInt (1 - (s (54 + 2 * i) 1)))), some (.ref 20), some (.int (Int32.ofInt 6)), some (.int (Int32.ofInt (i_3 : Int))), some (.ref (54 + 2 * i_3))]) (st' := [.int (Int32.ofInt (1 - (s (54 + 2 * i) 1))), .int (Int32.ofInt (s5 (54 + 2 * i_3) 1))]) (σ' := (zN L X (zhi s5) R G nc ns)) (fun n => rfl) ?_
        refine zW.jcmp_ne rfl (by omega) (fun c13 => ?_) (fun c13 => ?_)
        · skip
          refine zW.jinc (ls' := [some (.ref 7), some (.ref (54 + 2 * i)), some (.int (Int32.ofInt r)), some (.int (Int32.ofInt (1 - (s (54 + 2 * i) 1)))), some (.ref 20), some (.int (Int32.ofInt 6)), some (.int (Int32.ofInt ((i_3 : Int) + 1))), some (.ref (54 + 2 * i_3))]) rfl (Nat.le_of_ble_eq_true rfl) rfl rfl ?_
          refine zW.run 1 (pc' := 21) (ls' := [some (.ref 7), some (.ref (54 + 2 * i)), some (.int (Int32.ofInt r)), some (.int (Int32.ofInt (1 - (s (54 + 2 * i) 1)))), some (.ref 20), some (.int (Int32.ofInt 6)), some (.int (Int32.ofInt ((i_3 : Int) + 1))), some (.ref (54 + 2 * i_3))]) (st' := []) (σ' := (zN L X (zhi s5) R G nc ns)) (fun n => rfl) ?_
          exact ih9 (i_3 + 1) (some (.ref (54 + 2 * i_3))) s5 (zV_mono V6 (by omega) (by omega)) (by omega) (by omega)
        · skip
          refine zW.run 1 (pc' := 46) (ls' := [some (.ref 7), some (.ref (54 + 2 * i)), some (.int (Int32.ofInt r)), some (.int (Int32.ofInt (1 - (s (54 + 2 * i) 1)))), some (.ref 20), some (.int (Int32.ofInt 6)), some (.int (Int32.ofInt (i_3 : Int))), some (.ref (54 + 2 * i_3))]) (st' := [.ref (54 + 2 * i_3)]) (σ' := (zN L X (zhi s5) R G nc ns)) (fun n => rfl) ?_
          refine zW.callV rfl (by decide) rfl rfl rfl rfl (zk_min (by omega)) (Nat.le_of_ble_eq_true rfl) ?_
          refine t_Mine_isWhole S V6 (i := i_3) (by omega) (fun f14 f15 => ?_) (fun f16 => ?_)
          · skip
            show zW ro 111 49 [some (.ref 7), some (.ref (54 + 2 * i)), some (.int (Int32.ofInt r)), some (.int (Int32.ofInt (1 - (s (54 + 2 * i) 1)))), some (.ref 20), some (.int (Int32.ofInt 6)), some (.int (Int32.ofInt (i_3 : Int))), some (.ref (54 + 2 * i_3))] [.int (Int32.ofInt 1)] (zN L X (zhi s5) R G nc ns) Q
            refine zW.run 2 (pc' := 53) (ls' := [some (.ref 7), some (.ref (54 + 2 * i)), some (.int (Int32.ofInt r)), some (.int (Int32.ofInt (1 - (s (54 + 2 * i) 1)))), some (.ref 20), some (.int (Int32.ofInt 6)), some (.int (Int32.ofInt (i_3 : Int))), some (.ref (54 + 2 * i_3))]) (st' := [.ref 7]) (σ' := (zN L X (zhi s5) R G nc ns)) (fun n => rfl) ?_
            refine zW.getf (v := .ref 8) rfl rfl (zr_7_0 S) ?_
            refine zW.run 2 (pc' := 59) (ls' := [some (.ref 7), some (.ref (54 + 2 * i)), some (.int (Int32.ofInt r)), some (.int (Int32.ofInt (1 - (s (54 + 2 * i) 1)))), some (.ref 20), some (.int (Int32.ofInt 6)), some (.int (Int32.ofInt (i_3 : Int))), some (.ref (54 + 2 * i_3))]) (st' := [.ref (54 + 2 * i), .ref (54 + 2 * i_3), .ref 8]) (σ' := (zN L X (zhi s5) R G nc ns)) (fun n => rfl) ?_
            refine zW.callV rfl (by decide) rfl rfl rfl rfl (zk_min (by omega)) (Nat.le_of_ble_eq_true rfl) ?_
            refine t_Mine_head S V6 (i := i) (by omega) (fun v_17 f18 => ?_)
            show zW ro 111 62 [some (.ref 7), some (.ref (54 + 2 * i)), some (.int (Int32.ofInt r)), some (.int (Int32.ofInt (1 - (s (54 + 2 * i) 1)))), some (.ref 20), some (.int (Int32.ofInt 6)), some (.int (Int32.ofInt (i_3 : Int))), some (.ref (54 + 2 * i_3))] [.int (Int32.ofInt v_17), .ref (54 + 2 * i_3), .ref 8] (zN L X (zhi s5) R G nc ns) Q
            refine zW.run 1 (pc' := 63) (ls' := [some (.ref 7), some (.ref (54 + 2 * i)), some (.int (Int32.ofInt r)), some (.int (Int32.ofInt (1 - (s (54 + 2 * i) 1)))), some (.ref 20), some (.int (Int32.ofInt 6)), some (.int (Int32.ofInt (i_3 : Int))), some (.ref (54 + 2 * i_3))]) (st' := [.int (Int32.ofInt r), .int (Int32.ofInt v_17), .ref (54 + 2 * i_3), .ref 8]) (σ' := (zN L X (zhi s5) R G nc ns)) (fun n => rfl) ?_
            refine zW.callS rfl rfl rfl rfl rfl (Nat.le_of_ble_eq_true rfl) ?_
            refine t_Mining_comesNear S V6 (i := i_3) (x := v_17) (r := r) (by omega) (by omega) (by omega) ?_ ?_
            · skip
              show zW ro 111 66 [some (.ref 7), some (.ref (54 + 2 * i)), some (.int (Int32.ofInt r)), some (.int (Int32.ofInt (1 - (s (54 + 2 * i) 1)))), some (.ref 20), some (.int (Int32.ofInt 6)), some (.int (Int32.ofInt (i_3 : Int))), some (.ref (54 + 2 * i_3))] [.int (Int32.ofInt 1)] (zN L X (zhi s5) R G nc ns) Q
              refine zW.run 3 (pc' := 75) (ls' := [some (.ref 7), some (.ref (54 + 2 * i)), some (.int (Int32.ofInt r)), some (.int (Int32.ofInt (1 - (s (54 + 2 * i) 1)))), some (.ref 20), some (.int (Int32.ofInt 6)), some (.int (Int32.ofInt (i_3 : Int))), some (.ref (54 + 2 * i_3))]) (st' := [.int (Int32.ofInt 3), .ref (54 + 2 * i_3)]) (σ' := (zN L X (zhi s5) R G nc ns)) (fun n => rfl) ?_
              refine zW.jput rfl (zk_min (by omega)) rfl ?_
              refine zW.run 2 (pc' := 80) (ls' := [some (.ref 7), some (.ref (54 + 2 * i)), some (.int (Int32.ofInt r)), some (.int (Int32.ofInt (1 - (s (54 + 2 * i) 1)))), some (.ref 20), some (.int (Int32.ofInt 6)), some (.int (Int32.ofInt (i_3 : Int))), some (.ref (54 + 2 * i_3))]) (st' := [.int (Int32.ofInt (1 - (s (54 + 2 * i) 1))), .ref 7]) (σ' := (zN L X (zhi (zup s5 (54 + 2 * i_3) 6 3)) R G nc ns)) (fun n => rfl) ?_
              refine zW.callV rfl (by decide) rfl rfl rfl rfl rfl (Nat.le_of_ble_eq_true rfl) ?_
              refine t_Siege_of S (x := (1 - (s (54 + 2 * i) 1))) (by omega) (fun o_19 f20 => ?_)
              show zW ro 111 83 [some (.ref 7), some (.ref (54 + 2 * i)), some (.int (Int32.ofInt r)), some (.int (Int32.ofInt (1 - (s (54 + 2 * i) 1)))), some (.ref 20), some (.int (Int32.ofInt 6)), some (.int (Int32.ofInt (i_3 : Int))), some (.ref (54 + 2 * i_3))] [.ref o_19] (zN L X (zhi (zup s5 (54 + 2 * i_3) 6 3)) R G nc ns) Q
              refine zW.run 1 (pc' := 84) (ls' := [some (.ref 7), some (.ref (54 + 2 * i)), some (.int (Int32.ofInt r)), some (.int (Int32.ofInt (1 - (s (54 + 2 * i) 1)))), some (.ref 20), some (.int (Int32.ofInt 6)), some (.int (Int32.ofInt (i_3 : Int))), some (.ref (54 + 2 * i_3))]) (st' := [.ref o_19, .ref o_19]) (σ' := (zN L X (zhi (zup s5 (54 + 2 * i_3) 6 3)) R G nc ns)) (fun n => rfl) ?_
              refine zW.jget (v := (s5 o_19 6)) rfl (zk_sid (by omega)) (fun _ _ _ => rfl) (zup_nj (by omega)) ?_
              refine zW.run 1 (pc' := 89) (ls' := [some (.ref 7), some (.ref (54 + 2 * i)), some (.int (Int32.ofInt r)), some (.int (Int32.ofInt (1 - (s (54 + 2 * i) 1)))), some (.ref 20), some (.int (Int32.ofInt 6)), some (.int (Int32.ofInt (i_3 : Int))), some (.ref (54 + 2 * i_3))]) (st' := [.ref (54 + 2 * i_3), .int (Int32.ofInt (s5 o_19 6)), .ref o_19]) (σ' := (zN L X (zhi (zup s5 (54 + 2 * i_3) 6 3)) R G nc ns)) (fun n => rfl) ?_
              refine zW.jget (v := (s5 (54 + 2 * i_3) 4)) rfl (zk_min (by omega)) (fun _ _ _ => rfl) (zup_nj (by omega)) ?_
              refine zW.jadd rfl ?_
              refine zW.jput rfl (zk_sid (by omega)) rfl ?_
              refine zW.run 1 (pc' := 97) (ls' := [some (.ref 7), some (.ref (54 + 2 * i)), some (.int (Int32.ofInt r)), some (.int (Int32.ofInt (1 - (s (54 + 2 * i) 1)))), some (.ref 20), some (.int (Int32.ofInt 6)), some (.int (Int32.ofInt (i_3 : Int))), some (.ref (54 + 2 * i_3))]) (st' := [.int (Int32.ofInt (1 - (s (54 + 2 * i) 1)))]) (σ' := (zN L X (zhi (zup (zup s5 (54 + 2 * i_3) 6 3) o_19 6 ((s5 o_19 6) + (s5 (54 + 2 * i_3) 4)))) R G nc ns)) (fun n => rfl) ?_
              refine zW.jif_ne rfl (by omega) (fun c21 => ?_) (fun c21 => ?_)
              · skip
                refine zW.jinc (ls' := [some (.ref 7), some (.ref (54 + 2 * i)), some (.int (Int32.ofInt r)), some (.int (Int32.ofInt (1 - (s (54 + 2 * i) 1)))), some (.ref 20), some (.int (Int32.ofInt 6)), some (.int (Int32.ofInt ((i_3 : Int) + 1))), some (.ref (54 + 2 * i_3))]) rfl (Nat.le_of_ble_eq_true rfl) rfl rfl ?_
                refine zW.run 1 (pc' := 21) (ls' := [some (.ref 7), some (.ref (54 + 2 * i)), some (.int (Int32.ofInt r)), some (.int (Int32.ofInt (1 - (s (54 + 2 * i) 1)))), some (.ref 20), some (.int (Int32.ofInt 6)), some (.int (Int32.ofInt ((i_3 : Int) + 1))), some (.ref (54 + 2 * i_3))]) (st' := []) (σ' := (zN L X (zhi (zup (zup s5 (54 + 2 * i_3) 6 3) o_19 6 ((s5 o_19 6) + (s5 (54 + 2 * i_3) 4)))) R G nc ns)) (fun n => rfl) ?_
                have V22 : zV g U F T B ph (zup (zup s5 (54 + 2 * i_3) 6 3) o_19 6 ((s5 o_19 6) + (s5 (54 + 2 * i_3) 4))) := (V_crsh V6 (by omega) (by omega) (by omega) (by omega))
                generalize hs23 : (zup (zup s5 (54 + 2 * i_3) 6 3) o_19 6 ((s5 o_19 6) + (s5 (54 + 2 * i_3) 4))) = s23 at V22 ⊢
                exact ih9 (i_3 + 1) (some (.ref (54 + 2 * i_3))) s23 (zV_mono V22 (by omega) (by omega)) (by omega) (by omega)
              · skip
                refine zW.run 1 (pc' := 101) (ls' := [some (.ref 7), some (.ref (54 + 2 * i)), some (.int (Int32.ofInt r)), some (.int (Int32.ofInt (1 - (s (54 + 2 * i) 1)))), some (.ref 20), some (.int (Int32.ofInt 6)), some (.int (Int32.ofInt (i_3 : Int))), some (.ref (54 + 2 * i_3))]) (st' := [.ref 7]) (σ' := (zN L X (zhi (zup (zup s5 (54 + 2 * i_3) 6 3) o_19 6 ((s5 o_19 6) + (s5 (54 + 2 * i_3) 4)))) R G nc ns)) (fun n => rfl) ?_
                refine zW.getf (v := .ref 21) rfl rfl (zr_7_4 S) ?_
                refine zW.run 1 (pc' := 106) (ls' := [some (.ref 7), some (.ref (54 + 2 * i)), some (.int (Int32.ofInt r)), some (.int (Int32.ofInt (1 - (s (54 + 2 * i) 1)))), some (.ref 20), some (.int (Int32.ofInt 6)), some (.int (Int32.ofInt (i_3 : Int))), some (.ref (54 + 2 * i_3))]) (st' := [.int (Int32.ofInt (-3)), .ref 21]) (σ' := (zN L X (zhi (zup (zup s5 (54 + 2 * i_3) 6 3) o_19 6 ((s5 o_19 6) + (s5 (54 + 2 * i_3) 4)))) R G nc ns)) (fun n => rfl) ?_
                have V24 : zV g U F T B ph (zup (zup s5 (54 + 2 * i_3) 6 3) o_19 6 ((s5 o_19 6) + (s5 (54 + 2 * i_3) 4))) := (V_crsh V6 (by omega) (by omega) (by omega) (by omega))
                generalize hs25 : (zup (zup s5 (54 + 2 * i_3) 6 3) o_19 6 ((s5 o_19 6) + (s5 (54 + 2 * i_3) 4))) = s25 at V24 ⊢
                refine zW.callV rfl (by decide) rfl rfl rfl rfl rfl (Nat.le_of_ble_eq_true rfl) ?_
                refine t_Side_changeMorale S V24 (o := 21) (x := (-3)) (by omega) (by omega) (fun s26 V27 => ?_)
                show zW ro 111 109 [some (.ref 7), some (.ref (54 + 2 * i)), some (.int (Int32.ofInt r)), some (.int (Int32.ofInt (1 - (s (54 + 2 * i) 1)))), some (.ref 20), some (.int (Int32.ofInt 6)), some (.int (Int32.ofInt (i_3 : Int))), some (.ref (54 + 2 * i_3))] [] (zN L X (zhi s26) R G nc ns) Q
                refine zW.jinc (ls' := [some (.ref 7), some (.ref (54 + 2 * i)), some (.int (Int32.ofInt r)), some (.int (Int32.ofInt (1 - (s (54 + 2 * i) 1)))), some (.ref 20), some (.int (Int32.ofInt 6)), some (.int (Int32.ofInt ((i_3 : Int) + 1))), some (.ref (54 + 2 * i_3))]) rfl (Nat.le_of_ble_eq_true rfl) rfl rfl ?_
                refine zW.run 1 (pc' := 21) (ls' := [some (.ref 7), some (.ref (54 + 2 * i)), some (.int (Int32.ofInt r)), some (.int (Int32.ofInt (1 - (s (54 + 2 * i) 1)))), some (.ref 20), some (.int (Int32.ofInt 6)), some (.int (Int32.ofInt ((i_3 : Int) + 1))), some (.ref (54 + 2 * i_3))]) (st' := []) (σ' := (zN L X (zhi s26) R G nc ns)) (fun n => rfl) ?_
                exact ih9 (i_3 + 1) (some (.ref (54 + 2 * i_3))) s26 (zV_mono V27 (by omega) (by omega)) (by omega) (by omega)
            · skip
              show zW ro 111 66 [some (.ref 7), some (.ref (54 + 2 * i)), some (.int (Int32.ofInt r)), some (.int (Int32.ofInt (1 - (s (54 + 2 * i) 1)))), some (.ref 20), some (.int (Int32.ofInt 6)), some (.int (Int32.ofInt (i_3 : Int))), some (.ref (54 + 2 * i_3))] [.int (Int32.ofInt 0)] (zN L X (zhi s5) R G nc ns) Q
              refine zW.run 2 (pc' := 109) (ls' := [some (.ref 7), some (.ref (54 + 2 * i)), some (.int (Int32.ofInt r)), some (.int (Int32.ofInt (1 - (s (54 + 2 * i) 1)))), some (.ref 20), some (.int (Int32.ofInt 6)), some (.int (Int32.ofInt (i_3 : Int))), some (.ref (54 + 2 * i_3))]) (st' := []) (σ' := (zN L X (zhi s5) R G nc ns)) (fun n => rfl) ?_
              refine zW.jinc (ls' := [some (.ref 7), some (.ref (54 + 2 * i)), some (.int (Int32.ofInt r)), some (.int (Int32.ofInt (1 - (s (54 + 2 * i) 1)))), some (.ref 20), some (.int (Int32.ofInt 6)), some (.int (Int32.ofInt ((i_3 : Int) + 1))), some (.ref (54 + 2 * i_3))]) rfl (Nat.le_of_ble_eq_true rfl) rfl rfl ?_
              refine zW.run 1 (pc' := 21) (ls' := [some (.ref 7), some (.ref (54 + 2 * i)), some (.int (Int32.ofInt r)), some (.int (Int32.ofInt (1 - (s (54 + 2 * i) 1)))), some (.ref 20), some (.int (Int32.ofInt 6)), some (.int (Int32.ofInt ((i_3 : Int) + 1))), some (.ref (54 + 2 * i_3))]) (st' := []) (σ' := (zN L X (zhi s5) R G nc ns)) (fun n => rfl) ?_
              exact ih9 (i_3 + 1) (some (.ref (54 + 2 * i_3))) s5 (zV_mono V6 (by omega) (by omega)) (by omega) (by omega)
          · skip
            show zW ro 111 49 [some (.ref 7), some (.ref (54 + 2 * i)), some (.int (Int32.ofInt r)), some (.int (Int32.ofInt (1 - (s (54 + 2 * i) 1)))), some (.ref 20), some (.int (Int32.ofInt 6)), some (.int (Int32.ofInt (i_3 : Int))), some (.ref (54 + 2 * i_3))] [.int (Int32.ofInt 0)] (zN L X (zhi s5) R G nc ns) Q
            refine zW.run 1 (pc' := 109) (ls' := [some (.ref 7), some (.ref (54 + 2 * i)), some (.int (Int32.ofInt r)), some (.int (Int32.ofInt (1 - (s (54 + 2 * i) 1)))), some (.ref 20), some (.int (Int32.ofInt 6)), some (.int (Int32.ofInt (i_3 : Int))), some (.ref (54 + 2 * i_3))]) (st' := []) (σ' := (zN L X (zhi s5) R G nc ns)) (fun n => rfl) ?_
            refine zW.jinc (ls' := [some (.ref 7), some (.ref (54 + 2 * i)), some (.int (Int32.ofInt r)), some (.int (Int32.ofInt (1 - (s (54 + 2 * i) 1)))), some (.ref 20), some (.int (Int32.ofInt 6)), some (.int (Int32.ofInt ((i_3 : Int) + 1))), some (.ref (54 + 2 * i_3))]) rfl (Nat.le_of_ble_eq_true rfl) rfl rfl ?_
            refine zW.run 1 (pc' := 21) (ls' := [some (.ref 7), some (.ref (54 + 2 * i)), some (.int (Int32.ofInt r)), some (.int (Int32.ofInt (1 - (s (54 + 2 * i) 1)))), some (.ref 20), some (.int (Int32.ofInt 6)), some (.int (Int32.ofInt ((i_3 : Int) + 1))), some (.ref (54 + 2 * i_3))]) (st' := []) (σ' := (zN L X (zhi s5) R G nc ns)) (fun n => rfl) ?_
            exact ih9 (i_3 + 1) (some (.ref (54 + 2 * i_3))) s5 (zV_mono V6 (by omega) (by omega)) (by omega) (by omega)
  exact J8 _ 0 none s (zV_mono V (by omega) (by omega)) (by omega) (Nat.lt_succ_self _)
set_option maxHeartbeats 4000000 in
theorem t_Mining_blowUp (S : zSR R) (V : zV g U F T B ph s) {i : Nat} (p0 : i < 6) (p1 : ¬ s (54 + 2 * i) 1 = -1) (p2 : s (54 + 2 * i) 6 = 0 ∨ s (54 + 2 * i) 6 = 1) (p3 : B + 144 ≤ 1000000000) (hQ0 : ∀ (v : Int) (s1 : zJ), zV g U F T (B + 144) ph s1 → Q (.inl (some (.int (Int32.ofInt v)))) (zN L X (zhi s1) R G nc ns)) : zW ro 109 0 (zfst [.ref 7, .ref (54 + 2 * i)] 7) [] (zN L X (zhi s) R G nc ns) Q := by
  show zW ro 109 0 [some (.ref 7), some (.ref (54 + 2 * i)), none, none, none, none, none] [] (zN L X (zhi s) R G nc ns) Q
  have f1 := zA_geo (zV_zA V)
  have hB0 := zV_B V
  refine zW.run 1 (pc' := 1) (ls' := [some (.ref 7), some (.ref (54 + 2 * i)), none, none, none, none, none]) (st' := [.ref (54 + 2 * i)]) (σ' := (zN L X (zhi s) R G nc ns)) (fun n => rfl) ?_
  have f2 := zV_min V (i := i) (by omega)
  refine zW.jget (v := (s (54 + 2 * i) 4)) rfl (zk_min (by omega)) (fun _ _ _ => rfl) rfl ?_
  refine zW.run 1 (pc' := 5) (ls' := [some (.ref 7), some (.ref (54 + 2 * i)), none, none, none, none, none]) (st' := [.int (Int32.ofInt 4), .int (Int32.ofInt (s (54 + 2 * i) 4))]) (σ' := (zN L X (zhi s) R G nc ns)) (fun n => rfl) ?_
  have J4 : ∀ (v3 : Int), (v3 = 0) ∨ (v3 = 1) → zW ro 109 13 [some (.ref 7), some (.ref (54 + 2 * i)), none, none, none, none, none] [.int (Int32.ofInt v3)] (zN L X (zhi s) R G nc ns) Q := by
    intro v3 c5
    refine zW.run 3 (pc' := 16) (ls' := [some (.ref 7), some (.ref (54 + 2 * i)), some (.int (Int32.ofInt v3)), none, none, none, none]) (st' := [.ref (54 + 2 * i), .ref 7]) (σ' := (zN L X (zhi s) R G nc ns)) (fun n => rfl) ?_
    refine zW.callS rfl rfl rfl rfl rfl (Nat.le_of_ble_eq_true rfl) ?_
    refine t_Mining_reachOf S V (i := i) (by omega) (fun v_6 f7 => ?_)
    show zW ro 109 19 [some (.ref 7), some (.ref (54 + 2 * i)), some (.int (Int32.ofInt v3)), none, none, none, none] [.int (Int32.ofInt v_6)] (zN L X (zhi s) R G nc ns) Q
    refine zW.run 2 (pc' := 21) (ls' := [some (.ref 7), some (.ref (54 + 2 * i)), some (.int (Int32.ofInt v3)), some (.int (Int32.ofInt v_6)), none, none, none]) (st' := [.ref (54 + 2 * i)]) (σ' := (zN L X (zhi s) R G nc ns)) (fun n => rfl) ?_
    refine zW.callV rfl (by decide) rfl rfl rfl rfl (zk_min (by omega)) (Nat.le_of_ble_eq_true rfl) ?_
    refine t_Mine_head S V (i := i) (by omega) (fun v_8 f9 => ?_)
    show zW ro 109 24 [some (.ref 7), some (.ref (54 + 2 * i)), some (.int (Int32.ofInt v3)), some (.int (Int32.ofInt v_6)), none, none, none] [.int (Int32.ofInt v_8)] (zN L X (zhi s) R G nc ns) Q
    refine zW.run 3 (pc' := 28) (ls' := [some (.ref 7), some (.ref (54 + 2 * i)), some (.int (Int32.ofInt v3)), some (.int (Int32.ofInt v_6)), some (.int (Int32.ofInt v_8)), none, none]) (st' := [.int (Int32.ofInt 2), .ref (54 + 2 * i)]) (σ' := (zN L X (zhi s) R G nc ns)) (fun n => rfl) ?_
    refine zW.jput rfl (zk_min (by omega)) rfl ?_
    refine zW.run 2 (pc' := 33) (ls' := [some (.ref 7), some (.ref (54 + 2 * i)), some (.int (Int32.ofInt v3)), some (.int (Int32.ofInt v_6)), some (.int (Int32.ofInt v_8)), none, none]) (st' := [.ref (54 + 2 * i), .ref 7]) (σ' := (zN L X (zhi (zup s (54 + 2 * i) 6 2)) R G nc ns)) (fun n => rfl) ?_
    refine zW.jget (v := (s (54 + 2 * i) 1)) rfl (zk_min (by omega)) (fun _ _ _ => rfl) (zup_nj (by omega)) ?_
    refine zW.callV rfl (by decide) rfl rfl rfl rfl rfl (Nat.le_of_ble_eq_true rfl) ?_
    refine t_Siege_of S (x := (s (54 + 2 * i) 1)) (by omega) (fun o_10 f11 => ?_)
    show zW ro 109 39 [some (.ref 7), some (.ref (54 + 2 * i)), some (.int (Int32.ofInt v3)), some (.int (Int32.ofInt v_6)), some (.int (Int32.ofInt v_8)), none, none] [.ref o_10] (zN L X (zhi (zup s (54 + 2 * i) 6 2)) R G nc ns) Q
    refine zW.run 1 (pc' := 40) (ls' := [some (.ref 7), some (.ref (54 + 2 * i)), some (.int (Int32.ofInt v3)), some (.int (Int32.ofInt v_6)), some (.int (Int32.ofInt v_8)), none, none]) (st' := [.ref o_10, .ref o_10]) (σ' := (zN L X (zhi (zup s (54 + 2 * i) 6 2)) R G nc ns)) (fun n => rfl) ?_
    refine zW.jget (v := (s o_10 6)) rfl (zk_sid (by omega)) (fun _ _ _ => rfl) (zup_nj (by omega)) ?_
    refine zW.run 1 (pc' := 44) (ls' := [some (.ref 7), some (.ref (54 + 2 * i)), some (.int (Int32.ofInt v3)), some (.int (Int32.ofInt v_6)), some (.int (Int32.ofInt v_8)), none, none]) (st' := [.ref (54 + 2 * i), .int (Int32.ofInt (s o_10 6)), .ref o_10]) (σ' := (zN L X (zhi (zup s (54 + 2 * i) 6 2)) R G nc ns)) (fun n => rfl) ?_
    refine zW.jget (v := (s (54 + 2 * i) 4)) rfl (zk_min (by omega)) (fun _ _ _ => rfl) (zup_nj (by omega)) ?_
    refine zW.jadd rfl ?_
    refine zW.jput rfl (zk_sid (by omega)) rfl ?_
    refine zW.run 3 (pc' := 54) (ls' := [some (.ref 7), some (.ref (54 + 2 * i)), some (.int (Int32.ofInt v3)), some (.int (Int32.ofInt v_6)), some (.int (Int32.ofInt v_8)), none, none]) (st' := [.int (Int32.ofInt v3), .ref (54 + 2 * i), .ref 7]) (σ' := (zN L X (zhi (zup (zup s (54 + 2 * i) 6 2) o_10 6 ((s o_10 6) + (s (54 + 2 * i) 4)))) R G nc ns)) (fun n => rfl) ?_
    have J13 : ∀ (v12 : Int), (v3 = 0 ∧ v12 = v_6) ∨ (¬ v3 = 0 ∧ v12 = 1) → zW ro 109 62 [some (.ref 7), some (.ref (54 + 2 * i)), some (.int (Int32.ofInt v3)), some (.int (Int32.ofInt v_6)), some (.int (Int32.ofInt v_8)), none, none] [.int (Int32.ofInt v12), .ref (54 + 2 * i), .ref 7] (zN L X (zhi (zup (zup s (54 + 2 * i) 6 2) o_10 6 ((s o_10 6) + (s (54 + 2 * i) 4)))) R G nc ns) Q := by
      intro v12 c14
      have V15 : zV g U F T B ph (zup (zup s (54 + 2 * i) 6 2) o_10 6 ((s o_10 6) + (s (54 + 2 * i) 4))) := (V_blow V (by omega) (by omega) (by omega) (by omega))
      generalize hs16 : (zup (zup s (54 + 2 * i) 6 2) o_10 6 ((s o_10 6) + (s (54 + 2 * i) 4))) = s16 at V15 ⊢
      refine zW.callS rfl rfl rfl rfl rfl (Nat.le_of_ble_eq_true rfl) ?_
      refine t_Mining_crushOthers S V15 (i := i) (r := v12) (by omega) (by omega) (fun s17 V18 => ?_)
      show zW ro 109 65 [some (.ref 7), some (.ref (54 + 2 * i)), some (.int (Int32.ofInt v3)), some (.int (Int32.ofInt v_6)), some (.int (Int32.ofInt v_8)), none, none] [] (zN L X (zhi s17) R G nc ns) Q
      refine zW.run 1 (pc' := 66) (ls' := [some (.ref 7), some (.ref (54 + 2 * i)), some (.int (Int32.ofInt v3)), some (.int (Int32.ofInt v_6)), some (.int (Int32.ofInt v_8)), none, none]) (st' := [.int (Int32.ofInt v3)]) (σ' := (zN L X (zhi s17) R G nc ns)) (fun n => rfl) ?_
      refine zW.jif_eq rfl (by omega) (fun c19 => ?_) (fun c19 => ?_)
      · skip
        refine zW.run 4 (pc' := 77) (ls' := [some (.ref 7), some (.ref (54 + 2 * i)), some (.int (Int32.ofInt v3)), some (.int (Int32.ofInt v_6)), some (.int (Int32.ofInt v_8)), some (.int (Int32.ofInt 0)), some (.int (Int32.ofInt 0))]) (st' := []) (σ' := (zN L X (zhi s17) R G nc ns)) (fun n => rfl) ?_
        have J26 : ∀ m : Nat, ∀ (k_20 : Nat) (a_21 : Int) (w22 : Option Value) (s23 : zJ), zV g U F T (B + k_20) ph s23 → (k_20 : Int) ≤ g 2 → 145 - k_20 < m → zW ro 109 77 [some (.ref 7), some (.ref (54 + 2 * i)), w22, some (.int (Int32.ofInt v_6)), some (.int (Int32.ofInt v_8)), some (.int (Int32.ofInt a_21)), some (.int (Int32.ofInt (k_20 : Int)))] [] (zN L X (zhi s23) R G nc ns) Q := by
          intro m
          induction m with
          | zero => intros; omega
          | succ m ih27 =>
            intro k_20 a_21 w22 s23 V24 c25 hm28
            refine zW.run 2 (pc' := 80) (ls' := [some (.ref 7), some (.ref (54 + 2 * i)), w22, some (.int (Int32.ofInt v_6)), some (.int (Int32.ofInt v_8)), some (.int (Int32.ofInt a_21)), some (.int (Int32.ofInt (k_20 : Int)))]) (st' := [.ref 7, .int (Int32.ofInt (k_20 : Int))]) (σ' := (zN L X (zhi s23) R G nc ns)) (fun n => rfl) ?_
            refine zW.getf (v := .ref 8) rfl rfl (zr_7_0 S) ?_
            have f29 := zA_geo (zV_zA V24)
            refine zW.run 1 (pc' := 86) (ls' := [some (.ref 7), some (.ref (54 + 2 * i)), w22, some (.int (Int32.ofInt v_6)), some (.int (Int32.ofInt v_8)), some (.int (Int32.ofInt a_21)), some (.int (Int32.ofInt (k_20 : Int)))]) (st' := [.int (Int32.ofInt (s23 8 11)), .int (Int32.ofInt (k_20 : Int))]) (σ' := (zN L X (zhi s23) R G nc ns)) (fun n => rfl) ?_
            refine zW.jcmp_ge rfl (by omega) (fun c30 => ?_) (fun c30 => ?_)
            · skip
              refine zW.run 1 (pc' := 135) (ls' := [some (.ref 7), some (.ref (54 + 2 * i)), w22, some (.int (Int32.ofInt v_6)), some (.int (Int32.ofInt v_8)), some (.int (Int32.ofInt a_21)), some (.int (Int32.ofInt (k_20 : Int)))]) (st' := [.int (Int32.ofInt a_21)]) (σ' := (zN L X (zhi s23) R G nc ns)) (fun n => rfl) ?_
              exact zW.jret rfl rfl (hQ0 a_21 s23 (zV_mono V24 (by omega) (by omega)))
            · skip
              refine zW.run 1 (pc' := 90) (ls' := [some (.ref 7), some (.ref (54 + 2 * i)), w22, some (.int (Int32.ofInt v_6)), some (.int (Int32.ofInt v_8)), some (.int (Int32.ofInt a_21)), some (.int (Int32.ofInt (k_20 : Int)))]) (st' := [.ref 7]) (σ' := (zN L X (zhi s23) R G nc ns)) (fun n => rfl) ?_
              refine zW.getf (v := .ref 8) rfl rfl (zr_7_0 S) ?_
              refine zW.run 2 (pc' := 97) (ls' := [some (.ref 7), some (.ref (54 + 2 * i)), w22, some (.int (Int32.ofInt v_6)), some (.int (Int32.ofInt v_8)), some (.int (Int32.ofInt a_21)), some (.int (Int32.ofInt (k_20 : Int)))]) (st' := [.int (Int32.ofInt v_8), .int (Int32.ofInt (k_20 : Int)), .ref 8]) (σ' := (zN L X (zhi s23) R G nc ns)) (fun n => rfl) ?_
              refine zW.callV rfl (by decide) rfl rfl rfl rfl rfl (Nat.le_of_ble_eq_true rfl) ?_
              refine t_Ground_far S (zV_zA V24) (a := (k_20 : Int)) (b := v_8) (by omega) (by omega) (fun v_31 f32 => ?_)
              show zW ro 109 100 [some (.ref 7), some (.ref (54 + 2 * i)), w22, some (.int (Int32.ofInt v_6)), some (.int (Int32.ofInt v_8)), some (.int (Int32.ofInt a_21)), some (.int (Int32.ofInt (k_20 : Int)))] [.int (Int32.ofInt v_31)] (zN L X (zhi s23) R G nc ns) Q
              refine zW.run 1 (pc' := 101) (ls' := [some (.ref 7), some (.ref (54 + 2 * i)), w22, some (.int (Int32.ofInt v_6)), some (.int (Int32.ofInt v_8)), some (.int (Int32.ofInt a_21)), some (.int (Int32.ofInt (k_20 : Int)))]) (st' := [.int (Int32.ofInt v_6), .int (Int32.ofInt v_31)]) (σ' := (zN L X (zhi s23) R G nc ns)) (fun n => rfl) ?_
              refine zW.jcmp_gt rfl (by omega) (fun c33 => ?_) (fun c33 => ?_)
              · skip
                refine zW.jinc (ls' := [some (.ref 7), some (.ref (54 + 2 * i)), w22, some (.int (Int32.ofInt v_6)), some (.int (Int32.ofInt v_8)), some (.int (Int32.ofInt a_21)), some (.int (Int32.ofInt ((k_20 : Int) + 1)))]) rfl (Nat.le_of_ble_eq_true rfl) rfl rfl ?_
                refine zW.run 1 (pc' := 77) (ls' := [some (.ref 7), some (.ref (54 + 2 * i)), w22, some (.int (Int32.ofInt v_6)), some (.int (Int32.ofInt v_8)), some (.int (Int32.ofInt a_21)), some (.int (Int32.ofInt ((k_20 : Int) + 1)))]) (st' := []) (σ' := (zN L X (zhi s23) R G nc ns)) (fun n => rfl) ?_
                exact ih27 (k_20 + 1) a_21 w22 s23 (zV_mono V24 (by omega) (by omega)) (by omega) (by omega)
              · skip
                refine zW.run 5 (pc' := 113) (ls' := [some (.ref 7), some (.ref (54 + 2 * i)), w22, some (.int (Int32.ofInt v_6)), some (.int (Int32.ofInt v_8)), some (.int (Int32.ofInt a_21)), some (.int (Int32.ofInt (k_20 : Int)))]) (st' := [.int (Int32.ofInt v_8), .int (Int32.ofInt (k_20 : Int)), .int (Int32.ofInt (k_20 : Int)), .ref 7, .int (Int32.ofInt a_21)]) (σ' := (zN L X (zhi s23) R G nc ns)) (fun n => rfl) ?_
                have J35 : ∀ (v34 : Int), (¬ (k_20 : Int) = v_8 ∧ v34 = 0) ∨ ((k_20 : Int) = v_8 ∧ v34 = 1) → zW ro 109 121 [some (.ref 7), some (.ref (54 + 2 * i)), w22, some (.int (Int32.ofInt v_6)), some (.int (Int32.ofInt v_8)), some (.int (Int32.ofInt a_21)), some (.int (Int32.ofInt (k_20 : Int)))] [.int (Int32.ofInt v34), .int (Int32.ofInt (k_20 : Int)), .ref 7, .int (Int32.ofInt a_21)] (zN L X (zhi s23) R G nc ns) Q := by
                  intro v34 c36
                  refine zW.callS rfl rfl rfl rfl rfl (Nat.le_of_ble_eq_true rfl) ?_
                  refine t_Mining_shake S V24 (x := (k_20 : Int)) (y := v34) (by omega) (by omega) (by omega) (fun v_37 s38 V39 => ?_)
                  show zW ro 109 124 [some (.ref 7), some (.ref (54 + 2 * i)), w22, some (.int (Int32.ofInt v_6)), some (.int (Int32.ofInt v_8)), some (.int (Int32.ofInt a_21)), some (.int (Int32.ofInt (k_20 : Int)))] [.int (Int32.ofInt v_37), .int (Int32.ofInt a_21)] (zN L X (zhi s38) R G nc ns) Q
                  refine zW.jadd rfl ?_
                  refine zW.run 1 (pc' := 127) (ls' := [some (.ref 7), some (.ref (54 + 2 * i)), w22, some (.int (Int32.ofInt v_6)), some (.int (Int32.ofInt v_8)), some (.int (Int32.ofInt (a_21 + v_37))), some (.int (Int32.ofInt (k_20 : Int)))]) (st' := []) (σ' := (zN L X (zhi s38) R G nc ns)) (fun n => rfl) ?_
                  refine zW.jinc (ls' := [some (.ref 7), some (.ref (54 + 2 * i)), w22, some (.int (Int32.ofInt v_6)), some (.int (Int32.ofInt v_8)), some (.int (Int32.ofInt (a_21 + v_37))), some (.int (Int32.ofInt ((k_20 : Int) + 1)))]) rfl (Nat.le_of_ble_eq_true rfl) rfl rfl ?_
                  refine zW.run 1 (pc' := 77) (ls' := [some (.ref 7), some (.ref (54 + 2 * i)), w22, some (.int (Int32.ofInt v_6)), some (.int (Int32.ofInt v_8)), some (.int (Int32.ofInt (a_21 + v_37))), some (.int (Int32.ofInt ((k_20 : Int) + 1)))]) (st' := []) (σ' := (zN L X (zhi s38) R G nc ns)) (fun n => rfl) ?_
                  exact ih27 (k_20 + 1) (a_21 + v_37) w22 s38 (zV_mono V39 (by omega) (by omega)) (by omega) (by omega)
                refine zW.jcmp_ne rfl (by omega) (fun c40 => ?_) (fun c40 => ?_)
                · skip
                  refine zW.run 1 (pc' := 121) (ls' := [some (.ref 7), some (.ref (54 + 2 * i)), w22, some (.int (Int32.ofInt v_6)), some (.int (Int32.ofInt v_8)), some (.int (Int32.ofInt a_21)), some (.int (Int32.ofInt (k_20 : Int)))]) (st' := [.int (Int32.ofInt 0), .int (Int32.ofInt (k_20 : Int)), .ref 7, .int (Int32.ofInt a_21)]) (σ' := (zN L X (zhi s23) R G nc ns)) (fun n => rfl) ?_
                  exact J35 0 (by omega)
                · skip
                  refine zW.run 2 (pc' := 121) (ls' := [some (.ref 7), some (.ref (54 + 2 * i)), w22, some (.int (Int32.ofInt v_6)), some (.int (Int32.ofInt v_8)), some (.int (Int32.ofInt a_21)), some (.int (Int32.ofInt (k_20 : Int)))]) (st' := [.int (Int32.ofInt 1), .int (Int32.ofInt (k_20 : Int)), .ref 7, .int (Int32.ofInt a_21)]) (σ' := (zN L X (zhi s23) R G nc ns)) (fun n => rfl) ?_
                  exact J35 1 (by omega)
        exact J26 _ 0 0 (some (.int (Int32.ofInt v3))) s17 (zV_mono V18 (by omega) (by omega)) (by omega) (Nat.lt_succ_self _)
      · skip
        refine zW.run 1 (pc' := 70) (ls' := [some (.ref 7), some (.ref (54 + 2 * i)), some (.int (Int32.ofInt v3)), some (.int (Int32.ofInt v_6)), some (.int (Int32.ofInt v_8)), none, none]) (st' := [.int (Int32.ofInt 0)]) (σ' := (zN L X (zhi s17) R G nc ns)) (fun n => rfl) ?_
        exact zW.jret rfl rfl (hQ0 0 s17 (zV_mono V18 (by omega) (by omega)))
    refine zW.jif_eq rfl (by omega) (fun c41 => ?_) (fun c41 => ?_)
    · skip
      refine zW.run 1 (pc' := 62) (ls' := [some (.ref 7), some (.ref (54 + 2 * i)), some (.int (Int32.ofInt v3)), some (.int (Int32.ofInt v_6)), some (.int (Int32.ofInt v_8)), none, none]) (st' := [.int (Int32.ofInt v_6), .ref (54 + 2 * i), .ref 7]) (σ' := (zN L X (zhi (zup (zup s (54 + 2 * i) 6 2) o_10 6 ((s o_10 6) + (s (54 + 2 * i) 4)))) R G nc ns)) (fun n => rfl) ?_
      exact J13 v_6 (by omega)
    · skip
      refine zW.run 2 (pc' := 62) (ls' := [some (.ref 7), some (.ref (54 + 2 * i)), some (.int (Int32.ofInt v3)), some (.int (Int32.ofInt v_6)), some (.int (Int32.ofInt v_8)), none, none]) (st' := [.int (Int32.ofInt 1), .ref (54 + 2 * i), .ref 7]) (σ' := (zN L X (zhi (zup (zup s (54 + 2 * i) 6 2) o_10 6 ((s o_10 6) + (s (54 + 2 * i) 4)))) R G nc ns)) (fun n => rfl) ?_
      exact J13 1 (by omega)
  refine zW.icmp_gt rfl (fun _ => ?_) (fun _ => ?_)
  · skip
    refine zW.run 1 (pc' := 13) (ls' := [some (.ref 7), some (.ref (54 + 2 * i)), none, none, none, none, none]) (st' := [.int (Int32.ofInt 0)]) (σ' := (zN L X (zhi s) R G nc ns)) (fun n => rfl) ?_
    exact J4 0 (by omega)
  · skip
    refine zW.run 2 (pc' := 13) (ls' := [some (.ref 7), some (.ref (54 + 2 * i)), none, none, none, none, none]) (st' := [.int (Int32.ofInt 1)]) (σ' := (zN L X (zhi s) R G nc ns)) (fun n => rfl) ?_
    exact J4 1 (by omega)
end ZB
