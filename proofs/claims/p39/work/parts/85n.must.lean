/-! men are mustered (printed by program) -/
section ZB
variable {ro : Nat → Int32 → zS → Option (zO × zS)} {L : Nat} {X : zK} {s : zJ} {R : Nat → Nat → Option Nat} {G : Nat → Nat → Int64} {nc ns : Nat} {Q : zO → zS → Prop} {g : Nat → Int} {U F T B ph : Int}
set_option maxRecDepth 20000 in
set_option maxHeartbeats 20000000 in
theorem t_Siege_placeCompany (S : zSR R) {x : Int} {y : Int} {d : Int} {n : Nat} (p0 : s 7 8 = (n : Int)) (p1 : n < 12) (hQ0 : ∀ (v : Int), Q (.inl (some (.int (Int32.ofInt v)))) (zN L X (zhi (zup (zup (zup (zup s (42 + n) 0 x) (42 + n) 1 y) (42 + n) 2 d) 7 8 ((s 7 8) + 1))) R G nc ns)) : zW ro 151 0 (zfst [.ref 7, .int (Int32.ofInt x), .int (Int32.ofInt y), .int (Int32.ofInt d)] 4) [] (zN L X (zhi s) R G nc ns) Q := by
  show zW ro 151 0 [some (.ref 7), some (.int (Int32.ofInt x)), some (.int (Int32.ofInt y)), some (.int (Int32.ofInt d))] [] (zN L X (zhi s) R G nc ns) Q
  refine zW.run 1 (pc' := 1) (ls' := [some (.ref 7), some (.int (Int32.ofInt x)), some (.int (Int32.ofInt y)), some (.int (Int32.ofInt d))]) (st' := [.ref 7]) (σ' := (zN L X (zhi s) R G nc ns)) (fun n => rfl) ?_
  refine zW.run 1 (pc' := 4) (ls' := [some (.ref 7), some (.int (Int32.ofInt x)), some (.int (Int32.ofInt y)), some (.int (Int32.ofInt d))]) (st' := [.int (Int32.ofInt (s 7 8))]) (σ' := (zN L X (zhi s) R G nc ns)) (fun n => rfl) ?_
  refine zW.jif_lt rfl (by omega) (fun c1 => ?_) (fun c1 => ?_)
  · skip
    refine zW.run 1 (pc' := 17) (ls' := [some (.ref 7), some (.int (Int32.ofInt x)), some (.int (Int32.ofInt y)), some (.int (Int32.ofInt d))]) (st' := [.int (Int32.ofInt (-1))]) (σ' := (zN L X (zhi s) R G nc ns)) (fun n => rfl) ?_
    exfalso; omega
  · skip
    refine zW.run 1 (pc' := 8) (ls' := [some (.ref 7), some (.int (Int32.ofInt x)), some (.int (Int32.ofInt y)), some (.int (Int32.ofInt d))]) (st' := [.ref 7]) (σ' := (zN L X (zhi s) R G nc ns)) (fun n => rfl) ?_
    refine zW.run 2 (pc' := 13) (ls' := [some (.ref 7), some (.int (Int32.ofInt x)), some (.int (Int32.ofInt y)), some (.int (Int32.ofInt d))]) (st' := [.int (Int32.ofInt 12), .int (Int32.ofInt (s 7 8))]) (σ' := (zN L X (zhi s) R G nc ns)) (fun n => rfl) ?_
    refine zW.jcmp_lt rfl (by omega) (fun c2 => ?_) (fun c2 => ?_)
    · skip
      refine zW.run 1 (pc' := 19) (ls' := [some (.ref 7), some (.int (Int32.ofInt x)), some (.int (Int32.ofInt y)), some (.int (Int32.ofInt d))]) (st' := [.ref 7]) (σ' := (zN L X (zhi s) R G nc ns)) (fun n => rfl) ?_
      refine zW.getf (v := .ref 19) rfl rfl (zr_7_2 S) ?_
      refine zW.run 1 (pc' := 23) (ls' := [some (.ref 7), some (.int (Int32.ofInt x)), some (.int (Int32.ofInt y)), some (.int (Int32.ofInt d))]) (st' := [.ref 7, .ref 19]) (σ' := (zN L X (zhi s) R G nc ns)) (fun n => rfl) ?_
      refine zW.run 1 (pc' := 26) (ls' := [some (.ref 7), some (.int (Int32.ofInt x)), some (.int (Int32.ofInt y)), some (.int (Int32.ofInt d))]) (st' := [.int (Int32.ofInt (s 7 8)), .ref 19]) (σ' := (zN L X (zhi s) R G nc ns)) (fun n => rfl) ?_
      rw [p0]
      refine zW.jaald (n := 12) (v := .ref (42 + n)) rfl rfl (by decide) (by decide) (by omega) (zr_com S (by omega)) ?_
      refine zW.run 3 (pc' := 30) (ls' := [some (.ref 7), some (.int (Int32.ofInt x)), some (.int (Int32.ofInt y)), some (.int (Int32.ofInt d))]) (st' := [.int (Int32.ofInt d), .int (Int32.ofInt y), .int (Int32.ofInt x), .ref (42 + n)]) (σ' := (zN L X (zhi s) R G nc ns)) (fun n => rfl) ?_
      refine zW.callV rfl (by decide) rfl rfl rfl rfl (zk_com (by omega)) (Nat.le_of_ble_eq_true rfl) ?_
      refine t_Company_place S (i := n) (x := x) (y := y) (d := d) (by omega) ?_
      show zW ro 151 33 [some (.ref 7), some (.int (Int32.ofInt x)), some (.int (Int32.ofInt y)), some (.int (Int32.ofInt d))] [] (zN L X (zhi (zup (zup (zup s (42 + n) 0 x) (42 + n) 1 y) (42 + n) 2 d)) R G nc ns) Q
      refine zW.run 2 (pc' := 35) (ls' := [some (.ref 7), some (.int (Int32.ofInt x)), some (.int (Int32.ofInt y)), some (.int (Int32.ofInt d))]) (st' := [.ref 7, .ref 7]) (σ' := (zN L X (zhi (zup (zup (zup s (42 + n) 0 x) (42 + n) 1 y) (42 + n) 2 d)) R G nc ns)) (fun n => rfl) ?_
      refine zW.jget (v := (s 7 8)) rfl rfl (fun _ _ _ => rfl) ((zup_nj (by omega)).trans ((zup_nj (by omega)).trans (zup_nj (by omega)))) ?_
      refine zW.run 1 (pc' := 39) (ls' := [some (.ref 7), some (.int (Int32.ofInt x)), some (.int (Int32.ofInt y)), some (.int (Int32.ofInt d))]) (st' := [.int (Int32.ofInt 1), .int (Int32.ofInt (s 7 8)), .ref 7]) (σ' := (zN L X (zhi (zup (zup (zup s (42 + n) 0 x) (42 + n) 1 y) (42 + n) 2 d)) R G nc ns)) (fun n => rfl) ?_
      refine zW.jadd rfl ?_
      refine zW.jput rfl rfl rfl ?_
      refine zW.run 1 (pc' := 44) (ls' := [some (.ref 7), some (.int (Int32.ofInt x)), some (.int (Int32.ofInt y)), some (.int (Int32.ofInt d))]) (st' := [.ref 7]) (σ' := (zN L X (zhi (zup (zup (zup (zup s (42 + n) 0 x) (42 + n) 1 y) (42 + n) 2 d) 7 8 ((s 7 8) + 1))) R G nc ns)) (fun n => rfl) ?_
      refine zW.jget (v := ((s 7 8) + 1)) rfl rfl (fun _ _ _ => rfl) zup_ej ?_
      refine zW.run 1 (pc' := 48) (ls' := [some (.ref 7), some (.int (Int32.ofInt x)), some (.int (Int32.ofInt y)), some (.int (Int32.ofInt d))]) (st' := [.int (Int32.ofInt 1), .int (Int32.ofInt ((s 7 8) + 1))]) (σ' := (zN L X (zhi (zup (zup (zup (zup s (42 + n) 0 x) (42 + n) 1 y) (42 + n) 2 d) 7 8 ((s 7 8) + 1))) R G nc ns)) (fun n => rfl) ?_
      refine zW.jsub rfl ?_
      exact zW.jret rfl rfl (hQ0 (((s 7 8) + 1) - 1))
    · skip
      refine zW.run 1 (pc' := 17) (ls' := [some (.ref 7), some (.int (Int32.ofInt x)), some (.int (Int32.ofInt y)), some (.int (Int32.ofInt d))]) (st' := [.int (Int32.ofInt (-1))]) (σ' := (zN L X (zhi s) R G nc ns)) (fun n => rfl) ?_
      exfalso; omega
set_option maxRecDepth 20000 in
set_option maxHeartbeats 20000000 in
theorem t_Siege_placeGun (S : zSR R) {x : Int} {y : Int} {d : Int} {n : Nat} (p0 : s 7 7 = (n : Int)) (p1 : n < 16) (hQ0 : ∀ (v : Int), Q (.inl (some (.int (Int32.ofInt v)))) (zN L X (zhi (zup (zup (zup (zup s (26 + n) 0 x) (26 + n) 1 y) (26 + n) 2 d) 7 7 ((s 7 7) + 1))) R G nc ns)) : zW ro 152 0 (zfst [.ref 7, .int (Int32.ofInt x), .int (Int32.ofInt y), .int (Int32.ofInt d)] 4) [] (zN L X (zhi s) R G nc ns) Q := by
  show zW ro 152 0 [some (.ref 7), some (.int (Int32.ofInt x)), some (.int (Int32.ofInt y)), some (.int (Int32.ofInt d))] [] (zN L X (zhi s) R G nc ns) Q
  refine zW.run 1 (pc' := 1) (ls' := [some (.ref 7), some (.int (Int32.ofInt x)), some (.int (Int32.ofInt y)), some (.int (Int32.ofInt d))]) (st' := [.ref 7]) (σ' := (zN L X (zhi s) R G nc ns)) (fun n => rfl) ?_
  refine zW.run 1 (pc' := 4) (ls' := [some (.ref 7), some (.int (Int32.ofInt x)), some (.int (Int32.ofInt y)), some (.int (Int32.ofInt d))]) (st' := [.int (Int32.ofInt (s 7 7))]) (σ' := (zN L X (zhi s) R G nc ns)) (fun n => rfl) ?_
  refine zW.jif_lt rfl (by omega) (fun c1 => ?_) (fun c1 => ?_)
  · skip
    refine zW.run 1 (pc' := 17) (ls' := [some (.ref 7), some (.int (Int32.ofInt x)), some (.int (Int32.ofInt y)), some (.int (Int32.ofInt d))]) (st' := [.int (Int32.ofInt (-1))]) (σ' := (zN L X (zhi s) R G nc ns)) (fun n => rfl) ?_
    exfalso; omega
  · skip
    refine zW.run 1 (pc' := 8) (ls' := [some (.ref 7), some (.int (Int32.ofInt x)), some (.int (Int32.ofInt y)), some (.int (Int32.ofInt d))]) (st' := [.ref 7]) (σ' := (zN L X (zhi s) R G nc ns)) (fun n => rfl) ?_
    refine zW.run 2 (pc' := 13) (ls' := [some (.ref 7), some (.int (Int32.ofInt x)), some (.int (Int32.ofInt y)), some (.int (Int32.ofInt d))]) (st' := [.int (Int32.ofInt 16), .int (Int32.ofInt (s 7 7))]) (σ' := (zN L X (zhi s) R G nc ns)) (fun n => rfl) ?_
    refine zW.jcmp_lt rfl (by omega) (fun c2 => ?_) (fun c2 => ?_)
    · skip
      refine zW.run 1 (pc' := 19) (ls' := [some (.ref 7), some (.int (Int32.ofInt x)), some (.int (Int32.ofInt y)), some (.int (Int32.ofInt d))]) (st' := [.ref 7]) (σ' := (zN L X (zhi s) R G nc ns)) (fun n => rfl) ?_
      refine zW.getf (v := .ref 18) rfl rfl (zr_7_1 S) ?_
      refine zW.run 1 (pc' := 23) (ls' := [some (.ref 7), some (.int (Int32.ofInt x)), some (.int (Int32.ofInt y)), some (.int (Int32.ofInt d))]) (st' := [.ref 7, .ref 18]) (σ' := (zN L X (zhi s) R G nc ns)) (fun n => rfl) ?_
      refine zW.run 1 (pc' := 26) (ls' := [some (.ref 7), some (.int (Int32.ofInt x)), some (.int (Int32.ofInt y)), some (.int (Int32.ofInt d))]) (st' := [.int (Int32.ofInt (s 7 7)), .ref 18]) (σ' := (zN L X (zhi s) R G nc ns)) (fun n => rfl) ?_
      rw [p0]
      refine zW.jaald (n := 16) (v := .ref (26 + n)) rfl rfl (by decide) (by decide) (by omega) (zr_gun S (by omega)) ?_
      refine zW.run 3 (pc' := 30) (ls' := [some (.ref 7), some (.int (Int32.ofInt x)), some (.int (Int32.ofInt y)), some (.int (Int32.ofInt d))]) (st' := [.int (Int32.ofInt d), .int (Int32.ofInt y), .int (Int32.ofInt x), .ref (26 + n)]) (σ' := (zN L X (zhi s) R G nc ns)) (fun n => rfl) ?_
      refine zW.callV rfl (by decide) rfl rfl rfl rfl (zk_gun (by omega)) (Nat.le_of_ble_eq_true rfl) ?_
      refine t_Gun_place S (i := n) (x := x) (y := y) (d := d) (by omega) ?_
      show zW ro 152 33 [some (.ref 7), some (.int (Int32.ofInt x)), some (.int (Int32.ofInt y)), some (.int (Int32.ofInt d))] [] (zN L X (zhi (zup (zup (zup s (26 + n) 0 x) (26 + n) 1 y) (26 + n) 2 d)) R G nc ns) Q
      refine zW.run 2 (pc' := 35) (ls' := [some (.ref 7), some (.int (Int32.ofInt x)), some (.int (Int32.ofInt y)), some (.int (Int32.ofInt d))]) (st' := [.ref 7, .ref 7]) (σ' := (zN L X (zhi (zup (zup (zup s (26 + n) 0 x) (26 + n) 1 y) (26 + n) 2 d)) R G nc ns)) (fun n => rfl) ?_
      refine zW.jget (v := (s 7 7)) rfl rfl (fun _ _ _ => rfl) ((zup_nj (by omega)).trans ((zup_nj (by omega)).trans (zup_nj (by omega)))) ?_
      refine zW.run 1 (pc' := 39) (ls' := [some (.ref 7), some (.int (Int32.ofInt x)), some (.int (Int32.ofInt y)), some (.int (Int32.ofInt d))]) (st' := [.int (Int32.ofInt 1), .int (Int32.ofInt (s 7 7)), .ref 7]) (σ' := (zN L X (zhi (zup (zup (zup s (26 + n) 0 x) (26 + n) 1 y) (26 + n) 2 d)) R G nc ns)) (fun n => rfl) ?_
      refine zW.jadd rfl ?_
      refine zW.jput rfl rfl rfl ?_
      refine zW.run 1 (pc' := 44) (ls' := [some (.ref 7), some (.int (Int32.ofInt x)), some (.int (Int32.ofInt y)), some (.int (Int32.ofInt d))]) (st' := [.ref 7]) (σ' := (zN L X (zhi (zup (zup (zup (zup s (26 + n) 0 x) (26 + n) 1 y) (26 + n) 2 d) 7 7 ((s 7 7) + 1))) R G nc ns)) (fun n => rfl) ?_
      refine zW.jget (v := ((s 7 7) + 1)) rfl rfl (fun _ _ _ => rfl) zup_ej ?_
      refine zW.run 1 (pc' := 48) (ls' := [some (.ref 7), some (.int (Int32.ofInt x)), some (.int (Int32.ofInt y)), some (.int (Int32.ofInt d))]) (st' := [.int (Int32.ofInt 1), .int (Int32.ofInt ((s 7 7) + 1))]) (σ' := (zN L X (zhi (zup (zup (zup (zup s (26 + n) 0 x) (26 + n) 1 y) (26 + n) 2 d) 7 7 ((s 7 7) + 1))) R G nc ns)) (fun n => rfl) ?_
      refine zW.jsub rfl ?_
      exact zW.jret rfl rfl (hQ0 (((s 7 7) + 1) - 1))
    · skip
      refine zW.run 1 (pc' := 17) (ls' := [some (.ref 7), some (.int (Int32.ofInt x)), some (.int (Int32.ofInt y)), some (.int (Int32.ofInt d))]) (st' := [.int (Int32.ofInt (-1))]) (σ' := (zN L X (zhi s) R G nc ns)) (fun n => rfl) ?_
      exfalso; omega
set_option maxRecDepth 20000 in
set_option maxHeartbeats 20000000 in
theorem t_Siege_homeOf_0 (S : zSR R)   (hQ0 : Q (.inl (some (.int (Int32.ofInt (s 8 12))))) (zN L X (zhi s) R G nc ns)) : zW ro 138 0 (zfst [.ref 7, .int (Int32.ofInt 0)] 2) [] (zN L X (zhi s) R G nc ns) Q := by
  show zW ro 138 0 [some (.ref 7), some (.int (Int32.ofInt 0))] [] (zN L X (zhi s) R G nc ns) Q
  refine zW.run 4 (pc' := 16) (ls' := [some (.ref 7), some (.int (Int32.ofInt 0))]) (st' := [.ref 7]) (σ' := (zN L X (zhi s) R G nc ns)) (fun n => rfl) ?_
  refine zW.getf (v := .ref 8) rfl rfl (zr_7_0 S) ?_
  refine zW.run 1 (pc' := 22) (ls' := [some (.ref 7), some (.int (Int32.ofInt 0))]) (st' := [.int (Int32.ofInt (s 8 12))]) (σ' := (zN L X (zhi s) R G nc ns)) (fun n => rfl) ?_
  exact zW.jret rfl rfl hQ0
set_option maxRecDepth 20000 in
set_option maxHeartbeats 20000000 in
theorem t_Siege_homeOf_1 (S : zSR R)   (hQ0 : Q (.inl (some (.int (Int32.ofInt (s 8 13))))) (zN L X (zhi s) R G nc ns)) : zW ro 138 0 (zfst [.ref 7, .int (Int32.ofInt 1)] 2) [] (zN L X (zhi s) R G nc ns) Q := by
  show zW ro 138 0 [some (.ref 7), some (.int (Int32.ofInt 1))] [] (zN L X (zhi s) R G nc ns) Q
  refine zW.run 4 (pc' := 6) (ls' := [some (.ref 7), some (.int (Int32.ofInt 1))]) (st' := [.ref 7]) (σ' := (zN L X (zhi s) R G nc ns)) (fun n => rfl) ?_
  refine zW.getf (v := .ref 8) rfl rfl (zr_7_0 S) ?_
  refine zW.run 2 (pc' := 22) (ls' := [some (.ref 7), some (.int (Int32.ofInt 1))]) (st' := [.int (Int32.ofInt (s 8 13))]) (σ' := (zN L X (zhi s) R G nc ns)) (fun n => rfl) ?_
  exact zW.jret rfl rfl hQ0
set_option maxRecDepth 20000 in
set_option maxHeartbeats 20000000 in
theorem t_Siege_menOf_w (S : zSR R) {x : Int}  (hQ0 : ∀ (v : Int), Q (.inl (some (.int (Int32.ofInt v)))) (zN L X (zhi s) R G nc ns)) : zW ro 147 0 (zfst [.ref 7, .int (Int32.ofInt x)] 7) [] (zN L X (zhi s) R G nc ns) Q := by
  show zW ro 147 0 [some (.ref 7), some (.int (Int32.ofInt x)), none, none, none, none, none] [] (zN L X (zhi s) R G nc ns) Q
  refine zW.run 3 (pc' := 3) (ls' := [some (.ref 7), some (.int (Int32.ofInt x)), some (.int (Int32.ofInt 0)), none, none, none, none]) (st' := [.ref 7]) (σ' := (zN L X (zhi s) R G nc ns)) (fun n => rfl) ?_
  refine zW.getf (v := .ref 19) rfl rfl (zr_7_2 S) ?_
  refine zW.run 2 (pc' := 8) (ls' := [some (.ref 7), some (.int (Int32.ofInt x)), some (.int (Int32.ofInt 0)), some (.ref 19), none, none, none]) (st' := [.ref 19]) (σ' := (zN L X (zhi s) R G nc ns)) (fun n => rfl) ?_
  refine zW.alen rfl rfl (by decide) ?_
  show zW ro 147 9 [some (.ref 7), some (.int (Int32.ofInt x)), some (.int (Int32.ofInt 0)), some (.ref 19), none, none, none] [.int (Int32.ofInt 12)] (zN L X (zhi s) R G nc ns) Q
  refine zW.run 3 (pc' := 14) (ls' := [some (.ref 7), some (.int (Int32.ofInt x)), some (.int (Int32.ofInt 0)), some (.ref 19), some (.int (Int32.ofInt 12)), some (.int (Int32.ofInt 0)), none]) (st' := []) (σ' := (zN L X (zhi s) R G nc ns)) (fun n => rfl) ?_
  have J5 : ∀ m : Nat, ∀ (i_1 : Nat) (a_2 : Int) (w3 : Option Value), i_1 ≤ 12 → 13 - i_1 < m → zW ro 147 14 [some (.ref 7), some (.int (Int32.ofInt x)), some (.int (Int32.ofInt a_2)), some (.ref 19), some (.int (Int32.ofInt 12)), some (.int (Int32.ofInt (i_1 : Int))), w3] [] (zN L X (zhi s) R G nc ns) Q := by
    intro m
    induction m with
    | zero => intros; omega
    | succ m ih6 =>
      intro i_1 a_2 w3 c4 hm7
      refine zW.run 2 (pc' := 18) (ls' := [some (.ref 7), some (.int (Int32.ofInt x)), some (.int (Int32.ofInt a_2)), some (.ref 19), some (.int (Int32.ofInt 12)), some (.int (Int32.ofInt (i_1 : Int))), w3]) (st' := [.int (Int32.ofInt 12), .int (Int32.ofInt (i_1 : Int))]) (σ' := (zN L X (zhi s) R G nc ns)) (fun n => rfl) ?_
      refine zW.jcmp_ge rfl (by omega) (fun c8 => ?_) (fun c8 => ?_)
      · skip
        refine zW.run 1 (pc' := 51) (ls' := [some (.ref 7), some (.int (Int32.ofInt x)), some (.int (Int32.ofInt a_2)), some (.ref 19), some (.int (Int32.ofInt 12)), some (.int (Int32.ofInt (i_1 : Int))), w3]) (st' := [.int (Int32.ofInt a_2)]) (σ' := (zN L X (zhi s) R G nc ns)) (fun n => rfl) ?_
        exact zW.jret rfl rfl (hQ0 a_2)
      · skip
        refine zW.run 2 (pc' := 24) (ls' := [some (.ref 7), some (.int (Int32.ofInt x)), some (.int (Int32.ofInt a_2)), some (.ref 19), some (.int (Int32.ofInt 12)), some (.int (Int32.ofInt (i_1 : Int))), w3]) (st' := [.int (Int32.ofInt (i_1 : Int)), .ref 19]) (σ' := (zN L X (zhi s) R G nc ns)) (fun n => rfl) ?_
        refine zW.jaald (n := 12) (v := .ref (42 + i_1)) rfl rfl (by decide) (by decide) (by omega) (zr_com S (by omega)) ?_
        refine zW.run 2 (pc' := 29) (ls' := [some (.ref 7), some (.int (Int32.ofInt x)), some (.int (Int32.ofInt a_2)), some (.ref 19), some (.int (Int32.ofInt 12)), some (.int (Int32.ofInt (i_1 : Int))), some (.ref (42 + i_1))]) (st' := [.ref (42 + i_1)]) (σ' := (zN L X (zhi s) R G nc ns)) (fun n => rfl) ?_
        refine zW.jget (v := (s (42 + i_1) 0)) rfl (zk_com (by omega)) (fun _ _ _ => rfl) rfl ?_
        refine zW.run 1 (pc' := 33) (ls' := [some (.ref 7), some (.int (Int32.ofInt x)), some (.int (Int32.ofInt a_2)), some (.ref 19), some (.int (Int32.ofInt 12)), some (.int (Int32.ofInt (i_1 : Int))), some (.ref (42 + i_1))]) (st' := [.int (Int32.ofInt x), .int (Int32.ofInt (s (42 + i_1) 0))]) (σ' := (zN L X (zhi s) R G nc ns)) (fun n => rfl) ?_
        have J10 : ∀ (v9 : Int), (v9 = a_2) ∨ (v9 = (a_2 + (s (42 + i_1) 2))) → zW ro 147 44 [some (.ref 7), some (.int (Int32.ofInt x)), some (.int (Int32.ofInt v9)), some (.ref 19), some (.int (Int32.ofInt 12)), some (.int (Int32.ofInt (i_1 : Int))), some (.ref (42 + i_1))] [] (zN L X (zhi s) R G nc ns) Q := by
          intro v9 c11
          refine zW.jinc (ls' := [some (.ref 7), some (.int (Int32.ofInt x)), some (.int (Int32.ofInt v9)), some (.ref 19), some (.int (Int32.ofInt 12)), some (.int (Int32.ofInt ((i_1 : Int) + 1))), some (.ref (42 + i_1))]) rfl (Nat.le_of_ble_eq_true rfl) rfl rfl ?_
          refine zW.run 1 (pc' := 14) (ls' := [some (.ref 7), some (.int (Int32.ofInt x)), some (.int (Int32.ofInt v9)), some (.ref 19), some (.int (Int32.ofInt 12)), some (.int (Int32.ofInt ((i_1 : Int) + 1))), some (.ref (42 + i_1))]) (st' := []) (σ' := (zN L X (zhi s) R G nc ns)) (fun n => rfl) ?_
          exact ih6 (i_1 + 1) v9 (some (.ref (42 + i_1))) (by omega) (by omega)
        refine zW.icmp_ne rfl (fun _ => ?_) (fun _ => ?_)
        · skip
          exact J10 a_2 (by omega)
        · skip
          refine zW.run 2 (pc' := 39) (ls' := [some (.ref 7), some (.int (Int32.ofInt x)), some (.int (Int32.ofInt a_2)), some (.ref 19), some (.int (Int32.ofInt 12)), some (.int (Int32.ofInt (i_1 : Int))), some (.ref (42 + i_1))]) (st' := [.ref (42 + i_1), .int (Int32.ofInt a_2)]) (σ' := (zN L X (zhi s) R G nc ns)) (fun n => rfl) ?_
          refine zW.jget (v := (s (42 + i_1) 2)) rfl (zk_com (by omega)) (fun _ _ _ => rfl) rfl ?_
          refine zW.jadd rfl ?_
          refine zW.run 1 (pc' := 44) (ls' := [some (.ref 7), some (.int (Int32.ofInt x)), some (.int (Int32.ofInt (a_2 + (s (42 + i_1) 2)))), some (.ref 19), some (.int (Int32.ofInt 12)), some (.int (Int32.ofInt (i_1 : Int))), some (.ref (42 + i_1))]) (st' := []) (σ' := (zN L X (zhi s) R G nc ns)) (fun n => rfl) ?_
          exact J10 (a_2 + (s (42 + i_1) 2)) (by omega)
  exact J5 _ 0 0 none (by omega) (Nat.lt_succ_self _)
set_option maxRecDepth 20000 in
set_option maxHeartbeats 20000000 in
theorem t_Siege_companiesOf_n (S : zSR R) {x : Int} (p0 : -2147483648 ≤ x ∧ x < 2147483648) (p1 : ∀ i : Nat, i < 12 → (-1 ≤ s (42 + i) 0 ∧ s (42 + i) 0 ≤ 1) ∧ (0 ≤ s (42 + i) 2 ∧ s (42 + i) 2 ≤ 200)) (hQ0 : ∀ (v : Int), 0 ≤ v ∧ v ≤ 12 → v = zco s x 12 → Q (.inl (some (.int (Int32.ofInt v)))) (zN L X (zhi s) R G nc ns)) : zW ro 130 0 (zfst [.ref 7, .int (Int32.ofInt x)] 7) [] (zN L X (zhi s) R G nc ns) Q := by
  show zW ro 130 0 [some (.ref 7), some (.int (Int32.ofInt x)), none, none, none, none, none] [] (zN L X (zhi s) R G nc ns) Q
  refine zW.run 3 (pc' := 3) (ls' := [some (.ref 7), some (.int (Int32.ofInt x)), some (.int (Int32.ofInt 0)), none, none, none, none]) (st' := [.ref 7]) (σ' := (zN L X (zhi s) R G nc ns)) (fun n => rfl) ?_
  refine zW.getf (v := .ref 19) rfl rfl (zr_7_2 S) ?_
  refine zW.run 2 (pc' := 8) (ls' := [some (.ref 7), some (.int (Int32.ofInt x)), some (.int (Int32.ofInt 0)), some (.ref 19), none, none, none]) (st' := [.ref 19]) (σ' := (zN L X (zhi s) R G nc ns)) (fun n => rfl) ?_
  refine zW.alen rfl rfl (by decide) ?_
  show zW ro 130 9 [some (.ref 7), some (.int (Int32.ofInt x)), some (.int (Int32.ofInt 0)), some (.ref 19), none, none, none] [.int (Int32.ofInt 12)] (zN L X (zhi s) R G nc ns) Q
  refine zW.run 3 (pc' := 14) (ls' := [some (.ref 7), some (.int (Int32.ofInt x)), some (.int (Int32.ofInt 0)), some (.ref 19), some (.int (Int32.ofInt 12)), some (.int (Int32.ofInt 0)), none]) (st' := []) (σ' := (zN L X (zhi s) R G nc ns)) (fun n => rfl) ?_
  have J7 : ∀ m : Nat, ∀ (i_1 : Nat) (a_2 : Int) (w3 : Option Value), i_1 ≤ 12 → 0 ≤ a_2 ∧ a_2 ≤ i_1 → a_2 = zco s x i_1 → 13 - i_1 < m → zW ro 130 14 [some (.ref 7), some (.int (Int32.ofInt x)), some (.int (Int32.ofInt a_2)), some (.ref 19), some (.int (Int32.ofInt 12)), some (.int (Int32.ofInt (i_1 : Int))), w3] [] (zN L X (zhi s) R G nc ns) Q := by
    intro m
    induction m with
    | zero => intros; omega
    | succ m ih8 =>
      intro i_1 a_2 w3 c4 c5 c6 hm9
      have hz := @zco_s s x i_1
      refine zW.run 2 (pc' := 18) (ls' := [some (.ref 7), some (.int (Int32.ofInt x)), some (.int (Int32.ofInt a_2)), some (.ref 19), some (.int (Int32.ofInt 12)), some (.int (Int32.ofInt (i_1 : Int))), w3]) (st' := [.int (Int32.ofInt 12), .int (Int32.ofInt (i_1 : Int))]) (σ' := (zN L X (zhi s) R G nc ns)) (fun n => rfl) ?_
      refine zW.jcmp_ge rfl (by omega) (fun c10 => ?_) (fun c10 => ?_)
      · skip
        refine zW.run 1 (pc' := 54) (ls' := [some (.ref 7), some (.int (Int32.ofInt x)), some (.int (Int32.ofInt a_2)), some (.ref 19), some (.int (Int32.ofInt 12)), some (.int (Int32.ofInt (i_1 : Int))), w3]) (st' := [.int (Int32.ofInt a_2)]) (σ' := (zN L X (zhi s) R G nc ns)) (fun n => rfl) ?_
        exact zW.jret rfl rfl (hQ0 a_2 (by omega) (by rw [show 12 = i_1 by omega]; omega))
      · skip
        have hr9 := p1 i_1 (by omega)
        refine zW.run 2 (pc' := 24) (ls' := [some (.ref 7), some (.int (Int32.ofInt x)), some (.int (Int32.ofInt a_2)), some (.ref 19), some (.int (Int32.ofInt 12)), some (.int (Int32.ofInt (i_1 : Int))), w3]) (st' := [.int (Int32.ofInt (i_1 : Int)), .ref 19]) (σ' := (zN L X (zhi s) R G nc ns)) (fun n => rfl) ?_
        refine zW.jaald (n := 12) (v := .ref (42 + i_1)) rfl rfl (by decide) (by decide) (by omega) (zr_com S (by omega)) ?_
        refine zW.run 2 (pc' := 29) (ls' := [some (.ref 7), some (.int (Int32.ofInt x)), some (.int (Int32.ofInt a_2)), some (.ref 19), some (.int (Int32.ofInt 12)), some (.int (Int32.ofInt (i_1 : Int))), some (.ref (42 + i_1))]) (st' := [.ref (42 + i_1)]) (σ' := (zN L X (zhi s) R G nc ns)) (fun n => rfl) ?_
        refine zW.jget (v := (s (42 + i_1) 0)) rfl (zk_com (by omega)) (fun _ _ _ => rfl) rfl ?_
        refine zW.run 1 (pc' := 33) (ls' := [some (.ref 7), some (.int (Int32.ofInt x)), some (.int (Int32.ofInt a_2)), some (.ref 19), some (.int (Int32.ofInt 12)), some (.int (Int32.ofInt (i_1 : Int))), some (.ref (42 + i_1))]) (st' := [.int (Int32.ofInt x), .int (Int32.ofInt (s (42 + i_1) 0))]) (σ' := (zN L X (zhi s) R G nc ns)) (fun n => rfl) ?_
        have J12 : ∀ (v11 : Int), (¬ (s (42 + i_1) 0) = x ∧ v11 = a_2) ∨ ((s (42 + i_1) 0) = x ∧ (s (42 + i_1) 2) ≤ 0 ∧ v11 = a_2) ∨ ((s (42 + i_1) 0) = x ∧ (s (42 + i_1) 2) > 0 ∧ v11 = (a_2 + 1)) → zW ro 130 47 [some (.ref 7), some (.int (Int32.ofInt x)), some (.int (Int32.ofInt v11)), some (.ref 19), some (.int (Int32.ofInt 12)), some (.int (Int32.ofInt (i_1 : Int))), some (.ref (42 + i_1))] [] (zN L X (zhi s) R G nc ns) Q := by
          intro v11 c13
          refine zW.jinc (ls' := [some (.ref 7), some (.int (Int32.ofInt x)), some (.int (Int32.ofInt v11)), some (.ref 19), some (.int (Int32.ofInt 12)), some (.int (Int32.ofInt ((i_1 : Int) + 1))), some (.ref (42 + i_1))]) rfl (Nat.le_of_ble_eq_true rfl) rfl rfl ?_
          refine zW.run 1 (pc' := 14) (ls' := [some (.ref 7), some (.int (Int32.ofInt x)), some (.int (Int32.ofInt v11)), some (.ref 19), some (.int (Int32.ofInt 12)), some (.int (Int32.ofInt ((i_1 : Int) + 1))), some (.ref (42 + i_1))]) (st' := []) (σ' := (zN L X (zhi s) R G nc ns)) (fun n => rfl) ?_
          exact ih8 (i_1 + 1) v11 (some (.ref (42 + i_1))) (by omega) (by omega) (by omega) (by omega)
        refine zW.jcmp_ne rfl (by omega) (fun c14 => ?_) (fun c14 => ?_)
        · skip
          exact J12 a_2 (by omega)
        · skip
          refine zW.run 1 (pc' := 38) (ls' := [some (.ref 7), some (.int (Int32.ofInt x)), some (.int (Int32.ofInt a_2)), some (.ref 19), some (.int (Int32.ofInt 12)), some (.int (Int32.ofInt (i_1 : Int))), some (.ref (42 + i_1))]) (st' := [.ref (42 + i_1)]) (σ' := (zN L X (zhi s) R G nc ns)) (fun n => rfl) ?_
          refine zW.jget (v := (s (42 + i_1) 2)) rfl (zk_com (by omega)) (fun _ _ _ => rfl) rfl ?_
          refine zW.jif_le rfl (by omega) (fun c15 => ?_) (fun c15 => ?_)
          · skip
            exact J12 a_2 (by omega)
          · skip
            refine zW.jinc (ls' := [some (.ref 7), some (.int (Int32.ofInt x)), some (.int (Int32.ofInt (a_2 + 1))), some (.ref 19), some (.int (Int32.ofInt 12)), some (.int (Int32.ofInt (i_1 : Int))), some (.ref (42 + i_1))]) rfl (Nat.le_of_ble_eq_true rfl) rfl rfl ?_
            exact J12 (a_2 + 1) (by omega)
  exact J7 _ 0 0 none (by omega) (by omega) (rfl) (Nat.lt_succ_self _)
set_option maxRecDepth 20000 in
set_option maxHeartbeats 20000000 in
theorem t_S_begin (S : zSR R)  (p0 : s 7 11 = 0) (p1 : 1 ≤ zco s 0 12 ∧ 1 ≤ zco s 1 12) (p2 : ∀ i : Nat, i < 12 → (-1 ≤ s (42 + i) 0 ∧ s (42 + i) 0 ≤ 1) ∧ (0 ≤ s (42 + i) 2 ∧ s (42 + i) 2 ≤ 200)) (hQ0 : ∀ (v : Int), Q (.inl (some (.int (Int32.ofInt v)))) (zN L X (zhi (zup (zup (zup s 7 11 1) 21 10 (s 21 0)) 22 10 (s 22 0))) R G nc ns)) : zW ro 2 0 (zfst [.ref 6] 1) [] (zN L X (zhi s) R G nc ns) Q := by
  show zW ro 2 0 [some (.ref 6)] [] (zN L X (zhi s) R G nc ns) Q
  refine zW.run 1 (pc' := 1) (ls' := [some (.ref 6)]) (st' := [.ref 6]) (σ' := (zN L X (zhi s) R G nc ns)) (fun n => rfl) ?_
  refine zW.getf (v := .ref 7) rfl rfl (zr_6_0 S) ?_
  refine zW.run 1 (pc' := 7) (ls' := [some (.ref 6)]) (st' := [.int (Int32.ofInt (s 7 11))]) (σ' := (zN L X (zhi s) R G nc ns)) (fun n => rfl) ?_
  refine zW.jif_ne rfl (by omega) (fun c1 => ?_) (fun c1 => ?_)
  · skip
    exfalso
    omega
  · skip
    refine zW.run 1 (pc' := 11) (ls' := [some (.ref 6)]) (st' := [.ref 6]) (σ' := (zN L X (zhi s) R G nc ns)) (fun n => rfl) ?_
    refine zW.getf (v := .ref 7) rfl rfl (zr_6_0 S) ?_
    refine zW.run 1 (pc' := 15) (ls' := [some (.ref 6)]) (st' := [.int (Int32.ofInt 0), .ref 7]) (σ' := (zN L X (zhi s) R G nc ns)) (fun n => rfl) ?_
    refine zW.callV rfl (by decide) rfl rfl rfl rfl rfl (Nat.le_of_ble_eq_true rfl) ?_
    refine t_Siege_companiesOf_n S (x := 0) (by omega) (p2) (fun v_2 f3 f4 => ?_)
    show zW ro 2 18 [some (.ref 6)] [.int (Int32.ofInt v_2)] (zN L X (zhi s) R G nc ns) Q
    refine zW.jif_eq rfl (by omega) (fun c5 => ?_) (fun c5 => ?_)
    · skip
      exfalso
      omega
    · skip
      refine zW.run 1 (pc' := 22) (ls' := [some (.ref 6)]) (st' := [.ref 6]) (σ' := (zN L X (zhi s) R G nc ns)) (fun n => rfl) ?_
      refine zW.getf (v := .ref 7) rfl rfl (zr_6_0 S) ?_
      refine zW.run 1 (pc' := 26) (ls' := [some (.ref 6)]) (st' := [.int (Int32.ofInt 1), .ref 7]) (σ' := (zN L X (zhi s) R G nc ns)) (fun n => rfl) ?_
      refine zW.callV rfl (by decide) rfl rfl rfl rfl rfl (Nat.le_of_ble_eq_true rfl) ?_
      refine t_Siege_companiesOf_n S (x := 1) (by omega) (p2) (fun v_6 f7 f8 => ?_)
      show zW ro 2 29 [some (.ref 6)] [.int (Int32.ofInt v_6)] (zN L X (zhi s) R G nc ns) Q
      refine zW.jif_ne rfl (by omega) (fun c9 => ?_) (fun c9 => ?_)
      · skip
        refine zW.run 1 (pc' := 43) (ls' := [some (.ref 6)]) (st' := [.ref 6]) (σ' := (zN L X (zhi s) R G nc ns)) (fun n => rfl) ?_
        refine zW.getf (v := .ref 7) rfl rfl (zr_6_0 S) ?_
        refine zW.run 1 (pc' := 47) (ls' := [some (.ref 6)]) (st' := [.int (Int32.ofInt 1), .ref 7]) (σ' := (zN L X (zhi s) R G nc ns)) (fun n => rfl) ?_
        refine zW.jput rfl rfl rfl ?_
        refine zW.run 1 (pc' := 51) (ls' := [some (.ref 6)]) (st' := [.ref 6]) (σ' := (zN L X (zhi (zup s 7 11 1)) R G nc ns)) (fun n => rfl) ?_
        refine zW.getf (v := .ref 7) rfl rfl (zr_6_0 S) ?_
        refine zW.getf (v := .ref 21) rfl rfl (zr_7_4 S) ?_
        refine zW.run 1 (pc' := 58) (ls' := [some (.ref 6)]) (st' := [.ref 6, .ref 21]) (σ' := (zN L X (zhi (zup s 7 11 1)) R G nc ns)) (fun n => rfl) ?_
        refine zW.getf (v := .ref 7) rfl rfl (zr_6_0 S) ?_
        refine zW.getf (v := .ref 21) rfl rfl (zr_7_4 S) ?_
        refine zW.jget (v := (s 21 0)) rfl rfl (fun _ _ _ => rfl) (zup_nj (by omega)) ?_
        refine zW.jput rfl rfl rfl ?_
        refine zW.run 1 (pc' := 71) (ls' := [some (.ref 6)]) (st' := [.ref 6]) (σ' := (zN L X (zhi (zup (zup s 7 11 1) 21 10 (s 21 0))) R G nc ns)) (fun n => rfl) ?_
        refine zW.getf (v := .ref 7) rfl rfl (zr_6_0 S) ?_
        refine zW.getf (v := .ref 22) rfl rfl (zr_7_5 S) ?_
        refine zW.run 1 (pc' := 78) (ls' := [some (.ref 6)]) (st' := [.ref 6, .ref 22]) (σ' := (zN L X (zhi (zup (zup s 7 11 1) 21 10 (s 21 0))) R G nc ns)) (fun n => rfl) ?_
        refine zW.getf (v := .ref 7) rfl rfl (zr_6_0 S) ?_
        refine zW.getf (v := .ref 22) rfl rfl (zr_7_5 S) ?_
        refine zW.jget (v := (s 22 0)) rfl rfl (fun _ _ _ => rfl) ((zup_nj (by omega)).trans (zup_nj (by omega))) ?_
        refine zW.jput rfl rfl rfl ?_
        refine zW.run 1 (pc' := 91) (ls' := [some (.ref 6)]) (st' := [.ref 6]) (σ' := (zN L X (zhi (zup (zup (zup s 7 11 1) 21 10 (s 21 0)) 22 10 (s 22 0))) R G nc ns)) (fun n => rfl) ?_
        refine zW.getf (v := .ref 7) rfl rfl (zr_6_0 S) ?_
        refine zW.jget (v := (s 7 8)) rfl rfl (fun _ _ _ => rfl) ((zup_nj (by omega)).trans ((zup_nj (by omega)).trans (zup_nj (by omega)))) ?_
        exact zW.jret rfl rfl (hQ0 (s 7 8))
      · skip
        exfalso
        omega
end ZB
