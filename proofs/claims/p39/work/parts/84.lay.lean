/-! a map is laid, in the setting (printed by program) -/
section ZB
variable {ro : Nat → Int32 → zS → Option (zO × zS)} {L : Nat} {X : zK} {s : zJ} {R : Nat → Nat → Option Nat} {G : Nat → Nat → Int64} {nc ns : Nat} {Q : zO → zS → Prop} {g : Nat → Int} {U F T B ph : Int}
set_option maxRecDepth 20000 in
set_option maxHeartbeats 20000000 in
theorem t_Gun_place (S : zSR R) {i : Nat} {x : Int} {y : Int} {d : Int} (p0 : i < 16) (hQ0 : Q (.inl none) (zN L X (zhi (zup (zup (zup s (26 + i) 0 x) (26 + i) 1 y) (26 + i) 2 d)) R G nc ns)) : zW ro 85 0 (zfst [.ref (26 + i), .int (Int32.ofInt x), .int (Int32.ofInt y), .int (Int32.ofInt d)] 4) [] (zN L X (zhi s) R G nc ns) Q := by
  show zW ro 85 0 [some (.ref (26 + i)), some (.int (Int32.ofInt x)), some (.int (Int32.ofInt y)), some (.int (Int32.ofInt d))] [] (zN L X (zhi s) R G nc ns) Q
  refine zW.run 2 (pc' := 2) (ls' := [some (.ref (26 + i)), some (.int (Int32.ofInt x)), some (.int (Int32.ofInt y)), some (.int (Int32.ofInt d))]) (st' := [.int (Int32.ofInt x), .ref (26 + i)]) (σ' := (zN L X (zhi s) R G nc ns)) (fun n => rfl) ?_
  refine zW.jput rfl (zk_gun (by omega)) rfl ?_
  refine zW.run 2 (pc' := 7) (ls' := [some (.ref (26 + i)), some (.int (Int32.ofInt x)), some (.int (Int32.ofInt y)), some (.int (Int32.ofInt d))]) (st' := [.int (Int32.ofInt y), .ref (26 + i)]) (σ' := (zN L X (zhi (zup s (26 + i) 0 x)) R G nc ns)) (fun n => rfl) ?_
  refine zW.jput rfl (zk_gun (by omega)) rfl ?_
  refine zW.run 2 (pc' := 12) (ls' := [some (.ref (26 + i)), some (.int (Int32.ofInt x)), some (.int (Int32.ofInt y)), some (.int (Int32.ofInt d))]) (st' := [.int (Int32.ofInt d), .ref (26 + i)]) (σ' := (zN L X (zhi (zup (zup s (26 + i) 0 x) (26 + i) 1 y)) R G nc ns)) (fun n => rfl) ?_
  refine zW.jput rfl (zk_gun (by omega)) rfl ?_
  exact zW.vret rfl hQ0
set_option maxRecDepth 20000 in
set_option maxHeartbeats 20000000 in
theorem t_Company_place (S : zSR R) {i : Nat} {x : Int} {y : Int} {d : Int} (p0 : i < 12) (hQ0 : Q (.inl none) (zN L X (zhi (zup (zup (zup s (42 + i) 0 x) (42 + i) 1 y) (42 + i) 2 d)) R G nc ns)) : zW ro 36 0 (zfst [.ref (42 + i), .int (Int32.ofInt x), .int (Int32.ofInt y), .int (Int32.ofInt d)] 4) [] (zN L X (zhi s) R G nc ns) Q := by
  show zW ro 36 0 [some (.ref (42 + i)), some (.int (Int32.ofInt x)), some (.int (Int32.ofInt y)), some (.int (Int32.ofInt d))] [] (zN L X (zhi s) R G nc ns) Q
  refine zW.run 2 (pc' := 2) (ls' := [some (.ref (42 + i)), some (.int (Int32.ofInt x)), some (.int (Int32.ofInt y)), some (.int (Int32.ofInt d))]) (st' := [.int (Int32.ofInt x), .ref (42 + i)]) (σ' := (zN L X (zhi s) R G nc ns)) (fun n => rfl) ?_
  refine zW.jput rfl (zk_com (by omega)) rfl ?_
  refine zW.run 2 (pc' := 7) (ls' := [some (.ref (42 + i)), some (.int (Int32.ofInt x)), some (.int (Int32.ofInt y)), some (.int (Int32.ofInt d))]) (st' := [.int (Int32.ofInt y), .ref (42 + i)]) (σ' := (zN L X (zhi (zup s (42 + i) 0 x)) R G nc ns)) (fun n => rfl) ?_
  refine zW.jput rfl (zk_com (by omega)) rfl ?_
  refine zW.run 2 (pc' := 12) (ls' := [some (.ref (42 + i)), some (.int (Int32.ofInt x)), some (.int (Int32.ofInt y)), some (.int (Int32.ofInt d))]) (st' := [.int (Int32.ofInt d), .ref (42 + i)]) (σ' := (zN L X (zhi (zup (zup s (42 + i) 0 x) (42 + i) 1 y)) R G nc ns)) (fun n => rfl) ?_
  refine zW.jput rfl (zk_com (by omega)) rfl ?_
  exact zW.vret rfl hQ0
set_option maxRecDepth 20000 in
set_option maxHeartbeats 20000000 in
theorem t_Side_tell (S : zSR R) {o : Nat} {x : Int} {y : Int} {d : Int} {e : Int} (p0 : o = 21 ∨ o = 22) (hQ0 : Q (.inl none) (zN L X (zhi (zup (zup (zup (zup s o 0 x) o 1 y) o 2 d) o 3 e)) R G nc ns)) : zW ro 124 0 (zfst [.ref o, .int (Int32.ofInt x), .int (Int32.ofInt y), .int (Int32.ofInt d), .int (Int32.ofInt e)] 5) [] (zN L X (zhi s) R G nc ns) Q := by
  show zW ro 124 0 [some (.ref o), some (.int (Int32.ofInt x)), some (.int (Int32.ofInt y)), some (.int (Int32.ofInt d)), some (.int (Int32.ofInt e))] [] (zN L X (zhi s) R G nc ns) Q
  refine zW.run 2 (pc' := 2) (ls' := [some (.ref o), some (.int (Int32.ofInt x)), some (.int (Int32.ofInt y)), some (.int (Int32.ofInt d)), some (.int (Int32.ofInt e))]) (st' := [.int (Int32.ofInt x), .ref o]) (σ' := (zN L X (zhi s) R G nc ns)) (fun n => rfl) ?_
  refine zW.jput rfl (zk_sid (by omega)) rfl ?_
  refine zW.run 2 (pc' := 7) (ls' := [some (.ref o), some (.int (Int32.ofInt x)), some (.int (Int32.ofInt y)), some (.int (Int32.ofInt d)), some (.int (Int32.ofInt e))]) (st' := [.int (Int32.ofInt y), .ref o]) (σ' := (zN L X (zhi (zup s o 0 x)) R G nc ns)) (fun n => rfl) ?_
  refine zW.jput rfl (zk_sid (by omega)) rfl ?_
  refine zW.run 2 (pc' := 12) (ls' := [some (.ref o), some (.int (Int32.ofInt x)), some (.int (Int32.ofInt y)), some (.int (Int32.ofInt d)), some (.int (Int32.ofInt e))]) (st' := [.int (Int32.ofInt d), .ref o]) (σ' := (zN L X (zhi (zup (zup s o 0 x) o 1 y)) R G nc ns)) (fun n => rfl) ?_
  refine zW.jput rfl (zk_sid (by omega)) rfl ?_
  refine zW.run 2 (pc' := 18) (ls' := [some (.ref o), some (.int (Int32.ofInt x)), some (.int (Int32.ofInt y)), some (.int (Int32.ofInt d)), some (.int (Int32.ofInt e))]) (st' := [.int (Int32.ofInt e), .ref o]) (σ' := (zN L X (zhi (zup (zup (zup s o 0 x) o 1 y) o 2 d)) R G nc ns)) (fun n => rfl) ?_
  refine zW.jput rfl (zk_sid (by omega)) rfl ?_
  exact zW.vret rfl hQ0
set_option maxRecDepth 20000 in
set_option maxHeartbeats 20000000 in
theorem t_Siege_tellTown (S : zSR R) {x : Int} {y : Int} {d : Int}  (hQ0 : Q (.inl none) (zN L X (zhi (zup (zup (zup s 7 14 x) 7 15 y) 23 4 d)) R G nc ns)) : zW ro 159 0 (zfst [.ref 7, .int (Int32.ofInt x), .int (Int32.ofInt y), .int (Int32.ofInt d)] 4) [] (zN L X (zhi s) R G nc ns) Q := by
  show zW ro 159 0 [some (.ref 7), some (.int (Int32.ofInt x)), some (.int (Int32.ofInt y)), some (.int (Int32.ofInt d))] [] (zN L X (zhi s) R G nc ns) Q
  refine zW.run 2 (pc' := 2) (ls' := [some (.ref 7), some (.int (Int32.ofInt x)), some (.int (Int32.ofInt y)), some (.int (Int32.ofInt d))]) (st' := [.int (Int32.ofInt x), .ref 7]) (σ' := (zN L X (zhi s) R G nc ns)) (fun n => rfl) ?_
  refine zW.jput rfl rfl rfl ?_
  refine zW.run 2 (pc' := 7) (ls' := [some (.ref 7), some (.int (Int32.ofInt x)), some (.int (Int32.ofInt y)), some (.int (Int32.ofInt d))]) (st' := [.int (Int32.ofInt y), .ref 7]) (σ' := (zN L X (zhi (zup s 7 14 x)) R G nc ns)) (fun n => rfl) ?_
  refine zW.jput rfl rfl rfl ?_
  refine zW.run 1 (pc' := 11) (ls' := [some (.ref 7), some (.int (Int32.ofInt x)), some (.int (Int32.ofInt y)), some (.int (Int32.ofInt d))]) (st' := [.ref 7]) (σ' := (zN L X (zhi (zup (zup s 7 14 x) 7 15 y)) R G nc ns)) (fun n => rfl) ?_
  refine zW.getf (v := .ref 23) rfl rfl (zr_7_6 S) ?_
  refine zW.run 1 (pc' := 15) (ls' := [some (.ref 7), some (.int (Int32.ofInt x)), some (.int (Int32.ofInt y)), some (.int (Int32.ofInt d))]) (st' := [.int (Int32.ofInt d), .ref 23]) (σ' := (zN L X (zhi (zup (zup s 7 14 x) 7 15 y)) R G nc ns)) (fun n => rfl) ?_
  refine zW.jput rfl rfl rfl ?_
  exact zW.vret rfl hQ0
set_option maxRecDepth 20000 in
set_option maxHeartbeats 20000000 in
theorem t_Siege_startOver (S : zSR R)  (p0 : ∀ i : Nat, i < 16 → s (26 + i) 0 = -1 ∧ s (26 + i) 1 = -1 ∧ s (26 + i) 2 = 0) (p1 : ∀ i : Nat, i < 12 → s (42 + i) 0 = -1 ∧ s (42 + i) 1 = -1 ∧ s (42 + i) 2 = 0) (p2 : s 7 7 = 0 ∧ s 7 8 = 0 ∧ s 7 14 = 0 ∧ s 7 15 = 0 ∧ s 23 4 = 10) (p3 : s 21 0 = 0 ∧ s 21 1 = 0 ∧ s 21 2 = 0 ∧ s 21 3 = 60 ∧ s 22 0 = 0 ∧ s 22 1 = 0 ∧ s 22 2 = 0 ∧ s 22 3 = 60) (hQ0 : Q (.inl none) (zN L X (zhi s) R G nc ns)) : zW ro 157 0 (zfst [.ref 7] 5) [] (zN L X (zhi s) R G nc ns) Q := by
  show zW ro 157 0 [some (.ref 7), none, none, none, none] [] (zN L X (zhi s) R G nc ns) Q
  refine zW.run 1 (pc' := 1) (ls' := [some (.ref 7), none, none, none, none]) (st' := [.ref 7]) (σ' := (zN L X (zhi s) R G nc ns)) (fun n => rfl) ?_
  refine zW.getf (v := .ref 18) rfl rfl (zr_7_1 S) ?_
  refine zW.run 2 (pc' := 6) (ls' := [some (.ref 7), some (.ref 18), none, none, none]) (st' := [.ref 18]) (σ' := (zN L X (zhi s) R G nc ns)) (fun n => rfl) ?_
  refine zW.alen rfl rfl (by decide) ?_
  show zW ro 157 7 [some (.ref 7), some (.ref 18), none, none, none] [.int (Int32.ofInt 16)] (zN L X (zhi s) R G nc ns) Q
  refine zW.run 3 (pc' := 10) (ls' := [some (.ref 7), some (.ref 18), some (.int (Int32.ofInt 16)), some (.int (Int32.ofInt 0)), none]) (st' := []) (σ' := (zN L X (zhi s) R G nc ns)) (fun n => rfl) ?_
  have J4 : ∀ m : Nat, ∀ (i_1 : Nat) (w2 : Option Value), i_1 ≤ 16 → 17 - i_1 < m → zW ro 157 10 [some (.ref 7), some (.ref 18), some (.int (Int32.ofInt 16)), some (.int (Int32.ofInt (i_1 : Int))), w2] [] (zN L X (zhi s) R G nc ns) Q := by
    intro m
    induction m with
    | zero => intros; omega
    | succ m ih5 =>
      intro i_1 w2 c3 hm6
      refine zW.run 2 (pc' := 12) (ls' := [some (.ref 7), some (.ref 18), some (.int (Int32.ofInt 16)), some (.int (Int32.ofInt (i_1 : Int))), w2]) (st' := [.int (Int32.ofInt 16), .int (Int32.ofInt (i_1 : Int))]) (σ' := (zN L X (zhi s) R G nc ns)) (fun n => rfl) ?_
      refine zW.jcmp_ge rfl (by omega) (fun c7 => ?_) (fun c7 => ?_)
      · skip
        refine zW.run 1 (pc' := 35) (ls' := [some (.ref 7), some (.ref 18), some (.int (Int32.ofInt 16)), some (.int (Int32.ofInt (i_1 : Int))), w2]) (st' := [.ref 7]) (σ' := (zN L X (zhi s) R G nc ns)) (fun n => rfl) ?_
        refine zW.getf (v := .ref 19) rfl rfl (zr_7_2 S) ?_
        refine zW.run 2 (pc' := 40) (ls' := [some (.ref 7), some (.ref 19), some (.int (Int32.ofInt 16)), some (.int (Int32.ofInt (i_1 : Int))), w2]) (st' := [.ref 19]) (σ' := (zN L X (zhi s) R G nc ns)) (fun n => rfl) ?_
        refine zW.alen rfl rfl (by decide) ?_
        show zW ro 157 41 [some (.ref 7), some (.ref 19), some (.int (Int32.ofInt 16)), some (.int (Int32.ofInt (i_1 : Int))), w2] [.int (Int32.ofInt 12)] (zN L X (zhi s) R G nc ns) Q
        refine zW.run 3 (pc' := 44) (ls' := [some (.ref 7), some (.ref 19), some (.int (Int32.ofInt 12)), some (.int (Int32.ofInt 0)), w2]) (st' := []) (σ' := (zN L X (zhi s) R G nc ns)) (fun n => rfl) ?_
        have J11 : ∀ m : Nat, ∀ (i_8 : Nat) (w9 : Option Value), i_8 ≤ 12 → 13 - i_8 < m → zW ro 157 44 [some (.ref 7), some (.ref 19), some (.int (Int32.ofInt 12)), some (.int (Int32.ofInt (i_8 : Int))), w9] [] (zN L X (zhi s) R G nc ns) Q := by
          intro m
          induction m with
          | zero => intros; omega
          | succ m ih12 =>
            intro i_8 w9 c10 hm13
            refine zW.run 2 (pc' := 46) (ls' := [some (.ref 7), some (.ref 19), some (.int (Int32.ofInt 12)), some (.int (Int32.ofInt (i_8 : Int))), w9]) (st' := [.int (Int32.ofInt 12), .int (Int32.ofInt (i_8 : Int))]) (σ' := (zN L X (zhi s) R G nc ns)) (fun n => rfl) ?_
            refine zW.jcmp_ge rfl (by omega) (fun c14 => ?_) (fun c14 => ?_)
            · skip
              refine zW.run 2 (pc' := 70) (ls' := [some (.ref 7), some (.ref 19), some (.int (Int32.ofInt 12)), some (.int (Int32.ofInt (i_8 : Int))), w9]) (st' := [.int (Int32.ofInt 0), .ref 7]) (σ' := (zN L X (zhi s) R G nc ns)) (fun n => rfl) ?_
              refine zW.jput rfl rfl rfl ?_
              refine zW.run 2 (pc' := 75) (ls' := [some (.ref 7), some (.ref 19), some (.int (Int32.ofInt 12)), some (.int (Int32.ofInt (i_8 : Int))), w9]) (st' := [.int (Int32.ofInt 0), .ref 7]) (σ' := (zN L X (zhi (zup s 7 7 0)) R G nc ns)) (fun n => rfl) ?_
              refine zW.jput rfl rfl rfl ?_
              refine zW.run 1 (pc' := 79) (ls' := [some (.ref 7), some (.ref 19), some (.int (Int32.ofInt 12)), some (.int (Int32.ofInt (i_8 : Int))), w9]) (st' := [.ref 7]) (σ' := (zN L X (zhi (zup (zup s 7 7 0) 7 8 0)) R G nc ns)) (fun n => rfl) ?_
              refine zW.getf (v := .ref 21) rfl rfl (zr_7_4 S) ?_
              refine zW.run 4 (pc' := 87) (ls' := [some (.ref 7), some (.ref 19), some (.int (Int32.ofInt 12)), some (.int (Int32.ofInt (i_8 : Int))), w9]) (st' := [.int (Int32.ofInt 60), .int (Int32.ofInt 0), .int (Int32.ofInt 0), .int (Int32.ofInt 0), .ref 21]) (σ' := (zN L X (zhi (zup (zup s 7 7 0) 7 8 0)) R G nc ns)) (fun n => rfl) ?_
              refine zW.callV rfl (by decide) rfl rfl rfl rfl rfl (Nat.le_of_ble_eq_true rfl) ?_
              refine t_Side_tell S (o := 21) (x := 0) (y := 0) (d := 0) (e := 60) (by omega) ?_
              show zW ro 157 90 [some (.ref 7), some (.ref 19), some (.int (Int32.ofInt 12)), some (.int (Int32.ofInt (i_8 : Int))), w9] [] (zN L X (zhi (zup (zup (zup (zup (zup (zup s 7 7 0) 7 8 0) 21 0 0) 21 1 0) 21 2 0) 21 3 60)) R G nc ns) Q
              refine zW.run 1 (pc' := 91) (ls' := [some (.ref 7), some (.ref 19), some (.int (Int32.ofInt 12)), some (.int (Int32.ofInt (i_8 : Int))), w9]) (st' := [.ref 7]) (σ' := (zN L X (zhi (zup (zup (zup (zup (zup (zup s 7 7 0) 7 8 0) 21 0 0) 21 1 0) 21 2 0) 21 3 60)) R G nc ns)) (fun n => rfl) ?_
              refine zW.getf (v := .ref 22) rfl rfl (zr_7_5 S) ?_
              refine zW.run 4 (pc' := 99) (ls' := [some (.ref 7), some (.ref 19), some (.int (Int32.ofInt 12)), some (.int (Int32.ofInt (i_8 : Int))), w9]) (st' := [.int (Int32.ofInt 60), .int (Int32.ofInt 0), .int (Int32.ofInt 0), .int (Int32.ofInt 0), .ref 22]) (σ' := (zN L X (zhi (zup (zup (zup (zup (zup (zup s 7 7 0) 7 8 0) 21 0 0) 21 1 0) 21 2 0) 21 3 60)) R G nc ns)) (fun n => rfl) ?_
              refine zW.callV rfl (by decide) rfl rfl rfl rfl rfl (Nat.le_of_ble_eq_true rfl) ?_
              refine t_Side_tell S (o := 22) (x := 0) (y := 0) (d := 0) (e := 60) (by omega) ?_
              show zW ro 157 102 [some (.ref 7), some (.ref 19), some (.int (Int32.ofInt 12)), some (.int (Int32.ofInt (i_8 : Int))), w9] [] (zN L X (zhi (zup (zup (zup (zup (zup (zup (zup (zup (zup (zup s 7 7 0) 7 8 0) 21 0 0) 21 1 0) 21 2 0) 21 3 60) 22 0 0) 22 1 0) 22 2 0) 22 3 60)) R G nc ns) Q
              refine zW.run 4 (pc' := 107) (ls' := [some (.ref 7), some (.ref 19), some (.int (Int32.ofInt 12)), some (.int (Int32.ofInt (i_8 : Int))), w9]) (st' := [.int (Int32.ofInt 10), .int (Int32.ofInt 0), .int (Int32.ofInt 0), .ref 7]) (σ' := (zN L X (zhi (zup (zup (zup (zup (zup (zup (zup (zup (zup (zup s 7 7 0) 7 8 0) 21 0 0) 21 1 0) 21 2 0) 21 3 60) 22 0 0) 22 1 0) 22 2 0) 22 3 60)) R G nc ns)) (fun n => rfl) ?_
              refine zW.callV rfl (by decide) rfl rfl rfl rfl rfl (Nat.le_of_ble_eq_true rfl) ?_
              refine t_Siege_tellTown S (x := 0) (y := 0) (d := 10) ?_
              show zW ro 157 110 [some (.ref 7), some (.ref 19), some (.int (Int32.ofInt 12)), some (.int (Int32.ofInt (i_8 : Int))), w9] [] (zN L X (zhi (zup (zup (zup (zup (zup (zup (zup (zup (zup (zup (zup (zup (zup s 7 7 0) 7 8 0) 21 0 0) 21 1 0) 21 2 0) 21 3 60) 22 0 0) 22 1 0) 22 2 0) 22 3 60) 7 14 0) 7 15 0) 23 4 10)) R G nc ns) Q
              rw [zup_id (p2.1), zup_id (p2.2.1), zup_id (p3.1), zup_id (p3.2.1), zup_id (p3.2.2.1), zup_id (p3.2.2.2.1), zup_id (p3.2.2.2.2.1), zup_id (p3.2.2.2.2.2.1), zup_id (p3.2.2.2.2.2.2.1), zup_id (p3.2.2.2.2.2.2.2), zup_id (p2.2.2.1), zup_id (p2.2.2.2.1), zup_id (p2.2.2.2.2)]
              exact zW.vret rfl hQ0
            · skip
              refine zW.run 2 (pc' := 51) (ls' := [some (.ref 7), some (.ref 19), some (.int (Int32.ofInt 12)), some (.int (Int32.ofInt (i_8 : Int))), w9]) (st' := [.int (Int32.ofInt (i_8 : Int)), .ref 19]) (σ' := (zN L X (zhi s) R G nc ns)) (fun n => rfl) ?_
              refine zW.jaald (n := 12) (v := .ref (42 + i_8)) rfl rfl (by decide) (by decide) (by omega) (zr_com S (by omega)) ?_
              refine zW.run 5 (pc' := 59) (ls' := [some (.ref 7), some (.ref 19), some (.int (Int32.ofInt 12)), some (.int (Int32.ofInt (i_8 : Int))), some (.ref (42 + i_8))]) (st' := [.int (Int32.ofInt 0), .int (Int32.ofInt (-1)), .int (Int32.ofInt (-1)), .ref (42 + i_8)]) (σ' := (zN L X (zhi s) R G nc ns)) (fun n => rfl) ?_
              refine zW.callV rfl (by decide) rfl rfl rfl rfl (zk_com (by omega)) (Nat.le_of_ble_eq_true rfl) ?_
              refine t_Company_place S (i := i_8) (x := (-1)) (y := (-1)) (d := 0) (by omega) ?_
              show zW ro 157 62 [some (.ref 7), some (.ref 19), some (.int (Int32.ofInt 12)), some (.int (Int32.ofInt (i_8 : Int))), some (.ref (42 + i_8))] [] (zN L X (zhi (zup (zup (zup s (42 + i_8) 0 (-1)) (42 + i_8) 1 (-1)) (42 + i_8) 2 0)) R G nc ns) Q
              rw [zup_id ((p1 i_8 (by omega)).1), zup_id ((p1 i_8 (by omega)).2.1), zup_id ((p1 i_8 (by omega)).2.2)]
              refine zW.jinc (ls' := [some (.ref 7), some (.ref 19), some (.int (Int32.ofInt 12)), some (.int (Int32.ofInt ((i_8 : Int) + 1))), some (.ref (42 + i_8))]) rfl (Nat.le_of_ble_eq_true rfl) rfl rfl ?_
              refine zW.run 1 (pc' := 44) (ls' := [some (.ref 7), some (.ref 19), some (.int (Int32.ofInt 12)), some (.int (Int32.ofInt ((i_8 : Int) + 1))), some (.ref (42 + i_8))]) (st' := []) (σ' := (zN L X (zhi s) R G nc ns)) (fun n => rfl) ?_
              exact ih12 (i_8 + 1) (some (.ref (42 + i_8))) (by omega) (by omega)
        exact J11 _ 0 w2 (by omega) (Nat.lt_succ_self _)
      · skip
        refine zW.run 2 (pc' := 17) (ls' := [some (.ref 7), some (.ref 18), some (.int (Int32.ofInt 16)), some (.int (Int32.ofInt (i_1 : Int))), w2]) (st' := [.int (Int32.ofInt (i_1 : Int)), .ref 18]) (σ' := (zN L X (zhi s) R G nc ns)) (fun n => rfl) ?_
        refine zW.jaald (n := 16) (v := .ref (26 + i_1)) rfl rfl (by decide) (by decide) (by omega) (zr_gun S (by omega)) ?_
        refine zW.run 5 (pc' := 25) (ls' := [some (.ref 7), some (.ref 18), some (.int (Int32.ofInt 16)), some (.int (Int32.ofInt (i_1 : Int))), some (.ref (26 + i_1))]) (st' := [.int (Int32.ofInt 0), .int (Int32.ofInt (-1)), .int (Int32.ofInt (-1)), .ref (26 + i_1)]) (σ' := (zN L X (zhi s) R G nc ns)) (fun n => rfl) ?_
        refine zW.callV rfl (by decide) rfl rfl rfl rfl (zk_gun (by omega)) (Nat.le_of_ble_eq_true rfl) ?_
        refine t_Gun_place S (i := i_1) (x := (-1)) (y := (-1)) (d := 0) (by omega) ?_
        show zW ro 157 28 [some (.ref 7), some (.ref 18), some (.int (Int32.ofInt 16)), some (.int (Int32.ofInt (i_1 : Int))), some (.ref (26 + i_1))] [] (zN L X (zhi (zup (zup (zup s (26 + i_1) 0 (-1)) (26 + i_1) 1 (-1)) (26 + i_1) 2 0)) R G nc ns) Q
        rw [zup_id ((p0 i_1 (by omega)).1), zup_id ((p0 i_1 (by omega)).2.1), zup_id ((p0 i_1 (by omega)).2.2)]
        refine zW.jinc (ls' := [some (.ref 7), some (.ref 18), some (.int (Int32.ofInt 16)), some (.int (Int32.ofInt ((i_1 : Int) + 1))), some (.ref (26 + i_1))]) rfl (Nat.le_of_ble_eq_true rfl) rfl rfl ?_
        refine zW.run 1 (pc' := 10) (ls' := [some (.ref 7), some (.ref 18), some (.int (Int32.ofInt 16)), some (.int (Int32.ofInt ((i_1 : Int) + 1))), some (.ref (26 + i_1))]) (st' := []) (σ' := (zN L X (zhi s) R G nc ns)) (fun n => rfl) ?_
        exact ih5 (i_1 + 1) (some (.ref (26 + i_1))) (by omega) (by omega)
  exact J4 _ 0 none (by omega) (Nat.lt_succ_self _)
set_option maxRecDepth 20000 in
set_option maxHeartbeats 20000000 in
theorem t_Ground_layOut (S : zSR R) {w : Int} {h : Int} {d : Int} {c : Int} {gt : Nat} (p0 : 8 ≤ w ∧ w ≤ 12) (p1 : 8 ≤ h ∧ h ≤ 12) (p2 : 0 ≤ d ∧ d < 100) (p3 : w * h = c) (p4 : (gt : Int) = 6 * w + 6) (p5 : ∀ j : Nat, s 9 j = 0 ∧ s 10 j = 0 ∧ s 11 j = 0 ∧ s 12 j = 0 ∧ s 13 j = 0) (p6 : ∀ p k : Nat, p < 5 → k < 6 → 0 ≤ s p k ∧ s p k ≤ 12) (p7 : 64 ≤ c ∧ c ≤ 144 ∧ 6 * w + 6 < c) (hQ0 : ∀ (s1 : zJ), zLO w h c s s1 → Q (.inl none) (zN L X (zhi s1) R G nc ns)) : zW ro 70 0 (zfst [.ref 8, .int (Int32.ofInt w), .int (Int32.ofInt h), .int (Int32.ofInt d)] 8) [] (zN L X (zhi s) R G nc ns) Q := by
  show zW ro 70 0 [some (.ref 8), some (.int (Int32.ofInt w)), some (.int (Int32.ofInt h)), some (.int (Int32.ofInt d)), none, none, none, none] [] (zN L X (zhi s) R G nc ns) Q
  refine zW.run 2 (pc' := 2) (ls' := [some (.ref 8), some (.int (Int32.ofInt w)), some (.int (Int32.ofInt h)), some (.int (Int32.ofInt d)), none, none, none, none]) (st' := [.int (Int32.ofInt w), .ref 8]) (σ' := (zN L X (zhi s) R G nc ns)) (fun n => rfl) ?_
  refine zW.jput rfl rfl rfl ?_
  refine zW.run 2 (pc' := 7) (ls' := [some (.ref 8), some (.int (Int32.ofInt w)), some (.int (Int32.ofInt h)), some (.int (Int32.ofInt d)), none, none, none, none]) (st' := [.int (Int32.ofInt h), .ref 8]) (σ' := (zN L X (zhi (zup s 8 9 w)) R G nc ns)) (fun n => rfl) ?_
  refine zW.jput rfl rfl rfl ?_
  refine zW.run 3 (pc' := 13) (ls' := [some (.ref 8), some (.int (Int32.ofInt w)), some (.int (Int32.ofInt h)), some (.int (Int32.ofInt d)), none, none, none, none]) (st' := [.int (Int32.ofInt h), .int (Int32.ofInt w), .ref 8]) (σ' := (zN L X (zhi (zup (zup s 8 9 w) 8 10 h)) R G nc ns)) (fun n => rfl) ?_
  refine zW.jmul rfl ?_
  refine zW.jput rfl rfl rfl ?_
  refine zW.run 4 (pc' := 23) (ls' := [some (.ref 8), some (.int (Int32.ofInt w)), some (.int (Int32.ofInt h)), some (.int (Int32.ofInt d)), some (.int (Int32.ofInt d)), some (.int (Int32.ofInt 0)), none, none]) (st' := []) (σ' := (zN L X (zhi (zup (zup (zup s 8 9 w) 8 10 h) 8 11 (w * h))) R G nc ns)) (fun n => rfl) ?_
  have J9 : ∀ m : Nat, ∀ (k_1 : Nat) (d2_2 : Int) (w3 : Option Value) (w4 : Option Value) (s5 : zJ), zLf s w h c k_1 s5 → 0 ≤ d2_2 ∧ d2_2 ≤ 1000 → (k_1 : Int) ≤ c → 145 - k_1 < m → zW ro 70 23 [some (.ref 8), some (.int (Int32.ofInt w)), some (.int (Int32.ofInt h)), some (.int (Int32.ofInt d)), some (.int (Int32.ofInt d2_2)), some (.int (Int32.ofInt (k_1 : Int))), w3, w4] [] (zN L X (zhi s5) R G nc ns) Q := by
    intro m
    induction m with
    | zero => intros; omega
    | succ m ih10 =>
      intro k_1 d2_2 w3 w4 s5 c6 c7 c8 hm11
      have e9 := c6.1
      refine zW.run 2 (pc' := 26) (ls' := [some (.ref 8), some (.int (Int32.ofInt w)), some (.int (Int32.ofInt h)), some (.int (Int32.ofInt d)), some (.int (Int32.ofInt d2_2)), some (.int (Int32.ofInt (k_1 : Int))), w3, w4]) (st' := [.ref 8, .int (Int32.ofInt (k_1 : Int))]) (σ' := (zN L X (zhi s5) R G nc ns)) (fun n => rfl) ?_
      refine zW.run 1 (pc' := 29) (ls' := [some (.ref 8), some (.int (Int32.ofInt w)), some (.int (Int32.ofInt h)), some (.int (Int32.ofInt d)), some (.int (Int32.ofInt d2_2)), some (.int (Int32.ofInt (k_1 : Int))), w3, w4]) (st' := [.int (Int32.ofInt (s5 8 11)), .int (Int32.ofInt (k_1 : Int))]) (σ' := (zN L X (zhi s5) R G nc ns)) (fun n => rfl) ?_
      refine zW.jcmp_ge rfl (by omega) (fun c12 => ?_) (fun c12 => ?_)
      · skip
        have ek : k_1 = c.toNat := (by omega)
        have L9 : zLf s w h c c.toNat s5 := by rw [← ek]; exact c6
        refine zW.run 2 (pc' := 152) (ls' := [some (.ref 8), some (.int (Int32.ofInt w)), some (.int (Int32.ofInt h)), some (.int (Int32.ofInt d)), some (.int (Int32.ofInt d2_2)), some (.int (Int32.ofInt (k_1 : Int))), w3, w4]) (st' := [.int (Int32.ofInt 0), .ref 8]) (σ' := (zN L X (zhi s5) R G nc ns)) (fun n => rfl) ?_
        refine zW.jput rfl rfl rfl ?_
        refine zW.run 2 (pc' := 157) (ls' := [some (.ref 8), some (.int (Int32.ofInt w)), some (.int (Int32.ofInt h)), some (.int (Int32.ofInt d)), some (.int (Int32.ofInt d2_2)), some (.int (Int32.ofInt (k_1 : Int))), w3, w4]) (st' := [.ref 8, .ref 8]) (σ' := (zN L X (zhi (zup s5 8 12 0)) R G nc ns)) (fun n => rfl) ?_
        refine zW.jget (v := (s5 8 11)) rfl rfl (fun _ _ _ => rfl) (zup_nj (by omega)) ?_
        refine zW.run 1 (pc' := 161) (ls' := [some (.ref 8), some (.int (Int32.ofInt w)), some (.int (Int32.ofInt h)), some (.int (Int32.ofInt d)), some (.int (Int32.ofInt d2_2)), some (.int (Int32.ofInt (k_1 : Int))), w3, w4]) (st' := [.int (Int32.ofInt 1), .int (Int32.ofInt (s5 8 11)), .ref 8]) (σ' := (zN L X (zhi (zup s5 8 12 0)) R G nc ns)) (fun n => rfl) ?_
        refine zW.jsub rfl ?_
        refine zW.jput rfl rfl rfl ?_
        refine zW.run 2 (pc' := 168) (ls' := [some (.ref 8), some (.int (Int32.ofInt w)), some (.int (Int32.ofInt h)), some (.int (Int32.ofInt d)), some (.int (Int32.ofInt d2_2)), some (.int (Int32.ofInt (k_1 : Int))), w3, w4]) (st' := [.int (Int32.ofInt 100), .int (Int32.ofInt d)]) (σ' := (zN L X (zhi (zup (zup s5 8 12 0) 8 13 ((s5 8 11) - 1))) R G nc ns)) (fun n => rfl) ?_
        refine zW.jcmp_ge rfl (by omega) (fun c13 => ?_) (fun c13 => ?_)
        · exfalso; omega
        refine zW.run 1 (pc' := 172) (ls' := [some (.ref 8), some (.int (Int32.ofInt w)), some (.int (Int32.ofInt h)), some (.int (Int32.ofInt d)), some (.int (Int32.ofInt d2_2)), some (.int (Int32.ofInt (k_1 : Int))), w3, w4]) (st' := [.ref 8]) (σ' := (zN L X (zhi (zup (zup s5 8 12 0) 8 13 ((s5 8 11) - 1))) R G nc ns)) (fun n => rfl) ?_
        refine zW.callV rfl (by decide) rfl rfl rfl rfl rfl (Nat.le_of_ble_eq_true rfl) ?_
        refine t_Ground_raiseFort S (w := w) (h := h) (c := c) (gt := gt) (zPf_of p0 p1 p3 p4 L9 p6) (zFb_0 L9) (fun j => by rw [zup_n1 (by decide), zup_n1 (by decide)]; exact (L9.2.2.1 j).2.2.1) (fun s14 f15 f16 f17 f18 f19 => ?_)
        show zW ro 70 175 [some (.ref 8), some (.int (Int32.ofInt w)), some (.int (Int32.ofInt h)), some (.int (Int32.ofInt d)), some (.int (Int32.ofInt d2_2)), some (.int (Int32.ofInt (k_1 : Int))), w3, w4] [] (zN L X (zhi s14) R G nc ns) Q
        refine zW.run 1 (pc' := 176) (ls' := [some (.ref 8), some (.int (Int32.ofInt w)), some (.int (Int32.ofInt h)), some (.int (Int32.ofInt d)), some (.int (Int32.ofInt d2_2)), some (.int (Int32.ofInt (k_1 : Int))), w3, w4]) (st' := [.ref 8]) (σ' := (zN L X (zhi s14) R G nc ns)) (fun n => rfl) ?_
        refine zW.callV rfl (by decide) rfl rfl rfl rfl rfl (Nat.le_of_ble_eq_true rfl) ?_
        refine t_Ground_digDitch S (w := w) (h := h) (c := c) (gt := gt) ((zPf_of p0 p1 p3 p4 L9 p6).fr f15.2) (⟨f15.1, fun _ _ _ => rfl⟩) (f16) (f17) (f18) (f19) (fun s20 f21 f22 f23 => ?_)
        show zW ro 70 179 [some (.ref 8), some (.int (Int32.ofInt w)), some (.int (Int32.ofInt h)), some (.int (Int32.ofInt d)), some (.int (Int32.ofInt d2_2)), some (.int (Int32.ofInt (k_1 : Int))), w3, w4] [] (zN L X (zhi s20) R G nc ns) Q
        refine zW.run 1 (pc' := 180) (ls' := [some (.ref 8), some (.int (Int32.ofInt w)), some (.int (Int32.ofInt h)), some (.int (Int32.ofInt d)), some (.int (Int32.ofInt d2_2)), some (.int (Int32.ofInt (k_1 : Int))), w3, w4]) (st' := [.ref 8]) (σ' := (zN L X (zhi s20) R G nc ns)) (fun n => rfl) ?_
        have e89 : s20 8 9 = w := by rw [f21.2 8 9 (by omega), f15.2 8 9 (by omega), zup_e1, if_neg (by decide), zup_e1, if_neg (by decide)]; exact L9.1.1
        have e810 : s20 8 10 = h := by rw [f21.2 8 10 (by omega), f15.2 8 10 (by omega), zup_e1, if_neg (by decide), zup_e1, if_neg (by decide)]; exact L9.1.2.1
        refine zW.callV rfl (by decide) rfl rfl rfl rfl rfl (Nat.le_of_ble_eq_true rfl) ?_
        refine t_Ground_openGate S (by omega) ?_
        show zW ro 70 183 [some (.ref 8), some (.int (Int32.ofInt w)), some (.int (Int32.ofInt h)), some (.int (Int32.ofInt d)), some (.int (Int32.ofInt d2_2)), some (.int (Int32.ofInt (k_1 : Int))), w3, w4] [] (zN L X (zhi (zup s20 8 13 ((6 * (s20 8 9)) + 6))) R G nc ns) Q
        exact zW.vret rfl (hQ0 (zup s20 8 13 ((6 * (s20 8 9)) + 6)) (zLO_of p0 p4 L9 f15 f21 f22 f23 e89))
      · skip
        refine zW.run 2 (pc' := 37) (ls' := [some (.ref 8), some (.int (Int32.ofInt w)), some (.int (Int32.ofInt h)), some (.int (Int32.ofInt d)), some (.int (Int32.ofInt d2_2)), some (.int (Int32.ofInt (k_1 : Int))), w3, w4]) (st' := [.int (Int32.ofInt 144), .int (Int32.ofInt (k_1 : Int))]) (σ' := (zN L X (zhi s5) R G nc ns)) (fun n => rfl) ?_
        refine zW.jcmp_ge rfl (by omega) (fun c24 => ?_) (fun c24 => ?_)
        · skip
          have ek : k_1 = c.toNat := (by omega)
          have L9 : zLf s w h c c.toNat s5 := by rw [← ek]; exact c6
          refine zW.run 2 (pc' := 152) (ls' := [some (.ref 8), some (.int (Int32.ofInt w)), some (.int (Int32.ofInt h)), some (.int (Int32.ofInt d)), some (.int (Int32.ofInt d2_2)), some (.int (Int32.ofInt (k_1 : Int))), w3, w4]) (st' := [.int (Int32.ofInt 0), .ref 8]) (σ' := (zN L X (zhi s5) R G nc ns)) (fun n => rfl) ?_
          refine zW.jput rfl rfl rfl ?_
          refine zW.run 2 (pc' := 157) (ls' := [some (.ref 8), some (.int (Int32.ofInt w)), some (.int (Int32.ofInt h)), some (.int (Int32.ofInt d)), some (.int (Int32.ofInt d2_2)), some (.int (Int32.ofInt (k_1 : Int))), w3, w4]) (st' := [.ref 8, .ref 8]) (σ' := (zN L X (zhi (zup s5 8 12 0)) R G nc ns)) (fun n => rfl) ?_
          refine zW.jget (v := (s5 8 11)) rfl rfl (fun _ _ _ => rfl) (zup_nj (by omega)) ?_
          refine zW.run 1 (pc' := 161) (ls' := [some (.ref 8), some (.int (Int32.ofInt w)), some (.int (Int32.ofInt h)), some (.int (Int32.ofInt d)), some (.int (Int32.ofInt d2_2)), some (.int (Int32.ofInt (k_1 : Int))), w3, w4]) (st' := [.int (Int32.ofInt 1), .int (Int32.ofInt (s5 8 11)), .ref 8]) (σ' := (zN L X (zhi (zup s5 8 12 0)) R G nc ns)) (fun n => rfl) ?_
          refine zW.jsub rfl ?_
          refine zW.jput rfl rfl rfl ?_
          refine zW.run 2 (pc' := 168) (ls' := [some (.ref 8), some (.int (Int32.ofInt w)), some (.int (Int32.ofInt h)), some (.int (Int32.ofInt d)), some (.int (Int32.ofInt d2_2)), some (.int (Int32.ofInt (k_1 : Int))), w3, w4]) (st' := [.int (Int32.ofInt 100), .int (Int32.ofInt d)]) (σ' := (zN L X (zhi (zup (zup s5 8 12 0) 8 13 ((s5 8 11) - 1))) R G nc ns)) (fun n => rfl) ?_
          refine zW.jcmp_ge rfl (by omega) (fun c25 => ?_) (fun c25 => ?_)
          · exfalso; omega
          refine zW.run 1 (pc' := 172) (ls' := [some (.ref 8), some (.int (Int32.ofInt w)), some (.int (Int32.ofInt h)), some (.int (Int32.ofInt d)), some (.int (Int32.ofInt d2_2)), some (.int (Int32.ofInt (k_1 : Int))), w3, w4]) (st' := [.ref 8]) (σ' := (zN L X (zhi (zup (zup s5 8 12 0) 8 13 ((s5 8 11) - 1))) R G nc ns)) (fun n => rfl) ?_
          refine zW.callV rfl (by decide) rfl rfl rfl rfl rfl (Nat.le_of_ble_eq_true rfl) ?_
          refine t_Ground_raiseFort S (w := w) (h := h) (c := c) (gt := gt) (zPf_of p0 p1 p3 p4 L9 p6) (zFb_0 L9) (fun j => by rw [zup_n1 (by decide), zup_n1 (by decide)]; exact (L9.2.2.1 j).2.2.1) (fun s26 f27 f28 f29 f30 f31 => ?_)
          show zW ro 70 175 [some (.ref 8), some (.int (Int32.ofInt w)), some (.int (Int32.ofInt h)), some (.int (Int32.ofInt d)), some (.int (Int32.ofInt d2_2)), some (.int (Int32.ofInt (k_1 : Int))), w3, w4] [] (zN L X (zhi s26) R G nc ns) Q
          refine zW.run 1 (pc' := 176) (ls' := [some (.ref 8), some (.int (Int32.ofInt w)), some (.int (Int32.ofInt h)), some (.int (Int32.ofInt d)), some (.int (Int32.ofInt d2_2)), some (.int (Int32.ofInt (k_1 : Int))), w3, w4]) (st' := [.ref 8]) (σ' := (zN L X (zhi s26) R G nc ns)) (fun n => rfl) ?_
          refine zW.callV rfl (by decide) rfl rfl rfl rfl rfl (Nat.le_of_ble_eq_true rfl) ?_
          refine t_Ground_digDitch S (w := w) (h := h) (c := c) (gt := gt) ((zPf_of p0 p1 p3 p4 L9 p6).fr f27.2) (⟨f27.1, fun _ _ _ => rfl⟩) (f28) (f29) (f30) (f31) (fun s32 f33 f34 f35 => ?_)
          show zW ro 70 179 [some (.ref 8), some (.int (Int32.ofInt w)), some (.int (Int32.ofInt h)), some (.int (Int32.ofInt d)), some (.int (Int32.ofInt d2_2)), some (.int (Int32.ofInt (k_1 : Int))), w3, w4] [] (zN L X (zhi s32) R G nc ns) Q
          refine zW.run 1 (pc' := 180) (ls' := [some (.ref 8), some (.int (Int32.ofInt w)), some (.int (Int32.ofInt h)), some (.int (Int32.ofInt d)), some (.int (Int32.ofInt d2_2)), some (.int (Int32.ofInt (k_1 : Int))), w3, w4]) (st' := [.ref 8]) (σ' := (zN L X (zhi s32) R G nc ns)) (fun n => rfl) ?_
          have e89 : s32 8 9 = w := by rw [f33.2 8 9 (by omega), f27.2 8 9 (by omega), zup_e1, if_neg (by decide), zup_e1, if_neg (by decide)]; exact L9.1.1
          have e810 : s32 8 10 = h := by rw [f33.2 8 10 (by omega), f27.2 8 10 (by omega), zup_e1, if_neg (by decide), zup_e1, if_neg (by decide)]; exact L9.1.2.1
          refine zW.callV rfl (by decide) rfl rfl rfl rfl rfl (Nat.le_of_ble_eq_true rfl) ?_
          refine t_Ground_openGate S (by omega) ?_
          show zW ro 70 183 [some (.ref 8), some (.int (Int32.ofInt w)), some (.int (Int32.ofInt h)), some (.int (Int32.ofInt d)), some (.int (Int32.ofInt d2_2)), some (.int (Int32.ofInt (k_1 : Int))), w3, w4] [] (zN L X (zhi (zup s32 8 13 ((6 * (s32 8 9)) + 6))) R G nc ns) Q
          exact zW.vret rfl (hQ0 (zup s32 8 13 ((6 * (s32 8 9)) + 6)) (zLO_of p0 p4 L9 f27 f33 f34 f35 e89))
        · skip
          refine zW.run 1 (pc' := 41) (ls' := [some (.ref 8), some (.int (Int32.ofInt w)), some (.int (Int32.ofInt h)), some (.int (Int32.ofInt d)), some (.int (Int32.ofInt d2_2)), some (.int (Int32.ofInt (k_1 : Int))), w3, w4]) (st' := [.ref 8]) (σ' := (zN L X (zhi s5) R G nc ns)) (fun n => rfl) ?_
          refine zW.getf (v := .ref 14) rfl rfl (zr_8 S (f := 5) (by decide)) ?_
          refine zW.run 2 (pc' := 47) (ls' := [some (.ref 8), some (.int (Int32.ofInt w)), some (.int (Int32.ofInt h)), some (.int (Int32.ofInt d)), some (.int (Int32.ofInt d2_2)), some (.int (Int32.ofInt (k_1 : Int))), w3, w4]) (st' := [.ref 8, .int (Int32.ofInt (k_1 : Int)), .ref 14]) (σ' := (zN L X (zhi s5) R G nc ns)) (fun n => rfl) ?_
          refine zW.run 1 (pc' := 50) (ls' := [some (.ref 8), some (.int (Int32.ofInt w)), some (.int (Int32.ofInt h)), some (.int (Int32.ofInt d)), some (.int (Int32.ofInt d2_2)), some (.int (Int32.ofInt (k_1 : Int))), w3, w4]) (st' := [.int (Int32.ofInt (s5 8 9)), .int (Int32.ofInt (k_1 : Int)), .ref 14]) (σ' := (zN L X (zhi s5) R G nc ns)) (fun n => rfl) ?_
          refine zW.jif_le rfl (by omega) (fun c36 => ?_) (fun c36 => ?_)
          · exfalso; omega
          refine zW.run 2 (pc' := 56) (ls' := [some (.ref 8), some (.int (Int32.ofInt w)), some (.int (Int32.ofInt h)), some (.int (Int32.ofInt d)), some (.int (Int32.ofInt d2_2)), some (.int (Int32.ofInt (k_1 : Int))), w3, w4]) (st' := [.ref 8, .int (Int32.ofInt (k_1 : Int)), .int (Int32.ofInt (k_1 : Int)), .ref 14]) (σ' := (zN L X (zhi s5) R G nc ns)) (fun n => rfl) ?_
          refine zW.run 1 (pc' := 59) (ls' := [some (.ref 8), some (.int (Int32.ofInt w)), some (.int (Int32.ofInt h)), some (.int (Int32.ofInt d)), some (.int (Int32.ofInt d2_2)), some (.int (Int32.ofInt (k_1 : Int))), w3, w4]) (st' := [.int (Int32.ofInt (s5 8 9)), .int (Int32.ofInt (k_1 : Int)), .int (Int32.ofInt (k_1 : Int)), .ref 14]) (σ' := (zN L X (zhi s5) R G nc ns)) (fun n => rfl) ?_
          refine zW.jrem rfl (by omega) ?_
          refine zW.run 1 (pc' := 64) (ls' := [some (.ref 8), some (.int (Int32.ofInt w)), some (.int (Int32.ofInt h)), some (.int (Int32.ofInt d)), some (.int (Int32.ofInt d2_2)), some (.int (Int32.ofInt (k_1 : Int))), w3, w4]) (st' := [.int (Int32.ofInt ((k_1 : Int) % (s5 8 9))), .int (Int32.ofInt (k_1 : Int)), .ref 14]) (σ' := (zN L X (zhi s5) R G nc ns)) (fun n => rfl) ?_
          refine zW.jast (n := 144) rfl rfl (by decide) (by omega) ?_
          refine zW.run 1 (pc' := 66) (ls' := [some (.ref 8), some (.int (Int32.ofInt w)), some (.int (Int32.ofInt h)), some (.int (Int32.ofInt d)), some (.int (Int32.ofInt d2_2)), some (.int (Int32.ofInt (k_1 : Int))), w3, w4]) (st' := [.ref 8]) (σ' := (zN L X (zhi (zup s5 14 k_1 ((k_1 : Int) % (s5 8 9)))) R G nc ns)) (fun n => rfl) ?_
          refine zW.getf (v := .ref 15) rfl rfl (zr_8 S (f := 6) (by decide)) ?_
          refine zW.run 2 (pc' := 72) (ls' := [some (.ref 8), some (.int (Int32.ofInt w)), some (.int (Int32.ofInt h)), some (.int (Int32.ofInt d)), some (.int (Int32.ofInt d2_2)), some (.int (Int32.ofInt (k_1 : Int))), w3, w4]) (st' := [.ref 8, .int (Int32.ofInt (k_1 : Int)), .ref 15]) (σ' := (zN L X (zhi (zup s5 14 k_1 ((k_1 : Int) % (s5 8 9)))) R G nc ns)) (fun n => rfl) ?_
          refine zW.jget (v := (s5 8 9)) rfl rfl (fun _ _ _ => rfl) (zup_nj (by omega)) ?_
          refine zW.jif_le rfl (by omega) (fun c37 => ?_) (fun c37 => ?_)
          · exfalso; omega
          refine zW.run 2 (pc' := 81) (ls' := [some (.ref 8), some (.int (Int32.ofInt w)), some (.int (Int32.ofInt h)), some (.int (Int32.ofInt d)), some (.int (Int32.ofInt d2_2)), some (.int (Int32.ofInt (k_1 : Int))), w3, w4]) (st' := [.ref 8, .int (Int32.ofInt (k_1 : Int)), .int (Int32.ofInt (k_1 : Int)), .ref 15]) (σ' := (zN L X (zhi (zup s5 14 k_1 ((k_1 : Int) % (s5 8 9)))) R G nc ns)) (fun n => rfl) ?_
          refine zW.jget (v := (s5 8 9)) rfl rfl (fun _ _ _ => rfl) (zup_nj (by omega)) ?_
          refine zW.jdiv rfl (by omega) ?_
          refine zW.run 1 (pc' := 89) (ls' := [some (.ref 8), some (.int (Int32.ofInt w)), some (.int (Int32.ofInt h)), some (.int (Int32.ofInt d)), some (.int (Int32.ofInt d2_2)), some (.int (Int32.ofInt (k_1 : Int))), w3, w4]) (st' := [.int (Int32.ofInt ((k_1 : Int) / (s5 8 9))), .int (Int32.ofInt (k_1 : Int)), .ref 15]) (σ' := (zN L X (zhi (zup s5 14 k_1 ((k_1 : Int) % (s5 8 9)))) R G nc ns)) (fun n => rfl) ?_
          refine zW.jast (n := 144) rfl rfl (by decide) (by omega) ?_
          refine zW.run 6 (pc' := 99) (ls' := [some (.ref 8), some (.int (Int32.ofInt w)), some (.int (Int32.ofInt h)), some (.int (Int32.ofInt d)), some (.int (Int32.ofInt d2_2)), some (.int (Int32.ofInt (k_1 : Int))), some (.int (Int32.ofInt 0)), some (.int (Int32.ofInt 0))]) (st' := [.int (Int32.ofInt 100), .int (Int32.ofInt d)]) (σ' := (zN L X (zhi (zup (zup s5 14 k_1 ((k_1 : Int) % (s5 8 9))) 15 k_1 ((k_1 : Int) / (s5 8 9)))) R G nc ns)) (fun n => rfl) ?_
          refine zW.jcmp_ge rfl (by omega) (fun c38 => ?_) (fun c38 => ?_)
          · exfalso; omega
          refine zW.run 1 (pc' := 104) (ls' := [some (.ref 8), some (.int (Int32.ofInt w)), some (.int (Int32.ofInt h)), some (.int (Int32.ofInt d)), some (.int (Int32.ofInt d2_2)), some (.int (Int32.ofInt (k_1 : Int))), some (.int (Int32.ofInt 0)), some (.int (Int32.ofInt 0))]) (st' := [.int (Int32.ofInt d2_2)]) (σ' := (zN L X (zhi (zup (zup s5 14 k_1 ((k_1 : Int) % (s5 8 9))) 15 k_1 ((k_1 : Int) / (s5 8 9)))) R G nc ns)) (fun n => rfl) ?_
          refine zW.callS rfl rfl rfl rfl rfl (Nat.le_of_ble_eq_true rfl) ?_
          refine t_S_nextDrawn S (d := d2_2) (by omega) (fun v_39 f40 => ?_)
          show zW ro 70 107 [some (.ref 8), some (.int (Int32.ofInt w)), some (.int (Int32.ofInt h)), some (.int (Int32.ofInt d)), some (.int (Int32.ofInt d2_2)), some (.int (Int32.ofInt (k_1 : Int))), some (.int (Int32.ofInt 0)), some (.int (Int32.ofInt 0))] [.int (Int32.ofInt v_39)] (zN L X (zhi (zup (zup s5 14 k_1 ((k_1 : Int) % (s5 8 9))) 15 k_1 ((k_1 : Int) / (s5 8 9)))) R G nc ns) Q
          refine zW.run 3 (pc' := 112) (ls' := [some (.ref 8), some (.int (Int32.ofInt w)), some (.int (Int32.ofInt h)), some (.int (Int32.ofInt d)), some (.int (Int32.ofInt v_39)), some (.int (Int32.ofInt (k_1 : Int))), some (.int (Int32.ofInt 0)), some (.int (Int32.ofInt 0))]) (st' := [.int (Int32.ofInt 3), .int (Int32.ofInt v_39)]) (σ' := (zN L X (zhi (zup (zup s5 14 k_1 ((k_1 : Int) % (s5 8 9))) 15 k_1 ((k_1 : Int) / (s5 8 9)))) R G nc ns)) (fun n => rfl) ?_
          refine zW.jrem rfl (by omega) ?_
          refine zW.run 2 (pc' := 117) (ls' := [some (.ref 8), some (.int (Int32.ofInt w)), some (.int (Int32.ofInt h)), some (.int (Int32.ofInt d)), some (.int (Int32.ofInt v_39)), some (.int (Int32.ofInt (k_1 : Int))), some (.int (Int32.ofInt (v_39 % 3))), some (.int (Int32.ofInt 0))]) (st' := [.int (Int32.ofInt v_39)]) (σ' := (zN L X (zhi (zup (zup s5 14 k_1 ((k_1 : Int) % (s5 8 9))) 15 k_1 ((k_1 : Int) / (s5 8 9)))) R G nc ns)) (fun n => rfl) ?_
          refine zW.callS rfl rfl rfl rfl rfl (Nat.le_of_ble_eq_true rfl) ?_
          refine t_S_nextDrawn S (d := v_39) (by omega) (fun v_41 f42 => ?_)
          show zW ro 70 120 [some (.ref 8), some (.int (Int32.ofInt w)), some (.int (Int32.ofInt h)), some (.int (Int32.ofInt d)), some (.int (Int32.ofInt v_39)), some (.int (Int32.ofInt (k_1 : Int))), some (.int (Int32.ofInt (v_39 % 3))), some (.int (Int32.ofInt 0))] [.int (Int32.ofInt v_41)] (zN L X (zhi (zup (zup s5 14 k_1 ((k_1 : Int) % (s5 8 9))) 15 k_1 ((k_1 : Int) / (s5 8 9)))) R G nc ns) Q
          refine zW.run 3 (pc' := 126) (ls' := [some (.ref 8), some (.int (Int32.ofInt w)), some (.int (Int32.ofInt h)), some (.int (Int32.ofInt d)), some (.int (Int32.ofInt v_41)), some (.int (Int32.ofInt (k_1 : Int))), some (.int (Int32.ofInt (v_39 % 3))), some (.int (Int32.ofInt 0))]) (st' := [.int (Int32.ofInt 10), .int (Int32.ofInt v_41)]) (σ' := (zN L X (zhi (zup (zup s5 14 k_1 ((k_1 : Int) % (s5 8 9))) 15 k_1 ((k_1 : Int) / (s5 8 9)))) R G nc ns)) (fun n => rfl) ?_
          refine zW.jrem rfl (by omega) ?_
          refine zW.callS rfl rfl rfl rfl rfl (Nat.le_of_ble_eq_true rfl) ?_
          refine t_Ground_soilBy S (d := (v_41 % 10)) (by omega) (fun v_43 f44 => ?_)
          show zW ro 70 130 [some (.ref 8), some (.int (Int32.ofInt w)), some (.int (Int32.ofInt h)), some (.int (Int32.ofInt d)), some (.int (Int32.ofInt v_41)), some (.int (Int32.ofInt (k_1 : Int))), some (.int (Int32.ofInt (v_39 % 3))), some (.int (Int32.ofInt 0))] [.int (Int32.ofInt v_43)] (zN L X (zhi (zup (zup s5 14 k_1 ((k_1 : Int) % (s5 8 9))) 15 k_1 ((k_1 : Int) / (s5 8 9)))) R G nc ns) Q
          refine zW.run 7 (pc' := 141) (ls' := [some (.ref 8), some (.int (Int32.ofInt w)), some (.int (Int32.ofInt h)), some (.int (Int32.ofInt d)), some (.int (Int32.ofInt v_41)), some (.int (Int32.ofInt (k_1 : Int))), some (.int (Int32.ofInt (v_39 % 3))), some (.int (Int32.ofInt v_43))]) (st' := [.int (Int32.ofInt 0), .int (Int32.ofInt 0), .int (Int32.ofInt v_43), .int (Int32.ofInt (v_39 % 3)), .int (Int32.ofInt (k_1 : Int)), .ref 8]) (σ' := (zN L X (zhi (zup (zup s5 14 k_1 ((k_1 : Int) % (s5 8 9))) 15 k_1 ((k_1 : Int) / (s5 8 9)))) R G nc ns)) (fun n => rfl) ?_
          refine zW.callV rfl (by decide) rfl rfl rfl rfl rfl (Nat.le_of_ble_eq_true rfl) ?_
          refine t_Ground_shape_b0 S (x := (k_1 : Int)) (a := (v_39 % 3)) (b := v_43) (e := 0) (c := c) (by omega) (⟨(((zup_nj (by omega)).trans (zup_nj (by omega)))).trans (by omega), by omega⟩) ?_
          show zW ro 70 144 [some (.ref 8), some (.int (Int32.ofInt w)), some (.int (Int32.ofInt h)), some (.int (Int32.ofInt d)), some (.int (Int32.ofInt v_41)), some (.int (Int32.ofInt (k_1 : Int))), some (.int (Int32.ofInt (v_39 % 3))), some (.int (Int32.ofInt v_43))] [] (zN L X (zhi (zup (zup (zup (zup (zup (zup (zup s5 14 k_1 ((k_1 : Int) % (s5 8 9))) 15 k_1 ((k_1 : Int) / (s5 8 9))) 9 k_1 (v_39 % 3)) 10 k_1 v_43) 11 k_1 0) 12 k_1 0) 13 k_1 0)) R G nc ns) Q
          refine zW.jinc (ls' := [some (.ref 8), some (.int (Int32.ofInt w)), some (.int (Int32.ofInt h)), some (.int (Int32.ofInt d)), some (.int (Int32.ofInt v_41)), some (.int (Int32.ofInt ((k_1 : Int) + 1))), some (.int (Int32.ofInt (v_39 % 3))), some (.int (Int32.ofInt v_43))]) rfl (Nat.le_of_ble_eq_true rfl) rfl rfl ?_
          refine zW.run 1 (pc' := 23) (ls' := [some (.ref 8), some (.int (Int32.ofInt w)), some (.int (Int32.ofInt h)), some (.int (Int32.ofInt d)), some (.int (Int32.ofInt v_41)), some (.int (Int32.ofInt ((k_1 : Int) + 1))), some (.int (Int32.ofInt (v_39 % 3))), some (.int (Int32.ofInt v_43))]) (st' := []) (σ' := (zN L X (zhi (zup (zup (zup (zup (zup (zup (zup s5 14 k_1 ((k_1 : Int) % (s5 8 9))) 15 k_1 ((k_1 : Int) / (s5 8 9))) 9 k_1 (v_39 % 3)) 10 k_1 v_43) 11 k_1 0) 12 k_1 0) 13 k_1 0)) R G nc ns)) (fun n => rfl) ?_
          exact ih10 (k_1 + 1) v_41 (some (.int (Int32.ofInt (v_39 % 3)))) (some (.int (Int32.ofInt v_43))) (zup (zup (zup (zup (zup (zup (zup s5 14 k_1 ((k_1 : Int) % (s5 8 9))) 15 k_1 ((k_1 : Int) / (s5 8 9))) 9 k_1 (v_39 % 3)) 10 k_1 v_43) 11 k_1 0) 12 k_1 0) 13 k_1 0) (zLf_1 c6 (by omega) (by omega)) (by omega) (by omega) (by omega)
  exact J9 _ 0 d none none (zup (zup (zup s 8 9 w) 8 10 h) 8 11 (w * h)) (zLf_0 p3 p5) (by omega) (by omega) (Nat.lt_succ_self _)
set_option maxRecDepth 20000 in
set_option maxHeartbeats 20000000 in
theorem t_S_lay (S : zSR R) {w : Int} {h : Int} {d : Int} {c : Int} {gt : Nat} (p0 : 8 ≤ w ∧ w ≤ 12) (p1 : 8 ≤ h ∧ h ≤ 12) (p2 : 0 ≤ d ∧ d < 100) (p3 : w * h = c) (p4 : (gt : Int) = 6 * w + 6) (p5 : ∀ j : Nat, s 9 j = 0 ∧ s 10 j = 0 ∧ s 11 j = 0 ∧ s 12 j = 0 ∧ s 13 j = 0) (p6 : ∀ p k : Nat, p < 5 → k < 6 → 0 ≤ s p k ∧ s p k ≤ 12) (p7 : 64 ≤ c ∧ c ≤ 144 ∧ 6 * w + 6 < c) (p8 : s 7 11 = 0) (p9 : ∀ i : Nat, i < 16 → s (26 + i) 0 = -1 ∧ s (26 + i) 1 = -1 ∧ s (26 + i) 2 = 0) (p10 : ∀ i : Nat, i < 12 → s (42 + i) 0 = -1 ∧ s (42 + i) 1 = -1 ∧ s (42 + i) 2 = 0) (p11 : s 7 7 = 0 ∧ s 7 8 = 0 ∧ s 7 14 = 0 ∧ s 7 15 = 0 ∧ s 23 4 = 10) (p12 : s 21 0 = 0 ∧ s 21 1 = 0 ∧ s 21 2 = 0 ∧ s 21 3 = 60 ∧ s 22 0 = 0 ∧ s 22 1 = 0 ∧ s 22 2 = 0 ∧ s 22 3 = 60) (hQ0 : ∀ (s1 : zJ) (v : Int), zLO w h c s s1 → Q (.inl (some (.int (Int32.ofInt v)))) (zN L X (zhi s1) R G nc ns)) : zW ro 12 0 (zfst [.ref 6, .int (Int32.ofInt w), .int (Int32.ofInt h), .int (Int32.ofInt d)] 4) [] (zN L X (zhi s) R G nc ns) Q := by
  show zW ro 12 0 [some (.ref 6), some (.int (Int32.ofInt w)), some (.int (Int32.ofInt h)), some (.int (Int32.ofInt d))] [] (zN L X (zhi s) R G nc ns) Q
  refine zW.run 2 (pc' := 2) (ls' := [some (.ref 6), some (.int (Int32.ofInt w)), some (.int (Int32.ofInt h)), some (.int (Int32.ofInt d))]) (st' := [.int (Int32.ofInt 5), .int (Int32.ofInt w)]) (σ' := (zN L X (zhi s) R G nc ns)) (fun n => rfl) ?_
  refine zW.jcmp_lt rfl (by omega) (fun c1 => ?_) (fun c1 => ?_)
  · skip
    exfalso
    omega
  · skip
    refine zW.run 2 (pc' := 8) (ls' := [some (.ref 6), some (.int (Int32.ofInt w)), some (.int (Int32.ofInt h)), some (.int (Int32.ofInt d))]) (st' := [.int (Int32.ofInt 12), .int (Int32.ofInt w)]) (σ' := (zN L X (zhi s) R G nc ns)) (fun n => rfl) ?_
    refine zW.jcmp_gt rfl (by omega) (fun c2 => ?_) (fun c2 => ?_)
    · skip
      exfalso
      omega
    · skip
      refine zW.run 2 (pc' := 13) (ls' := [some (.ref 6), some (.int (Int32.ofInt w)), some (.int (Int32.ofInt h)), some (.int (Int32.ofInt d))]) (st' := [.int (Int32.ofInt 5), .int (Int32.ofInt h)]) (σ' := (zN L X (zhi s) R G nc ns)) (fun n => rfl) ?_
      refine zW.jcmp_lt rfl (by omega) (fun c3 => ?_) (fun c3 => ?_)
      · skip
        exfalso
        omega
      · skip
        refine zW.run 2 (pc' := 19) (ls' := [some (.ref 6), some (.int (Int32.ofInt w)), some (.int (Int32.ofInt h)), some (.int (Int32.ofInt d))]) (st' := [.int (Int32.ofInt 12), .int (Int32.ofInt h)]) (σ' := (zN L X (zhi s) R G nc ns)) (fun n => rfl) ?_
        refine zW.jcmp_gt rfl (by omega) (fun c4 => ?_) (fun c4 => ?_)
        · skip
          exfalso
          omega
        · skip
          refine zW.run 1 (pc' := 23) (ls' := [some (.ref 6), some (.int (Int32.ofInt w)), some (.int (Int32.ofInt h)), some (.int (Int32.ofInt d))]) (st' := [.int (Int32.ofInt d)]) (σ' := (zN L X (zhi s) R G nc ns)) (fun n => rfl) ?_
          refine zW.jif_lt rfl (by omega) (fun c5 => ?_) (fun c5 => ?_)
          · skip
            exfalso
            omega
          · skip
            refine zW.run 2 (pc' := 29) (ls' := [some (.ref 6), some (.int (Int32.ofInt w)), some (.int (Int32.ofInt h)), some (.int (Int32.ofInt d))]) (st' := [.int (Int32.ofInt 100), .int (Int32.ofInt d)]) (σ' := (zN L X (zhi s) R G nc ns)) (fun n => rfl) ?_
            refine zW.jcmp_le rfl (by omega) (fun c6 => ?_) (fun c6 => ?_)
            · skip
              refine zW.run 1 (pc' := 43) (ls' := [some (.ref 6), some (.int (Int32.ofInt w)), some (.int (Int32.ofInt h)), some (.int (Int32.ofInt d))]) (st' := [.ref 6]) (σ' := (zN L X (zhi s) R G nc ns)) (fun n => rfl) ?_
              refine zW.getf (v := .ref 7) rfl rfl (zr_6_0 S) ?_
              refine zW.run 1 (pc' := 49) (ls' := [some (.ref 6), some (.int (Int32.ofInt w)), some (.int (Int32.ofInt h)), some (.int (Int32.ofInt d))]) (st' := [.int (Int32.ofInt (s 7 11))]) (σ' := (zN L X (zhi s) R G nc ns)) (fun n => rfl) ?_
              refine zW.jif_eq rfl (by omega) (fun c7 => ?_) (fun c7 => ?_)
              · skip
                refine zW.run 1 (pc' := 63) (ls' := [some (.ref 6), some (.int (Int32.ofInt w)), some (.int (Int32.ofInt h)), some (.int (Int32.ofInt d))]) (st' := [.ref 6]) (σ' := (zN L X (zhi s) R G nc ns)) (fun n => rfl) ?_
                refine zW.getf (v := .ref 7) rfl rfl (zr_6_0 S) ?_
                refine zW.callV rfl (by decide) rfl rfl rfl rfl rfl (Nat.le_of_ble_eq_true rfl) ?_
                refine t_Siege_startOver S (p9) (p10) (p11) (p12) ?_
                show zW ro 12 69 [some (.ref 6), some (.int (Int32.ofInt w)), some (.int (Int32.ofInt h)), some (.int (Int32.ofInt d))] [] (zN L X (zhi s) R G nc ns) Q
                refine zW.run 1 (pc' := 70) (ls' := [some (.ref 6), some (.int (Int32.ofInt w)), some (.int (Int32.ofInt h)), some (.int (Int32.ofInt d))]) (st' := [.ref 6]) (σ' := (zN L X (zhi s) R G nc ns)) (fun n => rfl) ?_
                refine zW.getf (v := .ref 7) rfl rfl (zr_6_0 S) ?_
                refine zW.getf (v := .ref 8) rfl rfl (zr_7_0 S) ?_
                refine zW.run 3 (pc' := 79) (ls' := [some (.ref 6), some (.int (Int32.ofInt w)), some (.int (Int32.ofInt h)), some (.int (Int32.ofInt d))]) (st' := [.int (Int32.ofInt d), .int (Int32.ofInt h), .int (Int32.ofInt w), .ref 8]) (σ' := (zN L X (zhi s) R G nc ns)) (fun n => rfl) ?_
                refine zW.callV rfl (by decide) rfl rfl rfl rfl rfl (Nat.le_of_ble_eq_true rfl) ?_
                refine t_Ground_layOut S (w := w) (h := h) (d := d) (c := c) (gt := gt) (by omega) (by omega) (by omega) (p3) (by omega) (p5) (p6) (by omega) (fun s8 f9 => ?_)
                show zW ro 12 82 [some (.ref 6), some (.int (Int32.ofInt w)), some (.int (Int32.ofInt h)), some (.int (Int32.ofInt d))] [] (zN L X (zhi s8) R G nc ns) Q
                refine zW.run 1 (pc' := 83) (ls' := [some (.ref 6), some (.int (Int32.ofInt w)), some (.int (Int32.ofInt h)), some (.int (Int32.ofInt d))]) (st' := [.ref 6]) (σ' := (zN L X (zhi s8) R G nc ns)) (fun n => rfl) ?_
                refine zW.getf (v := .ref 7) rfl rfl (zr_6_0 S) ?_
                refine zW.getf (v := .ref 8) rfl rfl (zr_7_0 S) ?_
                refine zW.run 1 (pc' := 90) (ls' := [some (.ref 6), some (.int (Int32.ofInt w)), some (.int (Int32.ofInt h)), some (.int (Int32.ofInt d))]) (st' := [.int (Int32.ofInt 1), .ref 8]) (σ' := (zN L X (zhi s8) R G nc ns)) (fun n => rfl) ?_
                have zA9 := (zA_of (t := 6 * w + 6) p0 p1 p3 (by omega) f9.1 f9.2.2.2.1 (fun p k hp hk => by rw [f9.2.2.2.2 p k (by omega)]; exact p6 p k hp hk)).1
                refine zW.callV rfl (by decide) rfl rfl rfl rfl rfl (Nat.le_of_ble_eq_true rfl) ?_
                refine t_Ground_countOf_w S zA9 (x := (Int32.ofInt 1)) (fun v_10 => ?_)
                show zW ro 12 93 [some (.ref 6), some (.int (Int32.ofInt w)), some (.int (Int32.ofInt h)), some (.int (Int32.ofInt d))] [.int (Int32.ofInt v_10)] (zN L X (zhi s8) R G nc ns) Q
                exact zW.jret rfl rfl (hQ0 s8 v_10 (f9))
              · skip
                exfalso
                omega
            · skip
              exfalso
              omega
end ZB
