/-! an hour, and what is ordered (printed by program) -/
section ZB
variable {ro : Nat → Int32 → zS → Option (zO × zS)} {L : Nat} {X : zK} {s : zJ} {R : Nat → Nat → Option Nat} {G : Nat → Nat → Int64} {nc ns : Nat} {Q : zO → zS → Prop} {g : Nat → Int} {U F T B ph : Int}
theorem zsk {m c : Int} (h : 0 ≤ m) (k : 0 ≤ c ∧ c ≤ 4) : 0 ≤ m / 50 * c ∧ m / 50 * c ≤ m := by
  have h1 : 0 ≤ m / 50 := by omega
  have h2 : m / 50 * c ≤ m / 50 * 4 := Int.mul_le_mul_of_nonneg_left k.2 h1
  exact ⟨Int.mul_nonneg h1 k.1, by omega⟩
theorem zds {m o : Int} (h : 0 ≤ m ∧ m ≤ 200) (k : 0 ≤ o ∧ o ≤ 40) : 0 ≤ m * (40 - o) ∧ m * (40 - o) ≤ 8000 := ⟨Int.mul_nonneg h.1 (by omega), Int.le_trans (Int.mul_le_mul (c := 200) (d := 40) h.2 (by omega) (by omega) (by omega)) (by omega)⟩
set_option maxHeartbeats 4000000 in
theorem t_Siege_end (S : zSR R) {x : Int}  (hQ0 : Q (.inl none) (zN L X (zhi (zup (zup s 7 11 2) 7 12 x)) R G nc ns)) : zW ro 134 0 (zfst [.ref 7, .int (Int32.ofInt x)] 2) [] (zN L X (zhi s) R G nc ns) Q := by
  show zW ro 134 0 [some (.ref 7), some (.int (Int32.ofInt x))] [] (zN L X (zhi s) R G nc ns) Q
  refine zW.run 2 (pc' := 2) (ls' := [some (.ref 7), some (.int (Int32.ofInt x))]) (st' := [.int (Int32.ofInt 2), .ref 7]) (σ' := (zN L X (zhi s) R G nc ns)) (fun n => rfl) ?_
  refine zW.jput rfl rfl rfl ?_
  refine zW.run 2 (pc' := 7) (ls' := [some (.ref 7), some (.int (Int32.ofInt x))]) (st' := [.int (Int32.ofInt x), .ref 7]) (σ' := (zN L X (zhi (zup s 7 11 2)) R G nc ns)) (fun n => rfl) ?_
  refine zW.jput rfl rfl rfl ?_
  exact zW.vret rfl hQ0
set_option maxHeartbeats 4000000 in
theorem t_Siege_askWhetherOver (S : zSR R) (V : zV g U F T B 1 s)   (hQ0 : ∀ (s1 : zJ), zV g U F T B 2 s1 → Q (.inl (some (.int (Int32.ofInt 1)))) (zN L X (zhi s1) R G nc ns)) (hQ1 : Q (.inl (some (.int (Int32.ofInt 0)))) (zN L X (zhi s) R G nc ns)) : zW ro 127 0 (zfst [.ref 7] 1) [] (zN L X (zhi s) R G nc ns) Q := by
  show zW ro 127 0 [some (.ref 7)] [] (zN L X (zhi s) R G nc ns) Q
  have f1 := zA_geo (zV_zA V)
  have hB0 := zV_B V
  have f2 := zV_sie V
  refine zW.run 3 (pc' := 3) (ls' := [some (.ref 7)]) (st' := [.ref 7, .int (Int32.ofInt 0), .ref 7]) (σ' := (zN L X (zhi s) R G nc ns)) (fun n => rfl) ?_
  refine zW.getf (v := .ref 8) rfl rfl (zr_7_0 S) ?_
  refine zW.run 1 (pc' := 9) (ls' := [some (.ref 7)]) (st' := [.int (Int32.ofInt (s 8 13)), .int (Int32.ofInt 0), .ref 7]) (σ' := (zN L X (zhi s) R G nc ns)) (fun n => rfl) ?_
  refine zW.callV rfl (by decide) rfl rfl rfl rfl rfl (Nat.le_of_ble_eq_true rfl) ?_
  refine t_Siege_isHeldBy S V (x := 0) (y := (s 8 13)) (by omega) (by omega) ?_ ?_
  · skip
    show zW ro 127 12 [some (.ref 7)] [.int (Int32.ofInt 1)] (zN L X (zhi s) R G nc ns) Q
    refine zW.run 3 (pc' := 17) (ls' := [some (.ref 7)]) (st' := [.ref 7, .ref 7]) (σ' := (zN L X (zhi s) R G nc ns)) (fun n => rfl) ?_
    refine zW.run 2 (pc' := 21) (ls' := [some (.ref 7)]) (st' := [.int (Int32.ofInt 2), .int (Int32.ofInt (s 7 14)), .ref 7]) (σ' := (zN L X (zhi s) R G nc ns)) (fun n => rfl) ?_
    refine zW.jdiv rfl (by omega) ?_
    refine zW.jput rfl rfl rfl ?_
    refine zW.run 2 (pc' := 27) (ls' := [some (.ref 7)]) (st' := [.int (Int32.ofInt 0), .ref 7]) (σ' := (zN L X (zhi (zup s 7 14 ((s 7 14) / 2))) R G nc ns)) (fun n => rfl) ?_
    refine zW.callV rfl (by decide) rfl rfl rfl rfl rfl (Nat.le_of_ble_eq_true rfl) ?_
    refine t_Siege_end S (x := 0) ?_
    show zW ro 127 30 [some (.ref 7)] [] (zN L X (zhi (zup (zup (zup s 7 14 ((s 7 14) / 2)) 7 11 2) 7 12 0)) R G nc ns) Q
    refine zW.run 2 (pc' := 73) (ls' := [some (.ref 7)]) (st' := [.ref 7]) (σ' := (zN L X (zhi (zup (zup (zup s 7 14 ((s 7 14) / 2)) 7 11 2) 7 12 0)) R G nc ns)) (fun n => rfl) ?_
    refine zW.jget (v := 2) rfl rfl (fun _ _ _ => rfl) ((zup_nj (by omega)).trans zup_ej) ?_
    refine zW.run 4 (pc' := 85) (ls' := [some (.ref 7)]) (st' := [.int (Int32.ofInt 1)]) (σ' := (zN L X (zhi (zup (zup (zup s 7 14 ((s 7 14) / 2)) 7 11 2) 7 12 0)) R G nc ns)) (fun n => rfl) ?_
    have V3 : zV g U F T B 2 (zup (zup (zup s 7 14 ((s 7 14) / 2)) 7 11 2) 7 12 0) := (V_end1 V (by omega))
    generalize hs4 : (zup (zup (zup s 7 14 ((s 7 14) / 2)) 7 11 2) 7 12 0) = s4 at V3 ⊢
    exact zW.jretb rfl rfl (by decide) (hQ0 s4 V3)
  · skip
    show zW ro 127 12 [some (.ref 7)] [.int (Int32.ofInt 0)] (zN L X (zhi s) R G nc ns) Q
    refine zW.run 3 (pc' := 35) (ls' := [some (.ref 7)]) (st' := [.int (Int32.ofInt 1), .ref 7]) (σ' := (zN L X (zhi s) R G nc ns)) (fun n => rfl) ?_
    refine zW.callV rfl (by decide) rfl rfl rfl rfl rfl (Nat.le_of_ble_eq_true rfl) ?_
    refine t_Siege_companiesOf S V (x := 1) (by omega) (fun v_5 f6 f7 => ?_)
    show zW ro 127 38 [some (.ref 7)] [.int (Int32.ofInt v_5)] (zN L X (zhi s) R G nc ns) Q
    refine zW.jif_ne rfl (by omega) (fun c8 => ?_) (fun c8 => ?_)
    · skip
      refine zW.run 1 (pc' := 50) (ls' := [some (.ref 7)]) (st' := [.ref 7]) (σ' := (zN L X (zhi s) R G nc ns)) (fun n => rfl) ?_
      refine zW.getf (v := .ref 21) rfl rfl (zr_7_4 S) ?_
      have f9 := zV_sid V (o := 21) (by omega)
      refine zW.run 1 (pc' := 56) (ls' := [some (.ref 7)]) (st' := [.int (Int32.ofInt (s 21 3))]) (σ' := (zN L X (zhi s) R G nc ns)) (fun n => rfl) ?_
      refine zW.jif_eq rfl (by omega) (fun c10 => ?_) (fun c10 => ?_)
      · skip
        refine zW.run 2 (pc' := 69) (ls' := [some (.ref 7)]) (st' := [.int (Int32.ofInt (-1)), .ref 7]) (σ' := (zN L X (zhi s) R G nc ns)) (fun n => rfl) ?_
        refine zW.callV rfl (by decide) rfl rfl rfl rfl rfl (Nat.le_of_ble_eq_true rfl) ?_
        refine t_Siege_end S (x := (-1)) ?_
        show zW ro 127 72 [some (.ref 7)] [] (zN L X (zhi (zup (zup s 7 11 2) 7 12 (-1))) R G nc ns) Q
        refine zW.run 1 (pc' := 73) (ls' := [some (.ref 7)]) (st' := [.ref 7]) (σ' := (zN L X (zhi (zup (zup s 7 11 2) 7 12 (-1))) R G nc ns)) (fun n => rfl) ?_
        refine zW.jget (v := 2) rfl rfl (fun _ _ _ => rfl) ((zup_nj (by omega)).trans zup_ej) ?_
        refine zW.run 4 (pc' := 85) (ls' := [some (.ref 7)]) (st' := [.int (Int32.ofInt 1)]) (σ' := (zN L X (zhi (zup (zup s 7 11 2) 7 12 (-1))) R G nc ns)) (fun n => rfl) ?_
        have V11 : zV g U F T B 2 (zup (zup s 7 11 2) 7 12 (-1)) := (V_end0 V (by omega))
        generalize hs12 : (zup (zup s 7 11 2) 7 12 (-1)) = s12 at V11 ⊢
        exact zW.jretb rfl rfl (by decide) (hQ0 s12 V11)
      · skip
        refine zW.run 2 (pc' := 61) (ls' := [some (.ref 7)]) (st' := [.int (Int32.ofInt 0), .ref 7]) (σ' := (zN L X (zhi s) R G nc ns)) (fun n => rfl) ?_
        refine zW.callV rfl (by decide) rfl rfl rfl rfl rfl (Nat.le_of_ble_eq_true rfl) ?_
        refine t_Siege_companiesOf S V (x := 0) (by omega) (fun v_13 f14 f15 => ?_)
        show zW ro 127 64 [some (.ref 7)] [.int (Int32.ofInt v_13)] (zN L X (zhi s) R G nc ns) Q
        refine zW.jif_ne rfl (by omega) (fun c16 => ?_) (fun c16 => ?_)
        · skip
          refine zW.run 1 (pc' := 73) (ls' := [some (.ref 7)]) (st' := [.ref 7]) (σ' := (zN L X (zhi s) R G nc ns)) (fun n => rfl) ?_
          refine zW.run 2 (pc' := 77) (ls' := [some (.ref 7)]) (st' := [.int (Int32.ofInt 2), .int (Int32.ofInt (s 7 11))]) (σ' := (zN L X (zhi s) R G nc ns)) (fun n => rfl) ?_
          refine zW.jcmp_ne rfl (by omega) (fun c17 => ?_) (fun c17 => ?_)
          rotate_left
          · exfalso; omega
          refine zW.run 1 (pc' := 85) (ls' := [some (.ref 7)]) (st' := [.int (Int32.ofInt 0)]) (σ' := (zN L X (zhi s) R G nc ns)) (fun n => rfl) ?_
          exact zW.jretb rfl rfl (by decide) hQ1
        · skip
          refine zW.run 2 (pc' := 69) (ls' := [some (.ref 7)]) (st' := [.int (Int32.ofInt (-1)), .ref 7]) (σ' := (zN L X (zhi s) R G nc ns)) (fun n => rfl) ?_
          refine zW.callV rfl (by decide) rfl rfl rfl rfl rfl (Nat.le_of_ble_eq_true rfl) ?_
          refine t_Siege_end S (x := (-1)) ?_
          show zW ro 127 72 [some (.ref 7)] [] (zN L X (zhi (zup (zup s 7 11 2) 7 12 (-1))) R G nc ns) Q
          refine zW.run 1 (pc' := 73) (ls' := [some (.ref 7)]) (st' := [.ref 7]) (σ' := (zN L X (zhi (zup (zup s 7 11 2) 7 12 (-1))) R G nc ns)) (fun n => rfl) ?_
          refine zW.jget (v := 2) rfl rfl (fun _ _ _ => rfl) ((zup_nj (by omega)).trans zup_ej) ?_
          refine zW.run 4 (pc' := 85) (ls' := [some (.ref 7)]) (st' := [.int (Int32.ofInt 1)]) (σ' := (zN L X (zhi (zup (zup s 7 11 2) 7 12 (-1))) R G nc ns)) (fun n => rfl) ?_
          have V18 : zV g U F T B 2 (zup (zup s 7 11 2) 7 12 (-1)) := (V_end0 V (by omega))
          generalize hs19 : (zup (zup s 7 11 2) 7 12 (-1)) = s19 at V18 ⊢
          exact zW.jretb rfl rfl (by decide) (hQ0 s19 V18)
    · skip
      refine zW.run 2 (pc' := 43) (ls' := [some (.ref 7)]) (st' := [.int (Int32.ofInt 0), .ref 7]) (σ' := (zN L X (zhi s) R G nc ns)) (fun n => rfl) ?_
      refine zW.callV rfl (by decide) rfl rfl rfl rfl rfl (Nat.le_of_ble_eq_true rfl) ?_
      refine t_Siege_end S (x := 0) ?_
      show zW ro 127 46 [some (.ref 7)] [] (zN L X (zhi (zup (zup s 7 11 2) 7 12 0)) R G nc ns) Q
      refine zW.run 2 (pc' := 73) (ls' := [some (.ref 7)]) (st' := [.ref 7]) (σ' := (zN L X (zhi (zup (zup s 7 11 2) 7 12 0)) R G nc ns)) (fun n => rfl) ?_
      refine zW.jget (v := 2) rfl rfl (fun _ _ _ => rfl) ((zup_nj (by omega)).trans zup_ej) ?_
      refine zW.run 4 (pc' := 85) (ls' := [some (.ref 7)]) (st' := [.int (Int32.ofInt 1)]) (σ' := (zN L X (zhi (zup (zup s 7 11 2) 7 12 0)) R G nc ns)) (fun n => rfl) ?_
      have V20 : zV g U F T B 2 (zup (zup s 7 11 2) 7 12 0) := (V_end0 V (by omega))
      generalize hs21 : (zup (zup s 7 11 2) 7 12 0) = s21 at V20 ⊢
      exact zW.jretb rfl rfl (by decide) (hQ0 s21 V20)
set_option maxHeartbeats 4000000 in
theorem t_Midnight_eat (S : zSR R) (V : zV g U F T B ph s) {x : Int} (p0 : x = 0 ∨ x = 1) (hQ0 : ∀ (s1 : zJ), zV g U F T B ph s1 → Q (.inl none) (zN L X (zhi s1) R G nc ns)) : zW ro 98 0 (zfst [.ref 7, .int (Int32.ofInt x)] 4) [] (zN L X (zhi s) R G nc ns) Q := by
  show zW ro 98 0 [some (.ref 7), some (.int (Int32.ofInt x)), none, none] [] (zN L X (zhi s) R G nc ns) Q
  have f1 := zA_geo (zV_zA V)
  have hB0 := zV_B V
  refine zW.run 2 (pc' := 2) (ls' := [some (.ref 7), some (.int (Int32.ofInt x)), none, none]) (st' := [.int (Int32.ofInt x), .ref 7]) (σ' := (zN L X (zhi s) R G nc ns)) (fun n => rfl) ?_
  refine zW.callV rfl (by decide) rfl rfl rfl rfl rfl (Nat.le_of_ble_eq_true rfl) ?_
  refine t_Siege_of S (x := x) (by omega) (fun o_2 f3 => ?_)
  show zW ro 98 5 [some (.ref 7), some (.int (Int32.ofInt x)), none, none] [.ref o_2] (zN L X (zhi s) R G nc ns) Q
  refine zW.run 3 (pc' := 8) (ls' := [some (.ref 7), some (.int (Int32.ofInt x)), some (.ref o_2), none]) (st' := [.int (Int32.ofInt x), .ref 7]) (σ' := (zN L X (zhi s) R G nc ns)) (fun n => rfl) ?_
  refine zW.callV rfl (by decide) rfl rfl rfl rfl rfl (Nat.le_of_ble_eq_true rfl) ?_
  refine t_Siege_menOf S V (x := x) (by omega) (fun v_4 f5 f6 => ?_)
  show zW ro 98 11 [some (.ref 7), some (.int (Int32.ofInt x)), some (.ref o_2), none] [.int (Int32.ofInt v_4)] (zN L X (zhi s) R G nc ns) Q
  refine zW.run 1 (pc' := 13) (ls' := [some (.ref 7), some (.int (Int32.ofInt x)), some (.ref o_2), none]) (st' := [.int (Int32.ofInt 10), .int (Int32.ofInt v_4)]) (σ' := (zN L X (zhi s) R G nc ns)) (fun n => rfl) ?_
  refine zW.jdiv rfl (by omega) ?_
  refine zW.run 2 (pc' := 16) (ls' := [some (.ref 7), some (.int (Int32.ofInt x)), some (.ref o_2), none]) (st' := [.int (Int32.ofInt 1), .int (Int32.ofInt x), .int (Int32.ofInt (v_4 / 10))]) (σ' := (zN L X (zhi s) R G nc ns)) (fun n => rfl) ?_
  have J8 : ∀ (v7 : Int), (¬ x = 1 ∧ v7 = 0) ∨ (x = 1 ∧ v7 = ((s 7 14) / 20)) → zW ro 98 30 [some (.ref 7), some (.int (Int32.ofInt x)), some (.ref o_2), none] [.int (Int32.ofInt v7), .int (Int32.ofInt (v_4 / 10))] (zN L X (zhi s) R G nc ns) Q := by
    intro v7 c9
    have f10 := zV_sie V
    refine zW.jadd rfl ?_
    refine zW.run 2 (pc' := 33) (ls' := [some (.ref 7), some (.int (Int32.ofInt x)), some (.ref o_2), some (.int (Int32.ofInt ((v_4 / 10) + v7)))]) (st' := [.ref o_2]) (σ' := (zN L X (zhi s) R G nc ns)) (fun n => rfl) ?_
    have f11 := zV_sid V (o := o_2) (by omega)
    refine zW.jget (v := (s o_2 1)) rfl (zk_sid (by omega)) (fun _ _ _ => rfl) rfl ?_
    refine zW.run 1 (pc' := 37) (ls' := [some (.ref 7), some (.int (Int32.ofInt x)), some (.ref o_2), some (.int (Int32.ofInt ((v_4 / 10) + v7)))]) (st' := [.int (Int32.ofInt ((v_4 / 10) + v7)), .int (Int32.ofInt (s o_2 1))]) (σ' := (zN L X (zhi s) R G nc ns)) (fun n => rfl) ?_
    refine zW.jcmp_lt rfl (by omega) (fun c12 => ?_) (fun c12 => ?_)
    · skip
      refine zW.run 2 (pc' := 60) (ls' := [some (.ref 7), some (.int (Int32.ofInt x)), some (.ref o_2), some (.int (Int32.ofInt ((v_4 / 10) + v7)))]) (st' := [.int (Int32.ofInt 0), .ref o_2]) (σ' := (zN L X (zhi s) R G nc ns)) (fun n => rfl) ?_
      refine zW.jput rfl (zk_sid (by omega)) rfl ?_
      refine zW.run 2 (pc' := 65) (ls' := [some (.ref 7), some (.int (Int32.ofInt x)), some (.ref o_2), some (.int (Int32.ofInt ((v_4 / 10) + v7)))]) (st' := [.ref o_2, .ref o_2]) (σ' := (zN L X (zhi (zup s o_2 1 0)) R G nc ns)) (fun n => rfl) ?_
      refine zW.jget (v := (s o_2 4)) rfl (zk_sid (by omega)) (fun _ _ _ => rfl) (zup_nj (by omega)) ?_
      refine zW.run 1 (pc' := 69) (ls' := [some (.ref 7), some (.int (Int32.ofInt x)), some (.ref o_2), some (.int (Int32.ofInt ((v_4 / 10) + v7)))]) (st' := [.int (Int32.ofInt 1), .int (Int32.ofInt (s o_2 4)), .ref o_2]) (σ' := (zN L X (zhi (zup s o_2 1 0)) R G nc ns)) (fun n => rfl) ?_
      refine zW.jadd rfl ?_
      refine zW.jput rfl (zk_sid (by omega)) rfl ?_
      refine zW.run 2 (pc' := 76) (ls' := [some (.ref 7), some (.int (Int32.ofInt x)), some (.ref o_2), some (.int (Int32.ofInt ((v_4 / 10) + v7)))]) (st' := [.int (Int32.ofInt (-6)), .ref o_2]) (σ' := (zN L X (zhi (zup (zup s o_2 1 0) o_2 4 ((s o_2 4) + 1))) R G nc ns)) (fun n => rfl) ?_
      have V13 : zV g U F T B ph (zup (zup s o_2 1 0) o_2 4 ((s o_2 4) + 1)) := (V_food V (by omega) (by omega))
      generalize hs14 : (zup (zup s o_2 1 0) o_2 4 ((s o_2 4) + 1)) = s14 at V13 ⊢
      refine zW.callV rfl (by decide) rfl rfl rfl rfl (zk_sid (by omega)) (Nat.le_of_ble_eq_true rfl) ?_
      refine t_Side_changeMorale S V13 (o := o_2) (x := (-6)) (by omega) (by omega) (fun s15 V16 => ?_)
      show zW ro 98 79 [some (.ref 7), some (.int (Int32.ofInt x)), some (.ref o_2), some (.int (Int32.ofInt ((v_4 / 10) + v7)))] [] (zN L X (zhi s15) R G nc ns) Q
      exact zW.vret rfl (hQ0 s15 V16)
    · skip
      refine zW.run 2 (pc' := 42) (ls' := [some (.ref 7), some (.int (Int32.ofInt x)), some (.ref o_2), some (.int (Int32.ofInt ((v_4 / 10) + v7)))]) (st' := [.ref o_2, .ref o_2]) (σ' := (zN L X (zhi s) R G nc ns)) (fun n => rfl) ?_
      refine zW.jget (v := (s o_2 1)) rfl (zk_sid (by omega)) (fun _ _ _ => rfl) rfl ?_
      refine zW.run 1 (pc' := 46) (ls' := [some (.ref 7), some (.int (Int32.ofInt x)), some (.ref o_2), some (.int (Int32.ofInt ((v_4 / 10) + v7)))]) (st' := [.int (Int32.ofInt ((v_4 / 10) + v7)), .int (Int32.ofInt (s o_2 1)), .ref o_2]) (σ' := (zN L X (zhi s) R G nc ns)) (fun n => rfl) ?_
      refine zW.jsub rfl ?_
      refine zW.jput rfl (zk_sid (by omega)) rfl ?_
      refine zW.run 2 (pc' := 52) (ls' := [some (.ref 7), some (.int (Int32.ofInt x)), some (.ref o_2), some (.int (Int32.ofInt ((v_4 / 10) + v7)))]) (st' := [.int (Int32.ofInt 0), .ref o_2]) (σ' := (zN L X (zhi (zup s o_2 1 ((s o_2 1) - ((v_4 / 10) + v7)))) R G nc ns)) (fun n => rfl) ?_
      refine zW.jput rfl (zk_sid (by omega)) rfl ?_
      refine zW.run 1 (pc' := 79) (ls' := [some (.ref 7), some (.int (Int32.ofInt x)), some (.ref o_2), some (.int (Int32.ofInt ((v_4 / 10) + v7)))]) (st' := []) (σ' := (zN L X (zhi (zup (zup s o_2 1 ((s o_2 1) - ((v_4 / 10) + v7))) o_2 4 0)) R G nc ns)) (fun n => rfl) ?_
      have V17 : zV g U F T B ph (zup (zup s o_2 1 ((s o_2 1) - ((v_4 / 10) + v7))) o_2 4 0) := (V_food V (by omega) (by omega))
      generalize hs18 : (zup (zup s o_2 1 ((s o_2 1) - ((v_4 / 10) + v7))) o_2 4 0) = s18 at V17 ⊢
      exact zW.vret rfl (hQ0 s18 V17)
  refine zW.jcmp_ne rfl (by omega) (fun c19 => ?_) (fun c19 => ?_)
  · skip
    refine zW.run 1 (pc' := 30) (ls' := [some (.ref 7), some (.int (Int32.ofInt x)), some (.ref o_2), none]) (st' := [.int (Int32.ofInt 0), .int (Int32.ofInt (v_4 / 10))]) (σ' := (zN L X (zhi s) R G nc ns)) (fun n => rfl) ?_
    exact J8 0 (by omega)
  · skip
    refine zW.run 1 (pc' := 20) (ls' := [some (.ref 7), some (.int (Int32.ofInt x)), some (.ref o_2), none]) (st' := [.ref 7, .int (Int32.ofInt (v_4 / 10))]) (σ' := (zN L X (zhi s) R G nc ns)) (fun n => rfl) ?_
    have f20 := zV_sie V
    refine zW.run 2 (pc' := 25) (ls' := [some (.ref 7), some (.int (Int32.ofInt x)), some (.ref o_2), none]) (st' := [.int (Int32.ofInt 20), .int (Int32.ofInt (s 7 14)), .int (Int32.ofInt (v_4 / 10))]) (σ' := (zN L X (zhi s) R G nc ns)) (fun n => rfl) ?_
    refine zW.jdiv rfl (by omega) ?_
    refine zW.run 1 (pc' := 30) (ls' := [some (.ref 7), some (.int (Int32.ofInt x)), some (.ref o_2), none]) (st' := [.int (Int32.ofInt ((s 7 14) / 20)), .int (Int32.ofInt (v_4 / 10))]) (σ' := (zN L X (zhi s) R G nc ns)) (fun n => rfl) ?_
    exact J8 ((s 7 14) / 20) (by omega)
set_option maxHeartbeats 4000000 in
theorem t_Midnight_fallSick (S : zSR R) (V : zV g U F T B ph s) {x : Int} (p0 : x = 0 ∨ x = 1) (hQ0 : ∀ (s1 : zJ), zV g U F T B ph s1 → Q (.inl none) (zN L X (zhi s1) R G nc ns)) : zW ro 99 0 (zfst [.ref 7, .int (Int32.ofInt x)] 10) [] (zN L X (zhi s) R G nc ns) Q := by
  show zW ro 99 0 [some (.ref 7), some (.int (Int32.ofInt x)), none, none, none, none, none, none, none, none] [] (zN L X (zhi s) R G nc ns) Q
  have f1 := zA_geo (zV_zA V)
  have hB0 := zV_B V
  refine zW.run 2 (pc' := 2) (ls' := [some (.ref 7), some (.int (Int32.ofInt x)), none, none, none, none, none, none, none, none]) (st' := [.int (Int32.ofInt x), .ref 7]) (σ' := (zN L X (zhi s) R G nc ns)) (fun n => rfl) ?_
  refine zW.callV rfl (by decide) rfl rfl rfl rfl rfl (Nat.le_of_ble_eq_true rfl) ?_
  refine t_Siege_of S (x := x) (by omega) (fun o_2 f3 => ?_)
  show zW ro 99 5 [some (.ref 7), some (.int (Int32.ofInt x)), none, none, none, none, none, none, none, none] [.ref o_2] (zN L X (zhi s) R G nc ns) Q
  refine zW.run 2 (pc' := 7) (ls' := [some (.ref 7), some (.int (Int32.ofInt x)), some (.ref o_2), none, none, none, none, none, none, none]) (st' := [.ref o_2]) (σ' := (zN L X (zhi s) R G nc ns)) (fun n => rfl) ?_
  refine zW.jget (v := (s o_2 4)) rfl (zk_sid (by omega)) (fun _ _ _ => rfl) rfl ?_
  have J5 : ∀ (v4 : Int), (v4 = 1) ∨ (v4 = 2) → zW ro 99 18 [some (.ref 7), some (.int (Int32.ofInt x)), some (.ref o_2), none, none, none, none, none, none, none] [.int (Int32.ofInt v4)] (zN L X (zhi s) R G nc ns) Q := by
    intro v4 c6
    refine zW.run 3 (pc' := 21) (ls' := [some (.ref 7), some (.int (Int32.ofInt x)), some (.ref o_2), some (.int (Int32.ofInt v4)), none, none, none, none, none, none]) (st' := [.int (Int32.ofInt 1), .int (Int32.ofInt x)]) (σ' := (zN L X (zhi s) R G nc ns)) (fun n => rfl) ?_
    have J8 : ∀ (v7 : Int), (¬ x = 1 ∧ v7 = v4) ∨ (x = 1 ∧ v7 = v4) ∨ (x = 1 ∧ v7 = (v4 + 1)) → zW ro 99 36 [some (.ref 7), some (.int (Int32.ofInt x)), some (.ref o_2), some (.int (Int32.ofInt v7)), none, none, none, none, none, none] [] (zN L X (zhi s) R G nc ns) Q := by
      intro v7 c9
      refine zW.run 1 (pc' := 37) (ls' := [some (.ref 7), some (.int (Int32.ofInt x)), some (.ref o_2), some (.int (Int32.ofInt v7)), none, none, none, none, none, none]) (st' := [.ref 7]) (σ' := (zN L X (zhi s) R G nc ns)) (fun n => rfl) ?_
      refine zW.getf (v := .ref 19) rfl rfl (zr_7_2 S) ?_
      refine zW.run 2 (pc' := 44) (ls' := [some (.ref 7), some (.int (Int32.ofInt x)), some (.ref o_2), some (.int (Int32.ofInt v7)), some (.ref 19), none, none, none, none, none]) (st' := [.ref 19]) (σ' := (zN L X (zhi s) R G nc ns)) (fun n => rfl) ?_
      refine zW.alen rfl rfl (by decide) ?_
      show zW ro 99 45 [some (.ref 7), some (.int (Int32.ofInt x)), some (.ref o_2), some (.int (Int32.ofInt v7)), some (.ref 19), none, none, none, none, none] [.int (Int32.ofInt 12)] (zN L X (zhi s) R G nc ns) Q
      refine zW.run 3 (pc' := 50) (ls' := [some (.ref 7), some (.int (Int32.ofInt x)), some (.ref o_2), some (.int (Int32.ofInt v7)), some (.ref 19), some (.int (Int32.ofInt 12)), some (.int (Int32.ofInt 0)), none, none, none]) (st' := []) (σ' := (zN L X (zhi s) R G nc ns)) (fun n => rfl) ?_
      have J17 : ∀ m : Nat, ∀ (i_10 : Nat) (w11 : Option Value) (w12 : Option Value) (w13 : Option Value) (s14 : zJ), zV g U F T B ph s14 → i_10 ≤ 12 → 13 - i_10 < m → zW ro 99 50 [some (.ref 7), some (.int (Int32.ofInt x)), some (.ref o_2), some (.int (Int32.ofInt v7)), some (.ref 19), some (.int (Int32.ofInt 12)), some (.int (Int32.ofInt (i_10 : Int))), w11, w12, w13] [] (zN L X (zhi s14) R G nc ns) Q := by
        intro m
        induction m with
        | zero => intros; omega
        | succ m ih18 =>
          intro i_10 w11 w12 w13 s14 V15 c16 hm19
          refine zW.run 2 (pc' := 54) (ls' := [some (.ref 7), some (.int (Int32.ofInt x)), some (.ref o_2), some (.int (Int32.ofInt v7)), some (.ref 19), some (.int (Int32.ofInt 12)), some (.int (Int32.ofInt (i_10 : Int))), w11, w12, w13]) (st' := [.int (Int32.ofInt 12), .int (Int32.ofInt (i_10 : Int))]) (σ' := (zN L X (zhi s14) R G nc ns)) (fun n => rfl) ?_
          refine zW.jcmp_ge rfl (by omega) (fun c20 => ?_) (fun c20 => ?_)
          · skip
            exact zW.vret rfl (hQ0 s14 V15)
          · skip
            refine zW.run 2 (pc' := 61) (ls' := [some (.ref 7), some (.int (Int32.ofInt x)), some (.ref o_2), some (.int (Int32.ofInt v7)), some (.ref 19), some (.int (Int32.ofInt 12)), some (.int (Int32.ofInt (i_10 : Int))), w11, w12, w13]) (st' := [.int (Int32.ofInt (i_10 : Int)), .ref 19]) (σ' := (zN L X (zhi s14) R G nc ns)) (fun n => rfl) ?_
            refine zW.jaald (n := 12) (v := .ref (42 + i_10)) rfl rfl (by decide) (by decide) (by omega) (zr_com S (by omega)) ?_
            refine zW.run 2 (pc' := 66) (ls' := [some (.ref 7), some (.int (Int32.ofInt x)), some (.ref o_2), some (.int (Int32.ofInt v7)), some (.ref 19), some (.int (Int32.ofInt 12)), some (.int (Int32.ofInt (i_10 : Int))), some (.ref (42 + i_10)), w12, w13]) (st' := [.ref (42 + i_10)]) (σ' := (zN L X (zhi s14) R G nc ns)) (fun n => rfl) ?_
            have f21 := zV_com V15 (i := i_10) (by omega)
            refine zW.jget (v := (s14 (42 + i_10) 0)) rfl (zk_com (by omega)) (fun _ _ _ => rfl) rfl ?_
            refine zW.run 1 (pc' := 70) (ls' := [some (.ref 7), some (.int (Int32.ofInt x)), some (.ref o_2), some (.int (Int32.ofInt v7)), some (.ref 19), some (.int (Int32.ofInt 12)), some (.int (Int32.ofInt (i_10 : Int))), some (.ref (42 + i_10)), w12, w13]) (st' := [.int (Int32.ofInt x), .int (Int32.ofInt (s14 (42 + i_10) 0))]) (σ' := (zN L X (zhi s14) R G nc ns)) (fun n => rfl) ?_
            refine zW.jcmp_eq rfl (by omega) (fun c22 => ?_) (fun c22 => ?_)
            · skip
              refine zW.run 1 (pc' := 77) (ls' := [some (.ref 7), some (.int (Int32.ofInt x)), some (.ref o_2), some (.int (Int32.ofInt v7)), some (.ref 19), some (.int (Int32.ofInt 12)), some (.int (Int32.ofInt (i_10 : Int))), some (.ref (42 + i_10)), w12, w13]) (st' := [.int (Int32.ofInt x)]) (σ' := (zN L X (zhi s14) R G nc ns)) (fun n => rfl) ?_
              refine zW.jif_ne rfl (by omega) (fun c23 => ?_) (fun c23 => ?_)
              · skip
                refine zW.run 3 (pc' := 105) (ls' := [some (.ref 7), some (.int (Int32.ofInt x)), some (.ref o_2), some (.int (Int32.ofInt v7)), some (.ref 19), some (.int (Int32.ofInt 12)), some (.int (Int32.ofInt (i_10 : Int))), some (.ref (42 + i_10)), some (.int (Int32.ofInt 0)), w13]) (st' := [.ref (42 + i_10)]) (σ' := (zN L X (zhi s14) R G nc ns)) (fun n => rfl) ?_
                refine zW.jget (v := (s14 (42 + i_10) 2)) rfl (zk_com (by omega)) (fun _ _ _ => rfl) rfl ?_
                refine zW.run 1 (pc' := 110) (ls' := [some (.ref 7), some (.int (Int32.ofInt x)), some (.ref o_2), some (.int (Int32.ofInt v7)), some (.ref 19), some (.int (Int32.ofInt 12)), some (.int (Int32.ofInt (i_10 : Int))), some (.ref (42 + i_10)), some (.int (Int32.ofInt 0)), w13]) (st' := [.int (Int32.ofInt 50), .int (Int32.ofInt (s14 (42 + i_10) 2))]) (σ' := (zN L X (zhi s14) R G nc ns)) (fun n => rfl) ?_
                refine zW.jdiv rfl (by omega) ?_
                refine zW.run 3 (pc' := 123) (ls' := [some (.ref 7), some (.int (Int32.ofInt x)), some (.ref o_2), some (.int (Int32.ofInt v7)), some (.ref 19), some (.int (Int32.ofInt 12)), some (.int (Int32.ofInt (i_10 : Int))), some (.ref (42 + i_10)), some (.int (Int32.ofInt 0)), w13]) (st' := [.int (Int32.ofInt v7), .int (Int32.ofInt ((s14 (42 + i_10) 2) / 50))]) (σ' := (zN L X (zhi s14) R G nc ns)) (fun n => rfl) ?_
                refine zW.jmul rfl ?_
                have hg : 0 ≤ (((s14 (42 + i_10) 2) / 50) * v7) ∧ (((s14 (42 + i_10) 2) / 50) * v7) ≤ (s14 (42 + i_10) 2) := zsk (by omega) (by omega)
                refine zW.run 3 (pc' := 129) (ls' := [some (.ref 7), some (.int (Int32.ofInt x)), some (.ref o_2), some (.int (Int32.ofInt v7)), some (.ref 19), some (.int (Int32.ofInt 12)), some (.int (Int32.ofInt (i_10 : Int))), some (.ref (42 + i_10)), some (.int (Int32.ofInt 0)), some (.int (Int32.ofInt (((s14 (42 + i_10) 2) / 50) * v7)))]) (st' := [.ref (42 + i_10), .ref (42 + i_10)]) (σ' := (zN L X (zhi s14) R G nc ns)) (fun n => rfl) ?_
                refine zW.jget (v := (s14 (42 + i_10) 2)) rfl (zk_com (by omega)) (fun _ _ _ => rfl) rfl ?_
                refine zW.run 1 (pc' := 134) (ls' := [some (.ref 7), some (.int (Int32.ofInt x)), some (.ref o_2), some (.int (Int32.ofInt v7)), some (.ref 19), some (.int (Int32.ofInt 12)), some (.int (Int32.ofInt (i_10 : Int))), some (.ref (42 + i_10)), some (.int (Int32.ofInt 0)), some (.int (Int32.ofInt (((s14 (42 + i_10) 2) / 50) * v7)))]) (st' := [.int (Int32.ofInt (((s14 (42 + i_10) 2) / 50) * v7)), .int (Int32.ofInt (s14 (42 + i_10) 2)), .ref (42 + i_10)]) (σ' := (zN L X (zhi s14) R G nc ns)) (fun n => rfl) ?_
                refine zW.jsub rfl ?_
                refine zW.jput rfl (zk_com (by omega)) rfl ?_
                refine zW.run 2 (pc' := 140) (ls' := [some (.ref 7), some (.int (Int32.ofInt x)), some (.ref o_2), some (.int (Int32.ofInt v7)), some (.ref 19), some (.int (Int32.ofInt 12)), some (.int (Int32.ofInt (i_10 : Int))), some (.ref (42 + i_10)), some (.int (Int32.ofInt 0)), some (.int (Int32.ofInt (((s14 (42 + i_10) 2) / 50) * v7)))]) (st' := [.ref o_2, .ref o_2]) (σ' := (zN L X (zhi (zup s14 (42 + i_10) 2 ((s14 (42 + i_10) 2) - (((s14 (42 + i_10) 2) / 50) * v7)))) R G nc ns)) (fun n => rfl) ?_
                refine zW.jget (v := (s14 o_2 9)) rfl (zk_sid (by omega)) (fun _ _ _ => rfl) (zup_nj (by omega)) ?_
                refine zW.run 1 (pc' := 145) (ls' := [some (.ref 7), some (.int (Int32.ofInt x)), some (.ref o_2), some (.int (Int32.ofInt v7)), some (.ref 19), some (.int (Int32.ofInt 12)), some (.int (Int32.ofInt (i_10 : Int))), some (.ref (42 + i_10)), some (.int (Int32.ofInt 0)), some (.int (Int32.ofInt (((s14 (42 + i_10) 2) / 50) * v7)))]) (st' := [.int (Int32.ofInt (((s14 (42 + i_10) 2) / 50) * v7)), .int (Int32.ofInt (s14 o_2 9)), .ref o_2]) (σ' := (zN L X (zhi (zup s14 (42 + i_10) 2 ((s14 (42 + i_10) 2) - (((s14 (42 + i_10) 2) / 50) * v7)))) R G nc ns)) (fun n => rfl) ?_
                refine zW.jadd rfl ?_
                refine zW.jput rfl (zk_sid (by omega)) rfl ?_
                refine zW.jinc (ls' := [some (.ref 7), some (.int (Int32.ofInt x)), some (.ref o_2), some (.int (Int32.ofInt v7)), some (.ref 19), some (.int (Int32.ofInt 12)), some (.int (Int32.ofInt ((i_10 : Int) + 1))), some (.ref (42 + i_10)), some (.int (Int32.ofInt 0)), some (.int (Int32.ofInt (((s14 (42 + i_10) 2) / 50) * v7)))]) rfl (Nat.le_of_ble_eq_true rfl) rfl rfl ?_
                refine zW.run 1 (pc' := 50) (ls' := [some (.ref 7), some (.int (Int32.ofInt x)), some (.ref o_2), some (.int (Int32.ofInt v7)), some (.ref 19), some (.int (Int32.ofInt 12)), some (.int (Int32.ofInt ((i_10 : Int) + 1))), some (.ref (42 + i_10)), some (.int (Int32.ofInt 0)), some (.int (Int32.ofInt (((s14 (42 + i_10) 2) / 50) * v7)))]) (st' := []) (σ' := (zN L X (zhi (zup (zup s14 (42 + i_10) 2 ((s14 (42 + i_10) 2) - (((s14 (42 + i_10) 2) / 50) * v7))) o_2 9 ((s14 o_2 9) + (((s14 (42 + i_10) 2) / 50) * v7)))) R G nc ns)) (fun n => rfl) ?_
                have V24 : zV g U F T B ph (zup (zup s14 (42 + i_10) 2 ((s14 (42 + i_10) 2) - (((s14 (42 + i_10) 2) / 50) * v7))) o_2 9 ((s14 o_2 9) + (((s14 (42 + i_10) 2) / 50) * v7))) := (V_sick V15 (by omega) (by omega) (by omega))
                generalize hs25 : (zup (zup s14 (42 + i_10) 2 ((s14 (42 + i_10) 2) - (((s14 (42 + i_10) 2) / 50) * v7))) o_2 9 ((s14 o_2 9) + (((s14 (42 + i_10) 2) / 50) * v7))) = s25 at V24 ⊢
                exact ih18 (i_10 + 1) (some (.ref (42 + i_10))) (some (.int (Int32.ofInt 0))) (some (.int (Int32.ofInt (((s14 (42 + i_10) 2) / 50) * v7)))) s25 (zV_mono V24 (by omega) (by omega)) (by omega) (by omega)
              · skip
                refine zW.run 1 (pc' := 81) (ls' := [some (.ref 7), some (.int (Int32.ofInt x)), some (.ref o_2), some (.int (Int32.ofInt v7)), some (.ref 19), some (.int (Int32.ofInt 12)), some (.int (Int32.ofInt (i_10 : Int))), some (.ref (42 + i_10)), w12, w13]) (st' := [.ref 7]) (σ' := (zN L X (zhi s14) R G nc ns)) (fun n => rfl) ?_
                refine zW.getf (v := .ref 8) rfl rfl (zr_7_0 S) ?_
                refine zW.run 1 (pc' := 86) (ls' := [some (.ref 7), some (.int (Int32.ofInt x)), some (.ref o_2), some (.int (Int32.ofInt v7)), some (.ref 19), some (.int (Int32.ofInt 12)), some (.int (Int32.ofInt (i_10 : Int))), some (.ref (42 + i_10)), w12, w13]) (st' := [.ref (42 + i_10), .ref 8]) (σ' := (zN L X (zhi s14) R G nc ns)) (fun n => rfl) ?_
                refine zW.jget (v := (s14 (42 + i_10) 1)) rfl (zk_com (by omega)) (fun _ _ _ => rfl) rfl ?_
                refine zW.callV rfl (by decide) rfl rfl rfl rfl rfl (Nat.le_of_ble_eq_true rfl) ?_
                refine t_Ground_soilOf S V15 (x := (s14 (42 + i_10) 1)) (by omega) (fun v_26 f27 f28 => ?_)
                show zW ro 99 92 [some (.ref 7), some (.int (Int32.ofInt x)), some (.ref o_2), some (.int (Int32.ofInt v7)), some (.ref 19), some (.int (Int32.ofInt 12)), some (.int (Int32.ofInt (i_10 : Int))), some (.ref (42 + i_10)), w12, w13] [.int (Int32.ofInt v_26)] (zN L X (zhi s14) R G nc ns) Q
                refine zW.run 1 (pc' := 93) (ls' := [some (.ref 7), some (.int (Int32.ofInt x)), some (.ref o_2), some (.int (Int32.ofInt v7)), some (.ref 19), some (.int (Int32.ofInt 12)), some (.int (Int32.ofInt (i_10 : Int))), some (.ref (42 + i_10)), w12, w13]) (st' := [.int (Int32.ofInt 2), .int (Int32.ofInt v_26)]) (σ' := (zN L X (zhi s14) R G nc ns)) (fun n => rfl) ?_
                have J30 : ∀ (v29 : Int), (¬ v_26 = 2 ∧ v29 = 0) ∨ (v_26 = 2 ∧ v29 = 1) → zW ro 99 101 [some (.ref 7), some (.int (Int32.ofInt x)), some (.ref o_2), some (.int (Int32.ofInt v7)), some (.ref 19), some (.int (Int32.ofInt 12)), some (.int (Int32.ofInt (i_10 : Int))), some (.ref (42 + i_10)), w12, w13] [.int (Int32.ofInt v29)] (zN L X (zhi s14) R G nc ns) Q := by
                  intro v29 c31
                  refine zW.run 2 (pc' := 105) (ls' := [some (.ref 7), some (.int (Int32.ofInt x)), some (.ref o_2), some (.int (Int32.ofInt v7)), some (.ref 19), some (.int (Int32.ofInt 12)), some (.int (Int32.ofInt (i_10 : Int))), some (.ref (42 + i_10)), some (.int (Int32.ofInt v29)), w13]) (st' := [.ref (42 + i_10)]) (σ' := (zN L X (zhi s14) R G nc ns)) (fun n => rfl) ?_
                  refine zW.jget (v := (s14 (42 + i_10) 2)) rfl (zk_com (by omega)) (fun _ _ _ => rfl) rfl ?_
                  refine zW.run 1 (pc' := 110) (ls' := [some (.ref 7), some (.int (Int32.ofInt x)), some (.ref o_2), some (.int (Int32.ofInt v7)), some (.ref 19), some (.int (Int32.ofInt 12)), some (.int (Int32.ofInt (i_10 : Int))), some (.ref (42 + i_10)), some (.int (Int32.ofInt v29)), w13]) (st' := [.int (Int32.ofInt 50), .int (Int32.ofInt (s14 (42 + i_10) 2))]) (σ' := (zN L X (zhi s14) R G nc ns)) (fun n => rfl) ?_
                  refine zW.jdiv rfl (by omega) ?_
                  refine zW.run 1 (pc' := 113) (ls' := [some (.ref 7), some (.int (Int32.ofInt x)), some (.ref o_2), some (.int (Int32.ofInt v7)), some (.ref 19), some (.int (Int32.ofInt 12)), some (.int (Int32.ofInt (i_10 : Int))), some (.ref (42 + i_10)), some (.int (Int32.ofInt v29)), w13]) (st' := [.int (Int32.ofInt v29), .int (Int32.ofInt ((s14 (42 + i_10) 2) / 50))]) (σ' := (zN L X (zhi s14) R G nc ns)) (fun n => rfl) ?_
                  have J33 : ∀ (v32 : Int), (v29 = 0 ∧ v32 = v7) ∨ (¬ v29 = 0 ∧ v32 = (v7 + 1)) → zW ro 99 123 [some (.ref 7), some (.int (Int32.ofInt x)), some (.ref o_2), some (.int (Int32.ofInt v7)), some (.ref 19), some (.int (Int32.ofInt 12)), some (.int (Int32.ofInt (i_10 : Int))), some (.ref (42 + i_10)), some (.int (Int32.ofInt v29)), w13] [.int (Int32.ofInt v32), .int (Int32.ofInt ((s14 (42 + i_10) 2) / 50))] (zN L X (zhi s14) R G nc ns) Q := by
                    intro v32 c34
                    refine zW.jmul rfl ?_
                    have hg : 0 ≤ (((s14 (42 + i_10) 2) / 50) * v32) ∧ (((s14 (42 + i_10) 2) / 50) * v32) ≤ (s14 (42 + i_10) 2) := zsk (by omega) (by omega)
                    refine zW.run 3 (pc' := 129) (ls' := [some (.ref 7), some (.int (Int32.ofInt x)), some (.ref o_2), some (.int (Int32.ofInt v7)), some (.ref 19), some (.int (Int32.ofInt 12)), some (.int (Int32.ofInt (i_10 : Int))), some (.ref (42 + i_10)), some (.int (Int32.ofInt v29)), some (.int (Int32.ofInt (((s14 (42 + i_10) 2) / 50) * v32)))]) (st' := [.ref (42 + i_10), .ref (42 + i_10)]) (σ' := (zN L X (zhi s14) R G nc ns)) (fun n => rfl) ?_
                    refine zW.jget (v := (s14 (42 + i_10) 2)) rfl (zk_com (by omega)) (fun _ _ _ => rfl) rfl ?_
                    refine zW.run 1 (pc' := 134) (ls' := [some (.ref 7), some (.int (Int32.ofInt x)), some (.ref o_2), some (.int (Int32.ofInt v7)), some (.ref 19), some (.int (Int32.ofInt 12)), some (.int (Int32.ofInt (i_10 : Int))), some (.ref (42 + i_10)), some (.int (Int32.ofInt v29)), some (.int (Int32.ofInt (((s14 (42 + i_10) 2) / 50) * v32)))]) (st' := [.int (Int32.ofInt (((s14 (42 + i_10) 2) / 50) * v32)), .int (Int32.ofInt (s14 (42 + i_10) 2)), .ref (42 + i_10)]) (σ' := (zN L X (zhi s14) R G nc ns)) (fun n => rfl) ?_
                    refine zW.jsub rfl ?_
                    refine zW.jput rfl (zk_com (by omega)) rfl ?_
                    refine zW.run 2 (pc' := 140) (ls' := [some (.ref 7), some (.int (Int32.ofInt x)), some (.ref o_2), some (.int (Int32.ofInt v7)), some (.ref 19), some (.int (Int32.ofInt 12)), some (.int (Int32.ofInt (i_10 : Int))), some (.ref (42 + i_10)), some (.int (Int32.ofInt v29)), some (.int (Int32.ofInt (((s14 (42 + i_10) 2) / 50) * v32)))]) (st' := [.ref o_2, .ref o_2]) (σ' := (zN L X (zhi (zup s14 (42 + i_10) 2 ((s14 (42 + i_10) 2) - (((s14 (42 + i_10) 2) / 50) * v32)))) R G nc ns)) (fun n => rfl) ?_
                    refine zW.jget (v := (s14 o_2 9)) rfl (zk_sid (by omega)) (fun _ _ _ => rfl) (zup_nj (by omega)) ?_
                    refine zW.run 1 (pc' := 145) (ls' := [some (.ref 7), some (.int (Int32.ofInt x)), some (.ref o_2), some (.int (Int32.ofInt v7)), some (.ref 19), some (.int (Int32.ofInt 12)), some (.int (Int32.ofInt (i_10 : Int))), some (.ref (42 + i_10)), some (.int (Int32.ofInt v29)), some (.int (Int32.ofInt (((s14 (42 + i_10) 2) / 50) * v32)))]) (st' := [.int (Int32.ofInt (((s14 (42 + i_10) 2) / 50) * v32)), .int (Int32.ofInt (s14 o_2 9)), .ref o_2]) (σ' := (zN L X (zhi (zup s14 (42 + i_10) 2 ((s14 (42 + i_10) 2) - (((s14 (42 + i_10) 2) / 50) * v32)))) R G nc ns)) (fun n => rfl) ?_
                    refine zW.jadd rfl ?_
                    refine zW.jput rfl (zk_sid (by omega)) rfl ?_
                    refine zW.jinc (ls' := [some (.ref 7), some (.int (Int32.ofInt x)), some (.ref o_2), some (.int (Int32.ofInt v7)), some (.ref 19), some (.int (Int32.ofInt 12)), some (.int (Int32.ofInt ((i_10 : Int) + 1))), some (.ref (42 + i_10)), some (.int (Int32.ofInt v29)), some (.int (Int32.ofInt (((s14 (42 + i_10) 2) / 50) * v32)))]) rfl (Nat.le_of_ble_eq_true rfl) rfl rfl ?_
                    refine zW.run 1 (pc' := 50) (ls' := [some (.ref 7), some (.int (Int32.ofInt x)), some (.ref o_2), some (.int (Int32.ofInt v7)), some (.ref 19), some (.int (Int32.ofInt 12)), some (.int (Int32.ofInt ((i_10 : Int) + 1))), some (.ref (42 + i_10)), some (.int (Int32.ofInt v29)), some (.int (Int32.ofInt (((s14 (42 + i_10) 2) / 50) * v32)))]) (st' := []) (σ' := (zN L X (zhi (zup (zup s14 (42 + i_10) 2 ((s14 (42 + i_10) 2) - (((s14 (42 + i_10) 2) / 50) * v32))) o_2 9 ((s14 o_2 9) + (((s14 (42 + i_10) 2) / 50) * v32)))) R G nc ns)) (fun n => rfl) ?_
                    have V35 : zV g U F T B ph (zup (zup s14 (42 + i_10) 2 ((s14 (42 + i_10) 2) - (((s14 (42 + i_10) 2) / 50) * v32))) o_2 9 ((s14 o_2 9) + (((s14 (42 + i_10) 2) / 50) * v32))) := (V_sick V15 (by omega) (by omega) (by omega))
                    generalize hs36 : (zup (zup s14 (42 + i_10) 2 ((s14 (42 + i_10) 2) - (((s14 (42 + i_10) 2) / 50) * v32))) o_2 9 ((s14 o_2 9) + (((s14 (42 + i_10) 2) / 50) * v32))) = s36 at V35 ⊢
                    exact ih18 (i_10 + 1) (some (.ref (42 + i_10))) (some (.int (Int32.ofInt v29))) (some (.int (Int32.ofInt (((s14 (42 + i_10) 2) / 50) * v32)))) s36 (zV_mono V35 (by omega) (by omega)) (by omega) (by omega)
                  refine zW.jif_eq rfl (by omega) (fun c37 => ?_) (fun c37 => ?_)
                  · skip
                    refine zW.run 1 (pc' := 123) (ls' := [some (.ref 7), some (.int (Int32.ofInt x)), some (.ref o_2), some (.int (Int32.ofInt v7)), some (.ref 19), some (.int (Int32.ofInt 12)), some (.int (Int32.ofInt (i_10 : Int))), some (.ref (42 + i_10)), some (.int (Int32.ofInt v29)), w13]) (st' := [.int (Int32.ofInt v7), .int (Int32.ofInt ((s14 (42 + i_10) 2) / 50))]) (σ' := (zN L X (zhi s14) R G nc ns)) (fun n => rfl) ?_
                    exact J33 v7 (by omega)
                  · skip
                    refine zW.run 2 (pc' := 118) (ls' := [some (.ref 7), some (.int (Int32.ofInt x)), some (.ref o_2), some (.int (Int32.ofInt v7)), some (.ref 19), some (.int (Int32.ofInt 12)), some (.int (Int32.ofInt (i_10 : Int))), some (.ref (42 + i_10)), some (.int (Int32.ofInt v29)), w13]) (st' := [.int (Int32.ofInt 1), .int (Int32.ofInt v7), .int (Int32.ofInt ((s14 (42 + i_10) 2) / 50))]) (σ' := (zN L X (zhi s14) R G nc ns)) (fun n => rfl) ?_
                    refine zW.jadd rfl ?_
                    refine zW.run 1 (pc' := 123) (ls' := [some (.ref 7), some (.int (Int32.ofInt x)), some (.ref o_2), some (.int (Int32.ofInt v7)), some (.ref 19), some (.int (Int32.ofInt 12)), some (.int (Int32.ofInt (i_10 : Int))), some (.ref (42 + i_10)), some (.int (Int32.ofInt v29)), w13]) (st' := [.int (Int32.ofInt (v7 + 1)), .int (Int32.ofInt ((s14 (42 + i_10) 2) / 50))]) (σ' := (zN L X (zhi s14) R G nc ns)) (fun n => rfl) ?_
                    exact J33 (v7 + 1) (by omega)
                refine zW.jcmp_ne rfl (by omega) (fun c38 => ?_) (fun c38 => ?_)
                · skip
                  refine zW.run 1 (pc' := 101) (ls' := [some (.ref 7), some (.int (Int32.ofInt x)), some (.ref o_2), some (.int (Int32.ofInt v7)), some (.ref 19), some (.int (Int32.ofInt 12)), some (.int (Int32.ofInt (i_10 : Int))), some (.ref (42 + i_10)), w12, w13]) (st' := [.int (Int32.ofInt 0)]) (σ' := (zN L X (zhi s14) R G nc ns)) (fun n => rfl) ?_
                  exact J30 0 (by omega)
                · skip
                  refine zW.run 2 (pc' := 101) (ls' := [some (.ref 7), some (.int (Int32.ofInt x)), some (.ref o_2), some (.int (Int32.ofInt v7)), some (.ref 19), some (.int (Int32.ofInt 12)), some (.int (Int32.ofInt (i_10 : Int))), some (.ref (42 + i_10)), w12, w13]) (st' := [.int (Int32.ofInt 1)]) (σ' := (zN L X (zhi s14) R G nc ns)) (fun n => rfl) ?_
                  exact J30 1 (by omega)
            · skip
              refine zW.run 1 (pc' := 149) (ls' := [some (.ref 7), some (.int (Int32.ofInt x)), some (.ref o_2), some (.int (Int32.ofInt v7)), some (.ref 19), some (.int (Int32.ofInt 12)), some (.int (Int32.ofInt (i_10 : Int))), some (.ref (42 + i_10)), w12, w13]) (st' := []) (σ' := (zN L X (zhi s14) R G nc ns)) (fun n => rfl) ?_
              refine zW.jinc (ls' := [some (.ref 7), some (.int (Int32.ofInt x)), some (.ref o_2), some (.int (Int32.ofInt v7)), some (.ref 19), some (.int (Int32.ofInt 12)), some (.int (Int32.ofInt ((i_10 : Int) + 1))), some (.ref (42 + i_10)), w12, w13]) rfl (Nat.le_of_ble_eq_true rfl) rfl rfl ?_
              refine zW.run 1 (pc' := 50) (ls' := [some (.ref 7), some (.int (Int32.ofInt x)), some (.ref o_2), some (.int (Int32.ofInt v7)), some (.ref 19), some (.int (Int32.ofInt 12)), some (.int (Int32.ofInt ((i_10 : Int) + 1))), some (.ref (42 + i_10)), w12, w13]) (st' := []) (σ' := (zN L X (zhi s14) R G nc ns)) (fun n => rfl) ?_
              exact ih18 (i_10 + 1) (some (.ref (42 + i_10))) w12 w13 s14 (zV_mono V15 (by omega) (by omega)) (by omega) (by omega)
      exact J17 _ 0 none none none s (zV_mono V (by omega) (by omega)) (by omega) (Nat.lt_succ_self _)
    refine zW.jcmp_ne rfl (by omega) (fun c39 => ?_) (fun c39 => ?_)
    · skip
      exact J8 v4 (by omega)
    · skip
      refine zW.run 1 (pc' := 25) (ls' := [some (.ref 7), some (.int (Int32.ofInt x)), some (.ref o_2), some (.int (Int32.ofInt v4)), none, none, none, none, none, none]) (st' := [.ref 7]) (σ' := (zN L X (zhi s) R G nc ns)) (fun n => rfl) ?_
      have f40 := zV_sie V
      refine zW.run 2 (pc' := 30) (ls' := [some (.ref 7), some (.int (Int32.ofInt x)), some (.ref o_2), some (.int (Int32.ofInt v4)), none, none, none, none, none, none]) (st' := [.int (Int32.ofInt 20), .int (Int32.ofInt (s 7 16))]) (σ' := (zN L X (zhi s) R G nc ns)) (fun n => rfl) ?_
      refine zW.icmp_le rfl (fun _ => ?_) (fun _ => ?_)
      · skip
        exact J8 v4 (by omega)
      · skip
        refine zW.jinc (ls' := [some (.ref 7), some (.int (Int32.ofInt x)), some (.ref o_2), some (.int (Int32.ofInt (v4 + 1))), none, none, none, none, none, none]) rfl (Nat.le_of_ble_eq_true rfl) rfl rfl ?_
        exact J8 (v4 + 1) (by omega)
  refine zW.if_le rfl (fun _ => ?_) (fun _ => ?_)
  · skip
    refine zW.run 1 (pc' := 18) (ls' := [some (.ref 7), some (.int (Int32.ofInt x)), some (.ref o_2), none, none, none, none, none, none, none]) (st' := [.int (Int32.ofInt 1)]) (σ' := (zN L X (zhi s) R G nc ns)) (fun n => rfl) ?_
    exact J5 1 (by omega)
  · skip
    refine zW.run 2 (pc' := 18) (ls' := [some (.ref 7), some (.int (Int32.ofInt x)), some (.ref o_2), none, none, none, none, none, none, none]) (st' := [.int (Int32.ofInt 2)]) (σ' := (zN L X (zhi s) R G nc ns)) (fun n => rfl) ?_
    exact J5 2 (by omega)
set_option maxHeartbeats 4000000 in
theorem t_Midnight_desert (S : zSR R) (V : zV g U F T B ph s) {x : Int} (p0 : x = 0 ∨ x = 1) (hQ0 : ∀ (s1 : zJ), zV g U F T B ph s1 → Q (.inl none) (zN L X (zhi s1) R G nc ns)) : zW ro 97 0 (zfst [.ref 7, .int (Int32.ofInt x)] 7) [] (zN L X (zhi s) R G nc ns) Q := by
  show zW ro 97 0 [some (.ref 7), some (.int (Int32.ofInt x)), none, none, none, none, none] [] (zN L X (zhi s) R G nc ns) Q
  have f1 := zA_geo (zV_zA V)
  have hB0 := zV_B V
  refine zW.run 2 (pc' := 2) (ls' := [some (.ref 7), some (.int (Int32.ofInt x)), none, none, none, none, none]) (st' := [.int (Int32.ofInt x), .ref 7]) (σ' := (zN L X (zhi s) R G nc ns)) (fun n => rfl) ?_
  refine zW.callV rfl (by decide) rfl rfl rfl rfl rfl (Nat.le_of_ble_eq_true rfl) ?_
  refine t_Siege_of S (x := x) (by omega) (fun o_2 f3 => ?_)
  show zW ro 97 5 [some (.ref 7), some (.int (Int32.ofInt x)), none, none, none, none, none] [.ref o_2] (zN L X (zhi s) R G nc ns) Q
  have f4 := zV_sid V (o := o_2) (by omega)
  refine zW.jget (v := (s o_2 3)) rfl (zk_sid (by omega)) (fun _ _ _ => rfl) rfl ?_
  refine zW.run 3 (pc' := 12) (ls' := [some (.ref 7), some (.int (Int32.ofInt x)), some (.int (Int32.ofInt (s o_2 3))), none, none, none, none]) (st' := [.int (Int32.ofInt 40), .int (Int32.ofInt (s o_2 3))]) (σ' := (zN L X (zhi s) R G nc ns)) (fun n => rfl) ?_
  refine zW.jcmp_lt rfl (by omega) (fun c5 => ?_) (fun c5 => ?_)
  · skip
    refine zW.run 1 (pc' := 17) (ls' := [some (.ref 7), some (.int (Int32.ofInt x)), some (.int (Int32.ofInt (s o_2 3))), none, none, none, none]) (st' := [.ref 7]) (σ' := (zN L X (zhi s) R G nc ns)) (fun n => rfl) ?_
    refine zW.getf (v := .ref 19) rfl rfl (zr_7_2 S) ?_
    refine zW.run 2 (pc' := 22) (ls' := [some (.ref 7), some (.int (Int32.ofInt x)), some (.int (Int32.ofInt (s o_2 3))), some (.ref 19), none, none, none]) (st' := [.ref 19]) (σ' := (zN L X (zhi s) R G nc ns)) (fun n => rfl) ?_
    refine zW.alen rfl rfl (by decide) ?_
    show zW ro 97 23 [some (.ref 7), some (.int (Int32.ofInt x)), some (.int (Int32.ofInt (s o_2 3))), some (.ref 19), none, none, none] [.int (Int32.ofInt 12)] (zN L X (zhi s) R G nc ns) Q
    refine zW.run 3 (pc' := 28) (ls' := [some (.ref 7), some (.int (Int32.ofInt x)), some (.int (Int32.ofInt (s o_2 3))), some (.ref 19), some (.int (Int32.ofInt 12)), some (.int (Int32.ofInt 0)), none]) (st' := []) (σ' := (zN L X (zhi s) R G nc ns)) (fun n => rfl) ?_
    have J11 : ∀ m : Nat, ∀ (i_6 : Nat) (w7 : Option Value) (s8 : zJ), zV g U F T B ph s8 → i_6 ≤ 12 → 13 - i_6 < m → zW ro 97 28 [some (.ref 7), some (.int (Int32.ofInt x)), some (.int (Int32.ofInt (s o_2 3))), some (.ref 19), some (.int (Int32.ofInt 12)), some (.int (Int32.ofInt (i_6 : Int))), w7] [] (zN L X (zhi s8) R G nc ns) Q := by
      intro m
      induction m with
      | zero => intros; omega
      | succ m ih12 =>
        intro i_6 w7 s8 V9 c10 hm13
        refine zW.run 2 (pc' := 32) (ls' := [some (.ref 7), some (.int (Int32.ofInt x)), some (.int (Int32.ofInt (s o_2 3))), some (.ref 19), some (.int (Int32.ofInt 12)), some (.int (Int32.ofInt (i_6 : Int))), w7]) (st' := [.int (Int32.ofInt 12), .int (Int32.ofInt (i_6 : Int))]) (σ' := (zN L X (zhi s8) R G nc ns)) (fun n => rfl) ?_
        refine zW.jcmp_ge rfl (by omega) (fun c14 => ?_) (fun c14 => ?_)
        · skip
          exact zW.vret rfl (hQ0 s8 V9)
        · skip
          refine zW.run 2 (pc' := 38) (ls' := [some (.ref 7), some (.int (Int32.ofInt x)), some (.int (Int32.ofInt (s o_2 3))), some (.ref 19), some (.int (Int32.ofInt 12)), some (.int (Int32.ofInt (i_6 : Int))), w7]) (st' := [.int (Int32.ofInt (i_6 : Int)), .ref 19]) (σ' := (zN L X (zhi s8) R G nc ns)) (fun n => rfl) ?_
          refine zW.jaald (n := 12) (v := .ref (42 + i_6)) rfl rfl (by decide) (by decide) (by omega) (zr_com S (by omega)) ?_
          refine zW.run 2 (pc' := 43) (ls' := [some (.ref 7), some (.int (Int32.ofInt x)), some (.int (Int32.ofInt (s o_2 3))), some (.ref 19), some (.int (Int32.ofInt 12)), some (.int (Int32.ofInt (i_6 : Int))), some (.ref (42 + i_6))]) (st' := [.ref (42 + i_6)]) (σ' := (zN L X (zhi s8) R G nc ns)) (fun n => rfl) ?_
          have f15 := zV_com V9 (i := i_6) (by omega)
          refine zW.jget (v := (s8 (42 + i_6) 0)) rfl (zk_com (by omega)) (fun _ _ _ => rfl) rfl ?_
          refine zW.run 1 (pc' := 47) (ls' := [some (.ref 7), some (.int (Int32.ofInt x)), some (.int (Int32.ofInt (s o_2 3))), some (.ref 19), some (.int (Int32.ofInt 12)), some (.int (Int32.ofInt (i_6 : Int))), some (.ref (42 + i_6))]) (st' := [.int (Int32.ofInt x), .int (Int32.ofInt (s8 (42 + i_6) 0))]) (σ' := (zN L X (zhi s8) R G nc ns)) (fun n => rfl) ?_
          refine zW.jcmp_ne rfl (by omega) (fun c16 => ?_) (fun c16 => ?_)
          · skip
            refine zW.jinc (ls' := [some (.ref 7), some (.int (Int32.ofInt x)), some (.int (Int32.ofInt (s o_2 3))), some (.ref 19), some (.int (Int32.ofInt 12)), some (.int (Int32.ofInt ((i_6 : Int) + 1))), some (.ref (42 + i_6))]) rfl (Nat.le_of_ble_eq_true rfl) rfl rfl ?_
            refine zW.run 1 (pc' := 28) (ls' := [some (.ref 7), some (.int (Int32.ofInt x)), some (.int (Int32.ofInt (s o_2 3))), some (.ref 19), some (.int (Int32.ofInt 12)), some (.int (Int32.ofInt ((i_6 : Int) + 1))), some (.ref (42 + i_6))]) (st' := []) (σ' := (zN L X (zhi s8) R G nc ns)) (fun n => rfl) ?_
            exact ih12 (i_6 + 1) (some (.ref (42 + i_6))) s8 (zV_mono V9 (by omega) (by omega)) (by omega) (by omega)
          · skip
            refine zW.run 3 (pc' := 55) (ls' := [some (.ref 7), some (.int (Int32.ofInt x)), some (.int (Int32.ofInt (s o_2 3))), some (.ref 19), some (.int (Int32.ofInt 12)), some (.int (Int32.ofInt (i_6 : Int))), some (.ref (42 + i_6))]) (st' := [.ref (42 + i_6), .ref (42 + i_6), .ref 7]) (σ' := (zN L X (zhi s8) R G nc ns)) (fun n => rfl) ?_
            refine zW.jget (v := (s8 (42 + i_6) 2)) rfl (zk_com (by omega)) (fun _ _ _ => rfl) rfl ?_
            refine zW.run 2 (pc' := 61) (ls' := [some (.ref 7), some (.int (Int32.ofInt x)), some (.int (Int32.ofInt (s o_2 3))), some (.ref 19), some (.int (Int32.ofInt 12)), some (.int (Int32.ofInt (i_6 : Int))), some (.ref (42 + i_6))]) (st' := [.int (Int32.ofInt (s o_2 3)), .int (Int32.ofInt 40), .int (Int32.ofInt (s8 (42 + i_6) 2)), .ref (42 + i_6), .ref 7]) (σ' := (zN L X (zhi s8) R G nc ns)) (fun n => rfl) ?_
            refine zW.jsub rfl ?_
            refine zW.jmul rfl ?_
            have hd : 0 ≤ ((s8 (42 + i_6) 2) * (40 - (s o_2 3))) ∧ ((s8 (42 + i_6) 2) * (40 - (s o_2 3))) ≤ 8000 := zds (by omega) (by omega)
            refine zW.run 1 (pc' := 66) (ls' := [some (.ref 7), some (.int (Int32.ofInt x)), some (.int (Int32.ofInt (s o_2 3))), some (.ref 19), some (.int (Int32.ofInt 12)), some (.int (Int32.ofInt (i_6 : Int))), some (.ref (42 + i_6))]) (st' := [.int (Int32.ofInt 400), .int (Int32.ofInt ((s8 (42 + i_6) 2) * (40 - (s o_2 3)))), .ref (42 + i_6), .ref 7]) (σ' := (zN L X (zhi s8) R G nc ns)) (fun n => rfl) ?_
            refine zW.jdiv rfl (by omega) ?_
            refine zW.callV rfl (by decide) rfl rfl rfl rfl rfl (Nat.le_of_ble_eq_true rfl) ?_
            refine t_Siege_takeMen S V9 (i := i_6) (x := (((s8 (42 + i_6) 2) * (40 - (s o_2 3))) / 400)) (by omega) (by omega) (fun v_17 s18 V19 f20 => ?_)
            show zW ro 97 70 [some (.ref 7), some (.int (Int32.ofInt x)), some (.int (Int32.ofInt (s o_2 3))), some (.ref 19), some (.int (Int32.ofInt 12)), some (.int (Int32.ofInt (i_6 : Int))), some (.ref (42 + i_6))] [.int (Int32.ofInt v_17)] (zN L X (zhi s18) R G nc ns) Q
            refine zW.run 1 (pc' := 71) (ls' := [some (.ref 7), some (.int (Int32.ofInt x)), some (.int (Int32.ofInt (s o_2 3))), some (.ref 19), some (.int (Int32.ofInt 12)), some (.int (Int32.ofInt (i_6 : Int))), some (.ref (42 + i_6))]) (st' := []) (σ' := (zN L X (zhi s18) R G nc ns)) (fun n => rfl) ?_
            refine zW.jinc (ls' := [some (.ref 7), some (.int (Int32.ofInt x)), some (.int (Int32.ofInt (s o_2 3))), some (.ref 19), some (.int (Int32.ofInt 12)), some (.int (Int32.ofInt ((i_6 : Int) + 1))), some (.ref (42 + i_6))]) rfl (Nat.le_of_ble_eq_true rfl) rfl rfl ?_
            refine zW.run 1 (pc' := 28) (ls' := [some (.ref 7), some (.int (Int32.ofInt x)), some (.int (Int32.ofInt (s o_2 3))), some (.ref 19), some (.int (Int32.ofInt 12)), some (.int (Int32.ofInt ((i_6 : Int) + 1))), some (.ref (42 + i_6))]) (st' := []) (σ' := (zN L X (zhi s18) R G nc ns)) (fun n => rfl) ?_
            exact ih12 (i_6 + 1) (some (.ref (42 + i_6))) s18 (zV_mono V19 (by omega) (by omega)) (by omega) (by omega)
    exact J11 _ 0 none s (zV_mono V (by omega) (by omega)) (by omega) (Nat.lt_succ_self _)
  · skip
    exact zW.vret rfl (hQ0 s V)
set_option maxHeartbeats 4000000 in
theorem t_Midnight_bringSupply (S : zSR R) (V : zV g U F T B ph s)  (p0 : B + 14 ≤ 1000000000) (hQ0 : ∀ (s1 : zJ), zV g U F T (B + 14) ph s1 → Q (.inl none) (zN L X (zhi s1) R G nc ns)) : zW ro 94 0 (zfst [.ref 7] 1) [] (zN L X (zhi s) R G nc ns) Q := by
  show zW ro 94 0 [some (.ref 7)] [] (zN L X (zhi s) R G nc ns) Q
  have f1 := zA_geo (zV_zA V)
  have hB0 := zV_B V
  have f2 := zV_sie V
  refine zW.run 1 (pc' := 1) (ls' := [some (.ref 7)]) (st' := [.ref 7]) (σ' := (zN L X (zhi s) R G nc ns)) (fun n => rfl) ?_
  refine zW.getf (v := .ref 23) rfl rfl (zr_7_6 S) ?_
  refine zW.run 1 (pc' := 7) (ls' := [some (.ref 7)]) (st' := [.int (Int32.ofInt (s 23 6))]) (σ' := (zN L X (zhi s) R G nc ns)) (fun n => rfl) ?_
  refine zW.if_eq rfl (fun _ => ?_) (fun _ => ?_)
  · skip
    refine zW.run 1 (pc' := 12) (ls' := [some (.ref 7)]) (st' := [.ref 7]) (σ' := (zN L X (zhi s) R G nc ns)) (fun n => rfl) ?_
    refine zW.getf (v := .ref 21) rfl rfl (zr_7_4 S) ?_
    refine zW.run 1 (pc' := 16) (ls' := [some (.ref 7)]) (st' := [.ref 21, .ref 21]) (σ' := (zN L X (zhi s) R G nc ns)) (fun n => rfl) ?_
    have f4 := zV_sid V (o := 21) (by omega)
    refine zW.run 2 (pc' := 20) (ls' := [some (.ref 7)]) (st' := [.ref 7, .int (Int32.ofInt (s 21 0)), .ref 21]) (σ' := (zN L X (zhi s) R G nc ns)) (fun n => rfl) ?_
    refine zW.run 1 (pc' := 23) (ls' := [some (.ref 7)]) (st' := [.int (Int32.ofInt (s 7 15)), .int (Int32.ofInt (s 21 0)), .ref 21]) (σ' := (zN L X (zhi s) R G nc ns)) (fun n => rfl) ?_
    refine zW.jadd rfl ?_
    refine zW.jput rfl rfl rfl ?_
    refine zW.run 1 (pc' := 28) (ls' := [some (.ref 7)]) (st' := [.ref 7]) (σ' := (zN L X (zhi (zup s 21 0 ((s 21 0) + (s 7 15)))) R G nc ns)) (fun n => rfl) ?_
    refine zW.getf (v := .ref 21) rfl rfl (zr_7_4 S) ?_
    refine zW.run 1 (pc' := 32) (ls' := [some (.ref 7)]) (st' := [.ref 21, .ref 21]) (σ' := (zN L X (zhi (zup s 21 0 ((s 21 0) + (s 7 15)))) R G nc ns)) (fun n => rfl) ?_
    refine zW.jget (v := (s 21 10)) rfl rfl (fun _ _ _ => rfl) (zup_nj (by omega)) ?_
    refine zW.run 1 (pc' := 36) (ls' := [some (.ref 7)]) (st' := [.ref 7, .int (Int32.ofInt (s 21 10)), .ref 21]) (σ' := (zN L X (zhi (zup s 21 0 ((s 21 0) + (s 7 15)))) R G nc ns)) (fun n => rfl) ?_
    refine zW.jget (v := (s 7 15)) rfl rfl (fun _ _ _ => rfl) (zup_nj (by omega)) ?_
    refine zW.jadd rfl ?_
    refine zW.jput rfl rfl rfl ?_
    refine zW.run 1 (pc' := 44) (ls' := [some (.ref 7)]) (st' := [.ref 7]) (σ' := (zN L X (zhi (zup (zup s 21 0 ((s 21 0) + (s 7 15))) 21 10 ((s 21 10) + (s 7 15)))) R G nc ns)) (fun n => rfl) ?_
    refine zW.getf (v := .ref 21) rfl rfl (zr_7_4 S) ?_
    refine zW.run 1 (pc' := 48) (ls' := [some (.ref 7)]) (st' := [.ref 21, .ref 21]) (σ' := (zN L X (zhi (zup (zup s 21 0 ((s 21 0) + (s 7 15))) 21 10 ((s 21 10) + (s 7 15)))) R G nc ns)) (fun n => rfl) ?_
    refine zW.jget (v := (s 21 1)) rfl rfl (fun _ _ _ => rfl) ((zup_nj (by omega)).trans (zup_nj (by omega))) ?_
    refine zW.run 1 (pc' := 52) (ls' := [some (.ref 7)]) (st' := [.ref 7, .int (Int32.ofInt (s 21 1)), .ref 21]) (σ' := (zN L X (zhi (zup (zup s 21 0 ((s 21 0) + (s 7 15))) 21 10 ((s 21 10) + (s 7 15)))) R G nc ns)) (fun n => rfl) ?_
    refine zW.jget (v := (s 7 15)) rfl rfl (fun _ _ _ => rfl) ((zup_nj (by omega)).trans (zup_nj (by omega))) ?_
    refine zW.jadd rfl ?_
    refine zW.jput rfl rfl rfl ?_
    have V5 : zV g U F T (B + 14) ph (zup (zup (zup s 21 0 ((s 21 0) + (s 7 15))) 21 10 ((s 21 10) + (s 7 15))) 21 1 ((s 21 1) + (s 7 15))) := (V_supp (zV_mono V (B2 := B + 14) (by omega) (by omega)) (by omega) (by omega) (by omega))
    generalize hs6 : (zup (zup (zup s 21 0 ((s 21 0) + (s 7 15))) 21 10 ((s 21 10) + (s 7 15))) 21 1 ((s 21 1) + (s 7 15))) = s6 at V5 ⊢
    exact zW.vret rfl (hQ0 s6 V5)
  · skip
    exact zW.vret rfl (hQ0 s (zV_mono V (by omega) (by omega)))
set_option maxHeartbeats 4000000 in
theorem t_Post_loseDay (S : zSR R) (V : zV g U F T B ph s)   (hQ0 : ∀ (s1 : zJ), zV g U F T B ph s1 → Q (.inl none) (zN L X (zhi s1) R G nc ns)) : zW ro 119 0 (zfst [.ref 23] 1) [] (zN L X (zhi s) R G nc ns) Q := by
  show zW ro 119 0 [some (.ref 23)] [] (zN L X (zhi s) R G nc ns) Q
  have f1 := zA_geo (zV_zA V)
  have hB0 := zV_B V
  refine zW.run 1 (pc' := 1) (ls' := [some (.ref 23)]) (st' := [.ref 23]) (σ' := (zN L X (zhi s) R G nc ns)) (fun n => rfl) ?_
  refine zW.run 1 (pc' := 4) (ls' := [some (.ref 23)]) (st' := [.int (Int32.ofInt (s 23 4))]) (σ' := (zN L X (zhi s) R G nc ns)) (fun n => rfl) ?_
  refine zW.if_le rfl (fun _ => ?_) (fun _ => ?_)
  · skip
    exact zW.vret rfl (hQ0 s V)
  · skip
    refine zW.run 2 (pc' := 9) (ls' := [some (.ref 23)]) (st' := [.ref 23, .ref 23]) (σ' := (zN L X (zhi s) R G nc ns)) (fun n => rfl) ?_
    refine zW.run 2 (pc' := 13) (ls' := [some (.ref 23)]) (st' := [.int (Int32.ofInt 1), .int (Int32.ofInt (s 23 4)), .ref 23]) (σ' := (zN L X (zhi s) R G nc ns)) (fun n => rfl) ?_
    refine zW.jsub rfl ?_
    refine zW.jput rfl rfl rfl ?_
    have V3 : zV g U F T B ph (zup s 23 4 ((s 23 4) - 1)) := (V_irr V (by omega))
    generalize hs4 : (zup s 23 4 ((s 23 4) - 1)) = s4 at V3 ⊢
    exact zW.vret rfl (hQ0 s4 V3)
set_option maxHeartbeats 4000000 in
theorem t_Post_comeThrough (S : zSR R) (V : zV g U F T B ph s)   (hQ0 : ∀ (s1 : zJ), zV g U F T B ph s1 → Q (.inl none) (zN L X (zhi s1) R G nc ns)) : zW ro 118 0 (zfst [.ref 23] 1) [] (zN L X (zhi s) R G nc ns) Q := by
  show zW ro 118 0 [some (.ref 23)] [] (zN L X (zhi s) R G nc ns) Q
  have f1 := zA_geo (zV_zA V)
  have hB0 := zV_B V
  refine zW.run 1 (pc' := 1) (ls' := [some (.ref 23)]) (st' := [.ref 23]) (σ' := (zN L X (zhi s) R G nc ns)) (fun n => rfl) ?_
  refine zW.run 1 (pc' := 4) (ls' := [some (.ref 23)]) (st' := [.int (Int32.ofInt (s 23 5))]) (σ' := (zN L X (zhi s) R G nc ns)) (fun n => rfl) ?_
  refine zW.if_eq rfl (fun _ => ?_) (fun _ => ?_)
  · skip
    refine zW.run 2 (pc' := 13) (ls' := [some (.ref 23)]) (st' := [.int (Int32.ofInt 1), .ref 23]) (σ' := (zN L X (zhi s) R G nc ns)) (fun n => rfl) ?_
    refine zW.jputb rfl rfl (by decide) (by decide) ?_
    have V3 : zV g U F T B ph (zup s 23 5 1) := (V_irr V (by omega))
    generalize hs4 : (zup s 23 5 1) = s4 at V3 ⊢
    exact zW.vret rfl (hQ0 s4 V3)
  · skip
    refine zW.run 1 (pc' := 8) (ls' := [some (.ref 23)]) (st' := [.ref 23]) (σ' := (zN L X (zhi s) R G nc ns)) (fun n => rfl) ?_
    refine zW.callV rfl (by decide) rfl rfl rfl rfl rfl (Nat.le_of_ble_eq_true rfl) ?_
    refine t_Post_loseDay S V (fun s5 V6 => ?_)
    show zW ro 118 11 [some (.ref 23)] [] (zN L X (zhi s5) R G nc ns) Q
    refine zW.run 2 (pc' := 13) (ls' := [some (.ref 23)]) (st' := [.int (Int32.ofInt 1), .ref 23]) (σ' := (zN L X (zhi s5) R G nc ns)) (fun n => rfl) ?_
    refine zW.jputb rfl rfl (by decide) (by decide) ?_
    have V7 : zV g U F T B ph (zup s5 23 5 1) := (V_irr V6 (by omega))
    generalize hs8 : (zup s5 23 5 1) = s8 at V7 ⊢
    exact zW.vret rfl (hQ0 s8 V7)
set_option maxHeartbeats 4000000 in
theorem t_Post_swim (S : zSR R) (V : zV g U F T B ph s) {x : Int} (p0 : -2147483648 ≤ x ∧ x < 2147483648) (hQ0 : ∀ (s1 : zJ), zV g U F T B ph s1 → Q (.inl none) (zN L X (zhi s1) R G nc ns)) : zW ro 120 0 (zfst [.ref 23, .int (Int32.ofInt x)] 3) [] (zN L X (zhi s) R G nc ns) Q := by
  show zW ro 120 0 [some (.ref 23), some (.int (Int32.ofInt x)), none] [] (zN L X (zhi s) R G nc ns) Q
  have f1 := zA_geo (zV_zA V)
  have hB0 := zV_B V
  refine zW.run 2 (pc' := 2) (ls' := [some (.ref 23), some (.int (Int32.ofInt x)), some (.int (Int32.ofInt 0))]) (st' := []) (σ' := (zN L X (zhi s) R G nc ns)) (fun n => rfl) ?_
  have J6 : ∀ m : Nat, ∀ (i_2 : Nat) (s3 : zJ), zV g U F T B ph s3 → i_2 ≤ 6 → 7 - i_2 < m → zW ro 120 2 [some (.ref 23), some (.int (Int32.ofInt x)), some (.int (Int32.ofInt (i_2 : Int)))] [] (zN L X (zhi s3) R G nc ns) Q := by
    intro m
    induction m with
    | zero => intros; omega
    | succ m ih7 =>
      intro i_2 s3 V4 c5 hm8
      refine zW.run 2 (pc' := 4) (ls' := [some (.ref 23), some (.int (Int32.ofInt x)), some (.int (Int32.ofInt (i_2 : Int)))]) (st' := [.ref 23, .int (Int32.ofInt (i_2 : Int))]) (σ' := (zN L X (zhi s3) R G nc ns)) (fun n => rfl) ?_
      refine zW.run 1 (pc' := 7) (ls' := [some (.ref 23), some (.int (Int32.ofInt x)), some (.int (Int32.ofInt (i_2 : Int)))]) (st' := [.int (Int32.ofInt (s3 23 2)), .int (Int32.ofInt (i_2 : Int))]) (σ' := (zN L X (zhi s3) R G nc ns)) (fun n => rfl) ?_
      refine zW.icmp_ge rfl (fun _ => ?_) (fun _ => ?_)
      · skip
        exact zW.vret rfl (hQ0 s3 V4)
      · skip
        refine zW.run 2 (pc' := 13) (ls' := [some (.ref 23), some (.int (Int32.ofInt x)), some (.int (Int32.ofInt (i_2 : Int)))]) (st' := [.int (Int32.ofInt 6), .int (Int32.ofInt (i_2 : Int))]) (σ' := (zN L X (zhi s3) R G nc ns)) (fun n => rfl) ?_
        refine zW.jcmp_ge rfl (by omega) (fun c10 => ?_) (fun c10 => ?_)
        · skip
          exact zW.vret rfl (hQ0 s3 V4)
        · skip
          refine zW.run 1 (pc' := 17) (ls' := [some (.ref 23), some (.int (Int32.ofInt x)), some (.int (Int32.ofInt (i_2 : Int)))]) (st' := [.ref 23]) (σ' := (zN L X (zhi s3) R G nc ns)) (fun n => rfl) ?_
          refine zW.getf (v := .ref 25) rfl rfl (zr_23_1 S) ?_
          refine zW.run 1 (pc' := 21) (ls' := [some (.ref 23), some (.int (Int32.ofInt x)), some (.int (Int32.ofInt (i_2 : Int)))]) (st' := [.int (Int32.ofInt (i_2 : Int)), .ref 25]) (σ' := (zN L X (zhi s3) R G nc ns)) (fun n => rfl) ?_
          refine zW.jald (n := 6) (v := (s3 25 i_2)) rfl rfl (by decide) (by omega) rfl ?_
          refine zW.if_eq rfl (fun _ => ?_) (fun _ => ?_)
          · skip
            refine zW.run 1 (pc' := 29) (ls' := [some (.ref 23), some (.int (Int32.ofInt x)), some (.int (Int32.ofInt (i_2 : Int)))]) (st' := [.ref 23]) (σ' := (zN L X (zhi s3) R G nc ns)) (fun n => rfl) ?_
            refine zW.getf (v := .ref 24) rfl rfl (zr_23_0 S) ?_
            refine zW.run 2 (pc' := 34) (ls' := [some (.ref 23), some (.int (Int32.ofInt x)), some (.int (Int32.ofInt (i_2 : Int)))]) (st' := [.int (Int32.ofInt (i_2 : Int)), .ref 24, .int (Int32.ofInt (i_2 : Int)), .ref 24]) (σ' := (zN L X (zhi s3) R G nc ns)) (fun n => rfl) ?_
            refine zW.jald (n := 6) (v := (s3 24 i_2)) rfl rfl (by decide) (by omega) rfl ?_
            refine zW.run 1 (pc' := 36) (ls' := [some (.ref 23), some (.int (Int32.ofInt x)), some (.int (Int32.ofInt (i_2 : Int)))]) (st' := [.int (Int32.ofInt 1), .int (Int32.ofInt (s3 24 i_2)), .int (Int32.ofInt (i_2 : Int)), .ref 24]) (σ' := (zN L X (zhi s3) R G nc ns)) (fun n => rfl) ?_
            refine zW.jadd rfl ?_
            refine zW.jast (n := 6) rfl rfl (by decide) (by omega) ?_
            refine zW.run 2 (pc' := 40) (ls' := [some (.ref 23), some (.int (Int32.ofInt x)), some (.int (Int32.ofInt (i_2 : Int)))]) (st' := [.ref 23, .int (Int32.ofInt x)]) (σ' := (zN L X (zhi (zup s3 24 i_2 ((s3 24 i_2) + 1))) R G nc ns)) (fun n => rfl) ?_
            refine zW.getf (v := .ref 24) rfl rfl (zr_23_0 S) ?_
            refine zW.run 1 (pc' := 44) (ls' := [some (.ref 23), some (.int (Int32.ofInt x)), some (.int (Int32.ofInt (i_2 : Int)))]) (st' := [.int (Int32.ofInt (i_2 : Int)), .ref 24, .int (Int32.ofInt x)]) (σ' := (zN L X (zhi (zup s3 24 i_2 ((s3 24 i_2) + 1))) R G nc ns)) (fun n => rfl) ?_
            refine zW.jald (n := 6) (v := ((s3 24 i_2) + 1)) rfl rfl (by decide) (by omega) zup_ej ?_
            refine zW.icmp_ge rfl (fun _ => ?_) (fun _ => ?_)
            · skip
              refine zW.run 1 (pc' := 73) (ls' := [some (.ref 23), some (.int (Int32.ofInt x)), some (.int (Int32.ofInt (i_2 : Int)))]) (st' := [.ref 23]) (σ' := (zN L X (zhi (zup s3 24 i_2 ((s3 24 i_2) + 1))) R G nc ns)) (fun n => rfl) ?_
              refine zW.getf (v := .ref 24) rfl rfl (zr_23_0 S) ?_
              refine zW.run 1 (pc' := 77) (ls' := [some (.ref 23), some (.int (Int32.ofInt x)), some (.int (Int32.ofInt (i_2 : Int)))]) (st' := [.int (Int32.ofInt (i_2 : Int)), .ref 24]) (σ' := (zN L X (zhi (zup s3 24 i_2 ((s3 24 i_2) + 1))) R G nc ns)) (fun n => rfl) ?_
              refine zW.jald (n := 6) (v := ((s3 24 i_2) + 1)) rfl rfl (by decide) (by omega) zup_ej ?_
              refine zW.run 1 (pc' := 79) (ls' := [some (.ref 23), some (.int (Int32.ofInt x)), some (.int (Int32.ofInt (i_2 : Int)))]) (st' := [.int (Int32.ofInt 4), .int (Int32.ofInt ((s3 24 i_2) + 1))]) (σ' := (zN L X (zhi (zup s3 24 i_2 ((s3 24 i_2) + 1))) R G nc ns)) (fun n => rfl) ?_
              refine zW.icmp_lt rfl (fun _ => ?_) (fun _ => ?_)
              · skip
                refine zW.jinc (ls' := [some (.ref 23), some (.int (Int32.ofInt x)), some (.int (Int32.ofInt ((i_2 : Int) + 1)))]) rfl (Nat.le_of_ble_eq_true rfl) rfl rfl ?_
                refine zW.run 1 (pc' := 2) (ls' := [some (.ref 23), some (.int (Int32.ofInt x)), some (.int (Int32.ofInt ((i_2 : Int) + 1)))]) (st' := []) (σ' := (zN L X (zhi (zup s3 24 i_2 ((s3 24 i_2) + 1))) R G nc ns)) (fun n => rfl) ?_
                have V14 : zV g U F T B ph (zup s3 24 i_2 ((s3 24 i_2) + 1)) := (V_irr V4 (by omega))
                generalize hs15 : (zup s3 24 i_2 ((s3 24 i_2) + 1)) = s15 at V14 ⊢
                exact ih7 (i_2 + 1) s15 (zV_mono V14 (by omega) (by omega)) (by omega) (by omega)
              · skip
                refine zW.run 1 (pc' := 83) (ls' := [some (.ref 23), some (.int (Int32.ofInt x)), some (.int (Int32.ofInt (i_2 : Int)))]) (st' := [.ref 23]) (σ' := (zN L X (zhi (zup s3 24 i_2 ((s3 24 i_2) + 1))) R G nc ns)) (fun n => rfl) ?_
                refine zW.getf (v := .ref 25) rfl rfl (zr_23_1 S) ?_
                refine zW.run 2 (pc' := 88) (ls' := [some (.ref 23), some (.int (Int32.ofInt x)), some (.int (Int32.ofInt (i_2 : Int)))]) (st' := [.int (Int32.ofInt 2), .int (Int32.ofInt (i_2 : Int)), .ref 25]) (σ' := (zN L X (zhi (zup s3 24 i_2 ((s3 24 i_2) + 1))) R G nc ns)) (fun n => rfl) ?_
                refine zW.jast (n := 6) rfl rfl (by decide) (by omega) ?_
                refine zW.jinc (ls' := [some (.ref 23), some (.int (Int32.ofInt x)), some (.int (Int32.ofInt ((i_2 : Int) + 1)))]) rfl (Nat.le_of_ble_eq_true rfl) rfl rfl ?_
                refine zW.run 1 (pc' := 2) (ls' := [some (.ref 23), some (.int (Int32.ofInt x)), some (.int (Int32.ofInt ((i_2 : Int) + 1)))]) (st' := []) (σ' := (zN L X (zhi (zup (zup s3 24 i_2 ((s3 24 i_2) + 1)) 25 i_2 2)) R G nc ns)) (fun n => rfl) ?_
                have V16 : zV g U F T B ph (zup (zup s3 24 i_2 ((s3 24 i_2) + 1)) 25 i_2 2) := (V_irr (V_irr V4 (by omega)) (by omega))
                generalize hs17 : (zup (zup s3 24 i_2 ((s3 24 i_2) + 1)) 25 i_2 2) = s17 at V16 ⊢
                exact ih7 (i_2 + 1) s17 (zV_mono V16 (by omega) (by omega)) (by omega) (by omega)
            · skip
              refine zW.run 1 (pc' := 49) (ls' := [some (.ref 23), some (.int (Int32.ofInt x)), some (.int (Int32.ofInt (i_2 : Int)))]) (st' := [.ref 23]) (σ' := (zN L X (zhi (zup s3 24 i_2 ((s3 24 i_2) + 1))) R G nc ns)) (fun n => rfl) ?_
              refine zW.getf (v := .ref 25) rfl rfl (zr_23_1 S) ?_
              refine zW.run 2 (pc' := 54) (ls' := [some (.ref 23), some (.int (Int32.ofInt x)), some (.int (Int32.ofInt (i_2 : Int)))]) (st' := [.int (Int32.ofInt 1), .int (Int32.ofInt (i_2 : Int)), .ref 25]) (σ' := (zN L X (zhi (zup s3 24 i_2 ((s3 24 i_2) + 1))) R G nc ns)) (fun n => rfl) ?_
              refine zW.jast (n := 6) rfl rfl (by decide) (by omega) ?_
              refine zW.run 2 (pc' := 57) (ls' := [some (.ref 23), some (.int (Int32.ofInt x)), some (.int (Int32.ofInt (i_2 : Int)))]) (st' := [.ref 23, .ref 23]) (σ' := (zN L X (zhi (zup (zup s3 24 i_2 ((s3 24 i_2) + 1)) 25 i_2 1)) R G nc ns)) (fun n => rfl) ?_
              refine zW.jget (v := (s3 23 3)) rfl rfl (fun _ _ _ => rfl) ((zup_nj (by omega)).trans (zup_nj (by omega))) ?_
              refine zW.run 1 (pc' := 61) (ls' := [some (.ref 23), some (.int (Int32.ofInt x)), some (.int (Int32.ofInt (i_2 : Int)))]) (st' := [.int (Int32.ofInt 1), .int (Int32.ofInt (s3 23 3)), .ref 23]) (σ' := (zN L X (zhi (zup (zup s3 24 i_2 ((s3 24 i_2) + 1)) 25 i_2 1)) R G nc ns)) (fun n => rfl) ?_
              refine zW.jadd rfl ?_
              refine zW.jput rfl rfl rfl ?_
              refine zW.run 1 (pc' := 66) (ls' := [some (.ref 23), some (.int (Int32.ofInt x)), some (.int (Int32.ofInt (i_2 : Int)))]) (st' := [.ref 23]) (σ' := (zN L X (zhi (zup (zup (zup s3 24 i_2 ((s3 24 i_2) + 1)) 25 i_2 1) 23 3 ((s3 23 3) + 1))) R G nc ns)) (fun n => rfl) ?_
              have V18 : zV g U F T B ph (zup (zup (zup s3 24 i_2 ((s3 24 i_2) + 1)) 25 i_2 1) 23 3 ((s3 23 3) + 1)) := (V_irr (V_irr (V_irr V4 (by omega)) (by omega)) (by omega))
              generalize hs19 : (zup (zup (zup s3 24 i_2 ((s3 24 i_2) + 1)) 25 i_2 1) 23 3 ((s3 23 3) + 1)) = s19 at V18 ⊢
              refine zW.callV rfl (by decide) rfl rfl rfl rfl rfl (Nat.le_of_ble_eq_true rfl) ?_
              refine t_Post_comeThrough S V18 (fun s20 V21 => ?_)
              show zW ro 120 69 [some (.ref 23), some (.int (Int32.ofInt x)), some (.int (Int32.ofInt (i_2 : Int)))] [] (zN L X (zhi s20) R G nc ns) Q
              refine zW.run 1 (pc' := 89) (ls' := [some (.ref 23), some (.int (Int32.ofInt x)), some (.int (Int32.ofInt (i_2 : Int)))]) (st' := []) (σ' := (zN L X (zhi s20) R G nc ns)) (fun n => rfl) ?_
              refine zW.jinc (ls' := [some (.ref 23), some (.int (Int32.ofInt x)), some (.int (Int32.ofInt ((i_2 : Int) + 1)))]) rfl (Nat.le_of_ble_eq_true rfl) rfl rfl ?_
              refine zW.run 1 (pc' := 2) (ls' := [some (.ref 23), some (.int (Int32.ofInt x)), some (.int (Int32.ofInt ((i_2 : Int) + 1)))]) (st' := []) (σ' := (zN L X (zhi s20) R G nc ns)) (fun n => rfl) ?_
              exact ih7 (i_2 + 1) s20 (zV_mono V21 (by omega) (by omega)) (by omega) (by omega)
          · skip
            refine zW.run 1 (pc' := 89) (ls' := [some (.ref 23), some (.int (Int32.ofInt x)), some (.int (Int32.ofInt (i_2 : Int)))]) (st' := []) (σ' := (zN L X (zhi s3) R G nc ns)) (fun n => rfl) ?_
            refine zW.jinc (ls' := [some (.ref 23), some (.int (Int32.ofInt x)), some (.int (Int32.ofInt ((i_2 : Int) + 1)))]) rfl (Nat.le_of_ble_eq_true rfl) rfl rfl ?_
            refine zW.run 1 (pc' := 2) (ls' := [some (.ref 23), some (.int (Int32.ofInt x)), some (.int (Int32.ofInt ((i_2 : Int) + 1)))]) (st' := []) (σ' := (zN L X (zhi s3) R G nc ns)) (fun n => rfl) ?_
            exact ih7 (i_2 + 1) s3 (zV_mono V4 (by omega) (by omega)) (by omega) (by omega)
  exact J6 _ 0 s (zV_mono V (by omega) (by omega)) (by omega) (Nat.lt_succ_self _)
set_option maxHeartbeats 4000000 in
theorem t_Midnight_comeNearer (S : zSR R) (V : zV g U F T B ph s) {x : Int}  (hQ0 : ∀ (s1 : zJ), zV g U F T B ph s1 → Q (.inl none) (zN L X (zhi s1) R G nc ns)) : zW ro 96 0 (zfst [.ref 7, .int (Int32.ofInt x)] 3) [] (zN L X (zhi s) R G nc ns) Q := by
  show zW ro 96 0 [some (.ref 7), some (.int (Int32.ofInt x)), none] [] (zN L X (zhi s) R G nc ns) Q
  have f1 := zA_geo (zV_zA V)
  have hB0 := zV_B V
  refine zW.run 1 (pc' := 1) (ls' := [some (.ref 7), some (.int (Int32.ofInt x)), none]) (st' := [.ref 7]) (σ' := (zN L X (zhi s) R G nc ns)) (fun n => rfl) ?_
  refine zW.getf (v := .ref 23) rfl rfl (zr_7_6 S) ?_
  refine zW.run 2 (pc' := 6) (ls' := [some (.ref 7), some (.int (Int32.ofInt x)), some (.ref 23)]) (st' := [.ref 23]) (σ' := (zN L X (zhi s) R G nc ns)) (fun n => rfl) ?_
  refine zW.run 1 (pc' := 9) (ls' := [some (.ref 7), some (.int (Int32.ofInt x)), some (.ref 23)]) (st' := [.int (Int32.ofInt (s 23 5))]) (σ' := (zN L X (zhi s) R G nc ns)) (fun n => rfl) ?_
  refine zW.if_eq rfl (fun _ => ?_) (fun _ => ?_)
  · skip
    exact zW.vret rfl (hQ0 s V)
  · skip
    refine zW.run 1 (pc' := 13) (ls' := [some (.ref 7), some (.int (Int32.ofInt x)), some (.ref 23)]) (st' := [.ref 23]) (σ' := (zN L X (zhi s) R G nc ns)) (fun n => rfl) ?_
    refine zW.run 1 (pc' := 16) (ls' := [some (.ref 7), some (.int (Int32.ofInt x)), some (.ref 23)]) (st' := [.int (Int32.ofInt (s 23 6))]) (σ' := (zN L X (zhi s) R G nc ns)) (fun n => rfl) ?_
    refine zW.if_eq rfl (fun _ => ?_) (fun _ => ?_)
    · skip
      refine zW.run 1 (pc' := 21) (ls' := [some (.ref 7), some (.int (Int32.ofInt x)), some (.ref 23)]) (st' := [.int (Int32.ofInt x)]) (σ' := (zN L X (zhi s) R G nc ns)) (fun n => rfl) ?_
      refine zW.if_eq rfl (fun _ => ?_) (fun _ => ?_)
      · skip
        refine zW.run 1 (pc' := 29) (ls' := [some (.ref 7), some (.int (Int32.ofInt x)), some (.ref 23)]) (st' := [.ref 23]) (σ' := (zN L X (zhi s) R G nc ns)) (fun n => rfl) ?_
        refine zW.run 1 (pc' := 32) (ls' := [some (.ref 7), some (.int (Int32.ofInt x)), some (.ref 23)]) (st' := [.int (Int32.ofInt (s 23 4))]) (σ' := (zN L X (zhi s) R G nc ns)) (fun n => rfl) ?_
        refine zW.if_ne rfl (fun _ => ?_) (fun _ => ?_)
        · skip
          exact zW.vret rfl (hQ0 s V)
        · skip
          refine zW.run 2 (pc' := 37) (ls' := [some (.ref 7), some (.int (Int32.ofInt x)), some (.ref 23)]) (st' := [.int (Int32.ofInt 1), .ref 23]) (σ' := (zN L X (zhi s) R G nc ns)) (fun n => rfl) ?_
          refine zW.jputb rfl rfl (by decide) (by decide) ?_
          refine zW.run 1 (pc' := 41) (ls' := [some (.ref 7), some (.int (Int32.ofInt x)), some (.ref 23)]) (st' := [.ref 7]) (σ' := (zN L X (zhi (zup s 23 6 1)) R G nc ns)) (fun n => rfl) ?_
          refine zW.getf (v := .ref 22) rfl rfl (zr_7_5 S) ?_
          refine zW.run 1 (pc' := 46) (ls' := [some (.ref 7), some (.int (Int32.ofInt x)), some (.ref 23)]) (st' := [.int (Int32.ofInt 20), .ref 22]) (σ' := (zN L X (zhi (zup s 23 6 1)) R G nc ns)) (fun n => rfl) ?_
          have V6 : zV g U F T B ph (zup s 23 6 1) := (V_irr V (by omega))
          generalize hs7 : (zup s 23 6 1) = s7 at V6 ⊢
          refine zW.callV rfl (by decide) rfl rfl rfl rfl rfl (Nat.le_of_ble_eq_true rfl) ?_
          refine t_Side_changeMorale S V6 (o := 22) (x := 20) (by omega) (by omega) (fun s8 V9 => ?_)
          show zW ro 96 49 [some (.ref 7), some (.int (Int32.ofInt x)), some (.ref 23)] [] (zN L X (zhi s8) R G nc ns) Q
          refine zW.run 1 (pc' := 50) (ls' := [some (.ref 7), some (.int (Int32.ofInt x)), some (.ref 23)]) (st' := [.ref 7]) (σ' := (zN L X (zhi s8) R G nc ns)) (fun n => rfl) ?_
          refine zW.getf (v := .ref 21) rfl rfl (zr_7_4 S) ?_
          refine zW.run 1 (pc' := 55) (ls' := [some (.ref 7), some (.int (Int32.ofInt x)), some (.ref 23)]) (st' := [.int (Int32.ofInt (-15)), .ref 21]) (σ' := (zN L X (zhi s8) R G nc ns)) (fun n => rfl) ?_
          refine zW.callV rfl (by decide) rfl rfl rfl rfl rfl (Nat.le_of_ble_eq_true rfl) ?_
          refine t_Side_changeMorale S V9 (o := 21) (x := (-15)) (by omega) (by omega) (fun s10 V11 => ?_)
          show zW ro 96 58 [some (.ref 7), some (.int (Int32.ofInt x)), some (.ref 23)] [] (zN L X (zhi s10) R G nc ns) Q
          exact zW.vret rfl (hQ0 s10 V11)
      · skip
        refine zW.run 1 (pc' := 25) (ls' := [some (.ref 7), some (.int (Int32.ofInt x)), some (.ref 23)]) (st' := [.ref 23]) (σ' := (zN L X (zhi s) R G nc ns)) (fun n => rfl) ?_
        refine zW.callV rfl (by decide) rfl rfl rfl rfl rfl (Nat.le_of_ble_eq_true rfl) ?_
        refine t_Post_loseDay S V (fun s12 V13 => ?_)
        show zW ro 96 28 [some (.ref 7), some (.int (Int32.ofInt x)), some (.ref 23)] [] (zN L X (zhi s12) R G nc ns) Q
        refine zW.run 1 (pc' := 29) (ls' := [some (.ref 7), some (.int (Int32.ofInt x)), some (.ref 23)]) (st' := [.ref 23]) (σ' := (zN L X (zhi s12) R G nc ns)) (fun n => rfl) ?_
        refine zW.run 1 (pc' := 32) (ls' := [some (.ref 7), some (.int (Int32.ofInt x)), some (.ref 23)]) (st' := [.int (Int32.ofInt (s12 23 4))]) (σ' := (zN L X (zhi s12) R G nc ns)) (fun n => rfl) ?_
        refine zW.if_ne rfl (fun _ => ?_) (fun _ => ?_)
        · skip
          exact zW.vret rfl (hQ0 s12 V13)
        · skip
          refine zW.run 2 (pc' := 37) (ls' := [some (.ref 7), some (.int (Int32.ofInt x)), some (.ref 23)]) (st' := [.int (Int32.ofInt 1), .ref 23]) (σ' := (zN L X (zhi s12) R G nc ns)) (fun n => rfl) ?_
          refine zW.jputb rfl rfl (by decide) (by decide) ?_
          refine zW.run 1 (pc' := 41) (ls' := [some (.ref 7), some (.int (Int32.ofInt x)), some (.ref 23)]) (st' := [.ref 7]) (σ' := (zN L X (zhi (zup s12 23 6 1)) R G nc ns)) (fun n => rfl) ?_
          refine zW.getf (v := .ref 22) rfl rfl (zr_7_5 S) ?_
          refine zW.run 1 (pc' := 46) (ls' := [some (.ref 7), some (.int (Int32.ofInt x)), some (.ref 23)]) (st' := [.int (Int32.ofInt 20), .ref 22]) (σ' := (zN L X (zhi (zup s12 23 6 1)) R G nc ns)) (fun n => rfl) ?_
          have V15 : zV g U F T B ph (zup s12 23 6 1) := (V_irr V13 (by omega))
          generalize hs16 : (zup s12 23 6 1) = s16 at V15 ⊢
          refine zW.callV rfl (by decide) rfl rfl rfl rfl rfl (Nat.le_of_ble_eq_true rfl) ?_
          refine t_Side_changeMorale S V15 (o := 22) (x := 20) (by omega) (by omega) (fun s17 V18 => ?_)
          show zW ro 96 49 [some (.ref 7), some (.int (Int32.ofInt x)), some (.ref 23)] [] (zN L X (zhi s17) R G nc ns) Q
          refine zW.run 1 (pc' := 50) (ls' := [some (.ref 7), some (.int (Int32.ofInt x)), some (.ref 23)]) (st' := [.ref 7]) (σ' := (zN L X (zhi s17) R G nc ns)) (fun n => rfl) ?_
          refine zW.getf (v := .ref 21) rfl rfl (zr_7_4 S) ?_
          refine zW.run 1 (pc' := 55) (ls' := [some (.ref 7), some (.int (Int32.ofInt x)), some (.ref 23)]) (st' := [.int (Int32.ofInt (-15)), .ref 21]) (σ' := (zN L X (zhi s17) R G nc ns)) (fun n => rfl) ?_
          refine zW.callV rfl (by decide) rfl rfl rfl rfl rfl (Nat.le_of_ble_eq_true rfl) ?_
          refine t_Side_changeMorale S V18 (o := 21) (x := (-15)) (by omega) (by omega) (fun s19 V20 => ?_)
          show zW ro 96 58 [some (.ref 7), some (.int (Int32.ofInt x)), some (.ref 23)] [] (zN L X (zhi s19) R G nc ns) Q
          exact zW.vret rfl (hQ0 s19 V20)
    · skip
      exact zW.vret rfl (hQ0 s V)
set_option maxHeartbeats 4000000 in
theorem t_Midnight_come (S : zSR R) (V : zV g U F T B ph s)  (p0 : B + 14 ≤ 1000000000) (hQ0 : ∀ (s1 : zJ), zV g U F T (B + 14) ph s1 → Q (.inl none) (zN L X (zhi s1) R G nc ns)) : zW ro 95 0 (zfst [.ref 7] 2) [] (zN L X (zhi s) R G nc ns) Q := by
  show zW ro 95 0 [some (.ref 7), none] [] (zN L X (zhi s) R G nc ns) Q
  have f1 := zA_geo (zV_zA V)
  have hB0 := zV_B V
  refine zW.run 2 (pc' := 2) (ls' := [some (.ref 7), none]) (st' := [.int (Int32.ofInt 0), .ref 7]) (σ' := (zN L X (zhi s) R G nc ns)) (fun n => rfl) ?_
  refine zW.callS rfl rfl rfl rfl rfl (Nat.le_of_ble_eq_true rfl) ?_
  refine t_Midnight_eat S V (x := 0) (by omega) (fun s2 V3 => ?_)
  show zW ro 95 5 [some (.ref 7), none] [] (zN L X (zhi s2) R G nc ns) Q
  refine zW.run 2 (pc' := 7) (ls' := [some (.ref 7), none]) (st' := [.int (Int32.ofInt 0), .ref 7]) (σ' := (zN L X (zhi s2) R G nc ns)) (fun n => rfl) ?_
  refine zW.callS rfl rfl rfl rfl rfl (Nat.le_of_ble_eq_true rfl) ?_
  refine t_Midnight_fallSick S V3 (x := 0) (by omega) (fun s4 V5 => ?_)
  show zW ro 95 10 [some (.ref 7), none] [] (zN L X (zhi s4) R G nc ns) Q
  refine zW.run 2 (pc' := 12) (ls' := [some (.ref 7), none]) (st' := [.int (Int32.ofInt 0), .ref 7]) (σ' := (zN L X (zhi s4) R G nc ns)) (fun n => rfl) ?_
  refine zW.callS rfl rfl rfl rfl rfl (Nat.le_of_ble_eq_true rfl) ?_
  refine t_Midnight_desert S V5 (x := 0) (by omega) (fun s6 V7 => ?_)
  show zW ro 95 15 [some (.ref 7), none] [] (zN L X (zhi s6) R G nc ns) Q
  refine zW.run 1 (pc' := 16) (ls' := [some (.ref 7), none]) (st' := [.ref 7]) (σ' := (zN L X (zhi s6) R G nc ns)) (fun n => rfl) ?_
  refine zW.callS rfl rfl rfl rfl rfl (Nat.le_of_ble_eq_true rfl) ?_
  refine t_Midnight_bringSupply S V7 (by omega) (fun s8 V9 => ?_)
  show zW ro 95 19 [some (.ref 7), none] [] (zN L X (zhi s8) R G nc ns) Q
  refine zW.run 2 (pc' := 21) (ls' := [some (.ref 7), none]) (st' := [.int (Int32.ofInt 1), .ref 7]) (σ' := (zN L X (zhi s8) R G nc ns)) (fun n => rfl) ?_
  refine zW.callS rfl rfl rfl rfl rfl (Nat.le_of_ble_eq_true rfl) ?_
  refine t_Midnight_eat S V9 (x := 1) (by omega) (fun s10 V11 => ?_)
  show zW ro 95 24 [some (.ref 7), none] [] (zN L X (zhi s10) R G nc ns) Q
  refine zW.run 2 (pc' := 26) (ls' := [some (.ref 7), none]) (st' := [.int (Int32.ofInt 1), .ref 7]) (σ' := (zN L X (zhi s10) R G nc ns)) (fun n => rfl) ?_
  refine zW.callS rfl rfl rfl rfl rfl (Nat.le_of_ble_eq_true rfl) ?_
  refine t_Midnight_fallSick S V11 (x := 1) (by omega) (fun s12 V13 => ?_)
  show zW ro 95 29 [some (.ref 7), none] [] (zN L X (zhi s12) R G nc ns) Q
  refine zW.run 2 (pc' := 31) (ls' := [some (.ref 7), none]) (st' := [.int (Int32.ofInt 1), .ref 7]) (σ' := (zN L X (zhi s12) R G nc ns)) (fun n => rfl) ?_
  refine zW.callS rfl rfl rfl rfl rfl (Nat.le_of_ble_eq_true rfl) ?_
  refine t_Midnight_desert S V13 (x := 1) (by omega) (fun s14 V15 => ?_)
  show zW ro 95 34 [some (.ref 7), none] [] (zN L X (zhi s14) R G nc ns) Q
  refine zW.run 1 (pc' := 35) (ls' := [some (.ref 7), none]) (st' := [.ref 7]) (σ' := (zN L X (zhi s14) R G nc ns)) (fun n => rfl) ?_
  refine zW.getf (v := .ref 22) rfl rfl (zr_7_5 S) ?_
  refine zW.run 1 (pc' := 39) (ls' := [some (.ref 7), none]) (st' := [.ref 7, .ref 22]) (σ' := (zN L X (zhi s14) R G nc ns)) (fun n => rfl) ?_
  refine zW.getf (v := .ref 8) rfl rfl (zr_7_0 S) ?_
  refine zW.run 1 (pc' := 44) (ls' := [some (.ref 7), none]) (st' := [.int (Int32.ofInt 6), .ref 8, .ref 22]) (σ' := (zN L X (zhi s14) R G nc ns)) (fun n => rfl) ?_
  refine zW.callV rfl (by decide) rfl rfl rfl rfl rfl (Nat.le_of_ble_eq_true rfl) ?_
  refine t_Ground_countOf S V15 (x := 6) (by omega) (fun v_16 f17 f18 => ?_)
  show zW ro 95 47 [some (.ref 7), none] [.int (Int32.ofInt v_16), .ref 22] (zN L X (zhi s14) R G nc ns) Q
  refine zW.jneg rfl ?_
  refine zW.callV rfl (by decide) rfl rfl rfl rfl rfl (Nat.le_of_ble_eq_true rfl) ?_
  refine t_Side_changeMorale S V15 (o := 22) (x := (-v_16)) (by omega) (by omega) (fun s19 V20 => ?_)
  show zW ro 95 51 [some (.ref 7), none] [] (zN L X (zhi s19) R G nc ns) Q
  refine zW.run 2 (pc' := 53) (ls' := [some (.ref 7), none]) (st' := [.ref 7, .ref 7]) (σ' := (zN L X (zhi s19) R G nc ns)) (fun n => rfl) ?_
  have f21 := zV_sie V20
  refine zW.run 2 (pc' := 57) (ls' := [some (.ref 7), none]) (st' := [.int (Int32.ofInt 2), .int (Int32.ofInt (s19 7 16)), .ref 7]) (σ' := (zN L X (zhi s19) R G nc ns)) (fun n => rfl) ?_
  refine zW.idiv rfl (by decide) ?_
  obtain ⟨u22, ru22, eu22⟩ := zj_w ((Int32.ofInt (s19 7 16)) / (Int32.ofInt 2))
  rw [eu22]
  refine zW.jput rfl rfl rfl ?_
  refine zW.run 1 (pc' := 62) (ls' := [some (.ref 7), none]) (st' := [.ref 7]) (σ' := (zN L X (zhi (zup s19 7 16 u22)) R G nc ns)) (fun n => rfl) ?_
  refine zW.getf (v := .ref 23) rfl rfl (zr_7_6 S) ?_
  refine zW.jget (v := (s19 23 5)) rfl rfl (fun _ _ _ => rfl) (zup_nj (by omega)) ?_
  refine zW.run 2 (pc' := 70) (ls' := [some (.ref 7), some (.int (Int32.ofInt (s19 23 5)))]) (st' := [.ref 7]) (σ' := (zN L X (zhi (zup s19 7 16 u22)) R G nc ns)) (fun n => rfl) ?_
  refine zW.getf (v := .ref 23) rfl rfl (zr_7_6 S) ?_
  refine zW.run 1 (pc' := 74) (ls' := [some (.ref 7), some (.int (Int32.ofInt (s19 23 5)))]) (st' := [.ref 7, .ref 23]) (σ' := (zN L X (zhi (zup s19 7 16 u22)) R G nc ns)) (fun n => rfl) ?_
  have V23 : zV g U F T (B + 14) ph (zup s19 7 16 u22) := (V_irr V20 (by omega))
  generalize hs24 : (zup s19 7 16 u22) = s24 at V23 ⊢
  refine zW.callS rfl rfl rfl rfl rfl (Nat.le_of_ble_eq_true rfl) ?_
  refine t_Midnight_guardsOf S V23 (fun v_25 f26 => ?_)
  show zW ro 95 77 [some (.ref 7), some (.int (Int32.ofInt (s19 23 5)))] [.int (Int32.ofInt v_25), .ref 23] (zN L X (zhi s24) R G nc ns) Q
  refine zW.callV rfl (by decide) rfl rfl rfl rfl rfl (Nat.le_of_ble_eq_true rfl) ?_
  refine t_Post_swim S V23 (x := v_25) (by omega) (fun s27 V28 => ?_)
  show zW ro 95 80 [some (.ref 7), some (.int (Int32.ofInt (s19 23 5)))] [] (zN L X (zhi s27) R G nc ns) Q
  refine zW.run 2 (pc' := 82) (ls' := [some (.ref 7), some (.int (Int32.ofInt (s19 23 5)))]) (st' := [.int (Int32.ofInt (s19 23 5)), .ref 7]) (σ' := (zN L X (zhi s27) R G nc ns)) (fun n => rfl) ?_
  refine zW.callS rfl rfl rfl rfl rfl (Nat.le_of_ble_eq_true rfl) ?_
  refine t_Midnight_comeNearer S V28 (x := (s19 23 5)) (fun s29 V30 => ?_)
  show zW ro 95 85 [some (.ref 7), some (.int (Int32.ofInt (s19 23 5)))] [] (zN L X (zhi s29) R G nc ns) Q
  exact zW.vret rfl (hQ0 s29 (zV_mono V30 (by omega) (by omega)))
set_option maxHeartbeats 4000000 in
theorem t_Siege_letHourGo (S : zSR R) (V : zV g U F T B 1 s)  (p0 : B + 2000 ≤ 1000000000) (p1 : T + 1 ≤ 3000) (hQ0 : ∀ (s1 : zJ), zV g U F T (B + 2000) 2 s1 → Q (.inl none) (zN L X (zhi s1) R G nc ns)) (hQ1 : ∀ (s1 : zJ), zV g U F (T + 1) (B + 2000) 1 s1 → Q (.inl none) (zN L X (zhi s1) R G nc ns)) : zW ro 145 0 (zfst [.ref 7] 6) [] (zN L X (zhi s) R G nc ns) Q := by
  show zW ro 145 0 [some (.ref 7), none, none, none, none, none] [] (zN L X (zhi s) R G nc ns) Q
  have f1 := zA_geo (zV_zA V)
  have hB0 := zV_B V
  refine zW.run 1 (pc' := 1) (ls' := [some (.ref 7), none, none, none, none, none]) (st' := [.ref 7]) (σ' := (zN L X (zhi s) R G nc ns)) (fun n => rfl) ?_
  refine zW.getf (v := .ref 18) rfl rfl (zr_7_1 S) ?_
  refine zW.run 2 (pc' := 6) (ls' := [some (.ref 7), some (.ref 18), none, none, none, none]) (st' := [.ref 18]) (σ' := (zN L X (zhi s) R G nc ns)) (fun n => rfl) ?_
  refine zW.alen rfl rfl (by decide) ?_
  show zW ro 145 7 [some (.ref 7), some (.ref 18), none, none, none, none] [.int (Int32.ofInt 16)] (zN L X (zhi s) R G nc ns) Q
  refine zW.run 3 (pc' := 10) (ls' := [some (.ref 7), some (.ref 18), some (.int (Int32.ofInt 16)), some (.int (Int32.ofInt 0)), none, none]) (st' := []) (σ' := (zN L X (zhi s) R G nc ns)) (fun n => rfl) ?_
  have J8 : ∀ m : Nat, ∀ (i_2 : Nat) (w3 : Option Value) (w4 : Option Value) (s5 : zJ), zV g U F T (B + 65 * i_2) 1 s5 → i_2 ≤ 16 → 17 - i_2 < m → zW ro 145 10 [some (.ref 7), some (.ref 18), some (.int (Int32.ofInt 16)), some (.int (Int32.ofInt (i_2 : Int))), w3, w4] [] (zN L X (zhi s5) R G nc ns) Q := by
    intro m
    induction m with
    | zero => intros; omega
    | succ m ih9 =>
      intro i_2 w3 w4 s5 V6 c7 hm10
      refine zW.run 2 (pc' := 12) (ls' := [some (.ref 7), some (.ref 18), some (.int (Int32.ofInt 16)), some (.int (Int32.ofInt (i_2 : Int))), w3, w4]) (st' := [.int (Int32.ofInt 16), .int (Int32.ofInt (i_2 : Int))]) (σ' := (zN L X (zhi s5) R G nc ns)) (fun n => rfl) ?_
      refine zW.jcmp_ge rfl (by omega) (fun c11 => ?_) (fun c11 => ?_)
      · skip
        refine zW.run 1 (pc' := 48) (ls' := [some (.ref 7), some (.ref 18), some (.int (Int32.ofInt 16)), some (.int (Int32.ofInt (i_2 : Int))), w3, w4]) (st' := [.ref 7]) (σ' := (zN L X (zhi s5) R G nc ns)) (fun n => rfl) ?_
        refine zW.callV rfl (by decide) rfl rfl rfl rfl rfl (Nat.le_of_ble_eq_true rfl) ?_
        refine t_Siege_askWhetherOver S V6 (fun s12 V13 => ?_) ?_
        · skip
          show zW ro 145 51 [some (.ref 7), some (.ref 18), some (.int (Int32.ofInt 16)), some (.int (Int32.ofInt (i_2 : Int))), w3, w4] [.int (Int32.ofInt 1)] (zN L X (zhi s12) R G nc ns) Q
          refine zW.run 1 (pc' := 54) (ls' := [some (.ref 7), some (.ref 18), some (.int (Int32.ofInt 16)), some (.int (Int32.ofInt (i_2 : Int))), w3, w4]) (st' := []) (σ' := (zN L X (zhi s12) R G nc ns)) (fun n => rfl) ?_
          exact zW.vret rfl (hQ0 s12 (zV_mono V13 (by omega) (by omega)))
        · skip
          show zW ro 145 51 [some (.ref 7), some (.ref 18), some (.int (Int32.ofInt 16)), some (.int (Int32.ofInt (i_2 : Int))), w3, w4] [.int (Int32.ofInt 0)] (zN L X (zhi s5) R G nc ns) Q
          refine zW.run 2 (pc' := 56) (ls' := [some (.ref 7), some (.ref 18), some (.int (Int32.ofInt 16)), some (.int (Int32.ofInt (i_2 : Int))), w3, w4]) (st' := [.ref 7]) (σ' := (zN L X (zhi s5) R G nc ns)) (fun n => rfl) ?_
          refine zW.getf (v := .ref 19) rfl rfl (zr_7_2 S) ?_
          refine zW.run 2 (pc' := 61) (ls' := [some (.ref 7), some (.ref 19), some (.int (Int32.ofInt 16)), some (.int (Int32.ofInt (i_2 : Int))), w3, w4]) (st' := [.ref 19]) (σ' := (zN L X (zhi s5) R G nc ns)) (fun n => rfl) ?_
          refine zW.alen rfl rfl (by decide) ?_
          show zW ro 145 62 [some (.ref 7), some (.ref 19), some (.int (Int32.ofInt 16)), some (.int (Int32.ofInt (i_2 : Int))), w3, w4] [.int (Int32.ofInt 12)] (zN L X (zhi s5) R G nc ns) Q
          refine zW.run 3 (pc' := 65) (ls' := [some (.ref 7), some (.ref 19), some (.int (Int32.ofInt 12)), some (.int (Int32.ofInt 0)), w3, w4]) (st' := []) (σ' := (zN L X (zhi s5) R G nc ns)) (fun n => rfl) ?_
          have J20 : ∀ m : Nat, ∀ (i_14 : Nat) (w15 : Option Value) (w16 : Option Value) (s17 : zJ), zV g U F T (B + 1040 + 20 * i_14) 1 s17 → i_14 ≤ 12 → 13 - i_14 < m → zW ro 145 65 [some (.ref 7), some (.ref 19), some (.int (Int32.ofInt 12)), some (.int (Int32.ofInt (i_14 : Int))), w15, w16] [] (zN L X (zhi s17) R G nc ns) Q := by
            intro m
            induction m with
            | zero => intros; omega
            | succ m ih21 =>
              intro i_14 w15 w16 s17 V18 c19 hm22
              refine zW.run 2 (pc' := 67) (ls' := [some (.ref 7), some (.ref 19), some (.int (Int32.ofInt 12)), some (.int (Int32.ofInt (i_14 : Int))), w15, w16]) (st' := [.int (Int32.ofInt 12), .int (Int32.ofInt (i_14 : Int))]) (σ' := (zN L X (zhi s17) R G nc ns)) (fun n => rfl) ?_
              refine zW.jcmp_ge rfl (by omega) (fun c23 => ?_) (fun c23 => ?_)
              · skip
                refine zW.run 1 (pc' := 104) (ls' := [some (.ref 7), some (.ref 19), some (.int (Int32.ofInt 12)), some (.int (Int32.ofInt (i_14 : Int))), w15, w16]) (st' := [.ref 7]) (σ' := (zN L X (zhi s17) R G nc ns)) (fun n => rfl) ?_
                refine zW.getf (v := .ref 20) rfl rfl (zr_7_3 S) ?_
                refine zW.run 2 (pc' := 109) (ls' := [some (.ref 7), some (.ref 20), some (.int (Int32.ofInt 12)), some (.int (Int32.ofInt (i_14 : Int))), w15, w16]) (st' := [.ref 20]) (σ' := (zN L X (zhi s17) R G nc ns)) (fun n => rfl) ?_
                refine zW.alen rfl rfl (by decide) ?_
                show zW ro 145 110 [some (.ref 7), some (.ref 20), some (.int (Int32.ofInt 12)), some (.int (Int32.ofInt (i_14 : Int))), w15, w16] [.int (Int32.ofInt 6)] (zN L X (zhi s17) R G nc ns) Q
                refine zW.run 3 (pc' := 113) (ls' := [some (.ref 7), some (.ref 20), some (.int (Int32.ofInt 6)), some (.int (Int32.ofInt 0)), w15, w16]) (st' := []) (σ' := (zN L X (zhi s17) R G nc ns)) (fun n => rfl) ?_
                have J30 : ∀ m : Nat, ∀ (i_24 : Nat) (w25 : Option Value) (w26 : Option Value) (s27 : zJ), zV g U F T (B + 1280) 1 s27 → i_24 ≤ 6 → 7 - i_24 < m → zW ro 145 113 [some (.ref 7), some (.ref 20), some (.int (Int32.ofInt 6)), some (.int (Int32.ofInt (i_24 : Int))), w25, w26] [] (zN L X (zhi s27) R G nc ns) Q := by
                  intro m
                  induction m with
                  | zero => intros; omega
                  | succ m ih31 =>
                    intro i_24 w25 w26 s27 V28 c29 hm32
                    refine zW.run 2 (pc' := 115) (ls' := [some (.ref 7), some (.ref 20), some (.int (Int32.ofInt 6)), some (.int (Int32.ofInt (i_24 : Int))), w25, w26]) (st' := [.int (Int32.ofInt 6), .int (Int32.ofInt (i_24 : Int))]) (σ' := (zN L X (zhi s27) R G nc ns)) (fun n => rfl) ?_
                    refine zW.jcmp_ge rfl (by omega) (fun c33 => ?_) (fun c33 => ?_)
                    · skip
                      refine zW.run 1 (pc' := 136) (ls' := [some (.ref 7), some (.ref 20), some (.int (Int32.ofInt 6)), some (.int (Int32.ofInt (i_24 : Int))), w25, w26]) (st' := [.ref 7]) (σ' := (zN L X (zhi s27) R G nc ns)) (fun n => rfl) ?_
                      refine zW.callV rfl (by decide) rfl rfl rfl rfl rfl (Nat.le_of_ble_eq_true rfl) ?_
                      refine t_Siege_hourOfDay S V28 (fun v_34 f35 => ?_)
                      show zW ro 145 139 [some (.ref 7), some (.ref 20), some (.int (Int32.ofInt 6)), some (.int (Int32.ofInt (i_24 : Int))), w25, w26] [.int (Int32.ofInt v_34)] (zN L X (zhi s27) R G nc ns) Q
                      refine zW.run 1 (pc' := 141) (ls' := [some (.ref 7), some (.ref 20), some (.int (Int32.ofInt 6)), some (.int (Int32.ofInt (i_24 : Int))), w25, w26]) (st' := [.int (Int32.ofInt 23), .int (Int32.ofInt v_34)]) (σ' := (zN L X (zhi s27) R G nc ns)) (fun n => rfl) ?_
                      refine zW.jcmp_ne rfl (by omega) (fun c36 => ?_) (fun c36 => ?_)
                      · skip
                        refine zW.run 2 (pc' := 158) (ls' := [some (.ref 7), some (.ref 20), some (.int (Int32.ofInt 6)), some (.int (Int32.ofInt (i_24 : Int))), w25, w26]) (st' := [.ref 7, .ref 7]) (σ' := (zN L X (zhi s27) R G nc ns)) (fun n => rfl) ?_
                        have f37 := zV_sie V28
                        refine zW.run 2 (pc' := 162) (ls' := [some (.ref 7), some (.ref 20), some (.int (Int32.ofInt 6)), some (.int (Int32.ofInt (i_24 : Int))), w25, w26]) (st' := [.int (Int32.ofInt 1), .int (Int32.ofInt (s27 7 10)), .ref 7]) (σ' := (zN L X (zhi s27) R G nc ns)) (fun n => rfl) ?_
                        refine zW.jadd rfl ?_
                        refine zW.jput rfl rfl rfl ?_
                        have V38 : zV g U F (T + 1) (B + 1280) 1 (zup s27 7 10 ((s27 7 10) + 1)) := (V_clck V28 (by omega))
                        generalize hs39 : (zup s27 7 10 ((s27 7 10) + 1)) = s39 at V38 ⊢
                        exact zW.vret rfl (hQ1 s39 (zV_mono V38 (by omega) (by omega)))
                      · skip
                        refine zW.run 1 (pc' := 145) (ls' := [some (.ref 7), some (.ref 20), some (.int (Int32.ofInt 6)), some (.int (Int32.ofInt (i_24 : Int))), w25, w26]) (st' := [.ref 7]) (σ' := (zN L X (zhi s27) R G nc ns)) (fun n => rfl) ?_
                        refine zW.callS rfl rfl rfl rfl rfl (Nat.le_of_ble_eq_true rfl) ?_
                        refine t_Midnight_come S V28 (by omega) (fun s40 V41 => ?_)
                        show zW ro 145 148 [some (.ref 7), some (.ref 20), some (.int (Int32.ofInt 6)), some (.int (Int32.ofInt (i_24 : Int))), w25, w26] [] (zN L X (zhi s40) R G nc ns) Q
                        refine zW.run 1 (pc' := 149) (ls' := [some (.ref 7), some (.ref 20), some (.int (Int32.ofInt 6)), some (.int (Int32.ofInt (i_24 : Int))), w25, w26]) (st' := [.ref 7]) (σ' := (zN L X (zhi s40) R G nc ns)) (fun n => rfl) ?_
                        refine zW.callV rfl (by decide) rfl rfl rfl rfl rfl (Nat.le_of_ble_eq_true rfl) ?_
                        refine t_Siege_askWhetherOver S V41 (fun s42 V43 => ?_) ?_
                        · skip
                          show zW ro 145 152 [some (.ref 7), some (.ref 20), some (.int (Int32.ofInt 6)), some (.int (Int32.ofInt (i_24 : Int))), w25, w26] [.int (Int32.ofInt 1)] (zN L X (zhi s42) R G nc ns) Q
                          refine zW.run 1 (pc' := 155) (ls' := [some (.ref 7), some (.ref 20), some (.int (Int32.ofInt 6)), some (.int (Int32.ofInt (i_24 : Int))), w25, w26]) (st' := []) (σ' := (zN L X (zhi s42) R G nc ns)) (fun n => rfl) ?_
                          exact zW.vret rfl (hQ0 s42 (zV_mono V43 (by omega) (by omega)))
                        · skip
                          show zW ro 145 152 [some (.ref 7), some (.ref 20), some (.int (Int32.ofInt 6)), some (.int (Int32.ofInt (i_24 : Int))), w25, w26] [.int (Int32.ofInt 0)] (zN L X (zhi s40) R G nc ns) Q
                          refine zW.run 3 (pc' := 158) (ls' := [some (.ref 7), some (.ref 20), some (.int (Int32.ofInt 6)), some (.int (Int32.ofInt (i_24 : Int))), w25, w26]) (st' := [.ref 7, .ref 7]) (σ' := (zN L X (zhi s40) R G nc ns)) (fun n => rfl) ?_
                          have f44 := zV_sie V41
                          refine zW.run 2 (pc' := 162) (ls' := [some (.ref 7), some (.ref 20), some (.int (Int32.ofInt 6)), some (.int (Int32.ofInt (i_24 : Int))), w25, w26]) (st' := [.int (Int32.ofInt 1), .int (Int32.ofInt (s40 7 10)), .ref 7]) (σ' := (zN L X (zhi s40) R G nc ns)) (fun n => rfl) ?_
                          refine zW.jadd rfl ?_
                          refine zW.jput rfl rfl rfl ?_
                          have V45 : zV g U F (T + 1) ((B + 1280) + 14) 1 (zup s40 7 10 ((s40 7 10) + 1)) := (V_clck V41 (by omega))
                          generalize hs46 : (zup s40 7 10 ((s40 7 10) + 1)) = s46 at V45 ⊢
                          exact zW.vret rfl (hQ1 s46 (zV_mono V45 (by omega) (by omega)))
                    · skip
                      refine zW.run 2 (pc' := 120) (ls' := [some (.ref 7), some (.ref 20), some (.int (Int32.ofInt 6)), some (.int (Int32.ofInt (i_24 : Int))), w25, w26]) (st' := [.int (Int32.ofInt (i_24 : Int)), .ref 20]) (σ' := (zN L X (zhi s27) R G nc ns)) (fun n => rfl) ?_
                      refine zW.jaald (n := 6) (v := .ref (54 + 2 * i_24)) rfl rfl (by decide) (by decide) (by omega) (zr_min S (by omega)) ?_
                      refine zW.run 3 (pc' := 126) (ls' := [some (.ref 7), some (.ref 20), some (.int (Int32.ofInt 6)), some (.int (Int32.ofInt (i_24 : Int))), some (.ref (54 + 2 * i_24)), w26]) (st' := [.ref (54 + 2 * i_24), .ref 7]) (σ' := (zN L X (zhi s27) R G nc ns)) (fun n => rfl) ?_
                      refine zW.callS rfl rfl rfl rfl rfl (Nat.le_of_ble_eq_true rfl) ?_
                      refine t_Mining_advance S V28 (i := i_24) (by omega) (fun s47 V48 => ?_)
                      show zW ro 145 129 [some (.ref 7), some (.ref 20), some (.int (Int32.ofInt 6)), some (.int (Int32.ofInt (i_24 : Int))), some (.ref (54 + 2 * i_24)), w26] [] (zN L X (zhi s47) R G nc ns) Q
                      refine zW.jinc (ls' := [some (.ref 7), some (.ref 20), some (.int (Int32.ofInt 6)), some (.int (Int32.ofInt ((i_24 : Int) + 1))), some (.ref (54 + 2 * i_24)), w26]) rfl (Nat.le_of_ble_eq_true rfl) rfl rfl ?_
                      refine zW.run 1 (pc' := 113) (ls' := [some (.ref 7), some (.ref 20), some (.int (Int32.ofInt 6)), some (.int (Int32.ofInt ((i_24 : Int) + 1))), some (.ref (54 + 2 * i_24)), w26]) (st' := []) (σ' := (zN L X (zhi s47) R G nc ns)) (fun n => rfl) ?_
                      exact ih31 (i_24 + 1) (some (.ref (54 + 2 * i_24))) w26 s47 (zV_mono V48 (by omega) (by omega)) (by omega) (by omega)
                exact J30 _ 0 w15 w16 s17 (zV_mono V18 (by omega) (by omega)) (by omega) (Nat.lt_succ_self _)
              · skip
                refine zW.run 2 (pc' := 72) (ls' := [some (.ref 7), some (.ref 19), some (.int (Int32.ofInt 12)), some (.int (Int32.ofInt (i_14 : Int))), w15, w16]) (st' := [.int (Int32.ofInt (i_14 : Int)), .ref 19]) (σ' := (zN L X (zhi s17) R G nc ns)) (fun n => rfl) ?_
                refine zW.jaald (n := 12) (v := .ref (42 + i_14)) rfl rfl (by decide) (by decide) (by omega) (zr_com S (by omega)) ?_
                refine zW.run 2 (pc' := 77) (ls' := [some (.ref 7), some (.ref 19), some (.int (Int32.ofInt 12)), some (.int (Int32.ofInt (i_14 : Int))), some (.ref (42 + i_14)), w16]) (st' := [.ref (42 + i_14)]) (σ' := (zN L X (zhi s17) R G nc ns)) (fun n => rfl) ?_
                have f49 := zV_com V18 (i := i_14) (by omega)
                refine zW.jget (v := (s17 (42 + i_14) 2)) rfl (zk_com (by omega)) (fun _ _ _ => rfl) rfl ?_
                refine zW.jif_le rfl (by omega) (fun c50 => ?_) (fun c50 => ?_)
                · skip
                  refine zW.run 1 (pc' := 90) (ls' := [some (.ref 7), some (.ref 19), some (.int (Int32.ofInt 12)), some (.int (Int32.ofInt (i_14 : Int))), some (.ref (42 + i_14)), w16]) (st' := [.ref 7]) (σ' := (zN L X (zhi s17) R G nc ns)) (fun n => rfl) ?_
                  refine zW.callV rfl (by decide) rfl rfl rfl rfl rfl (Nat.le_of_ble_eq_true rfl) ?_
                  refine t_Siege_askWhetherOver S V18 (fun s51 V52 => ?_) ?_
                  · skip
                    show zW ro 145 93 [some (.ref 7), some (.ref 19), some (.int (Int32.ofInt 12)), some (.int (Int32.ofInt (i_14 : Int))), some (.ref (42 + i_14)), w16] [.int (Int32.ofInt 1)] (zN L X (zhi s51) R G nc ns) Q
                    refine zW.run 1 (pc' := 96) (ls' := [some (.ref 7), some (.ref 19), some (.int (Int32.ofInt 12)), some (.int (Int32.ofInt (i_14 : Int))), some (.ref (42 + i_14)), w16]) (st' := []) (σ' := (zN L X (zhi s51) R G nc ns)) (fun n => rfl) ?_
                    exact zW.vret rfl (hQ0 s51 (zV_mono V52 (by omega) (by omega)))
                  · skip
                    show zW ro 145 93 [some (.ref 7), some (.ref 19), some (.int (Int32.ofInt 12)), some (.int (Int32.ofInt (i_14 : Int))), some (.ref (42 + i_14)), w16] [.int (Int32.ofInt 0)] (zN L X (zhi s17) R G nc ns) Q
                    refine zW.run 1 (pc' := 97) (ls' := [some (.ref 7), some (.ref 19), some (.int (Int32.ofInt 12)), some (.int (Int32.ofInt (i_14 : Int))), some (.ref (42 + i_14)), w16]) (st' := []) (σ' := (zN L X (zhi s17) R G nc ns)) (fun n => rfl) ?_
                    refine zW.jinc (ls' := [some (.ref 7), some (.ref 19), some (.int (Int32.ofInt 12)), some (.int (Int32.ofInt ((i_14 : Int) + 1))), some (.ref (42 + i_14)), w16]) rfl (Nat.le_of_ble_eq_true rfl) rfl rfl ?_
                    refine zW.run 1 (pc' := 65) (ls' := [some (.ref 7), some (.ref 19), some (.int (Int32.ofInt 12)), some (.int (Int32.ofInt ((i_14 : Int) + 1))), some (.ref (42 + i_14)), w16]) (st' := []) (σ' := (zN L X (zhi s17) R G nc ns)) (fun n => rfl) ?_
                    exact ih21 (i_14 + 1) (some (.ref (42 + i_14))) w16 s17 (zV_mono V18 (by omega) (by omega)) (by omega) (by omega)
                · skip
                  refine zW.run 2 (pc' := 86) (ls' := [some (.ref 7), some (.ref 19), some (.int (Int32.ofInt 12)), some (.int (Int32.ofInt (i_14 : Int))), some (.ref (42 + i_14)), w16]) (st' := [.ref (42 + i_14), .ref 7]) (σ' := (zN L X (zhi s17) R G nc ns)) (fun n => rfl) ?_
                  refine zW.callS rfl rfl rfl rfl rfl (Nat.le_of_ble_eq_true rfl) ?_
                  refine t_Duties_act S V18 (i := i_14) (by omega) (by omega) (fun s53 V54 => ?_)
                  show zW ro 145 89 [some (.ref 7), some (.ref 19), some (.int (Int32.ofInt 12)), some (.int (Int32.ofInt (i_14 : Int))), some (.ref (42 + i_14)), w16] [] (zN L X (zhi s53) R G nc ns) Q
                  refine zW.run 1 (pc' := 90) (ls' := [some (.ref 7), some (.ref 19), some (.int (Int32.ofInt 12)), some (.int (Int32.ofInt (i_14 : Int))), some (.ref (42 + i_14)), w16]) (st' := [.ref 7]) (σ' := (zN L X (zhi s53) R G nc ns)) (fun n => rfl) ?_
                  refine zW.callV rfl (by decide) rfl rfl rfl rfl rfl (Nat.le_of_ble_eq_true rfl) ?_
                  refine t_Siege_askWhetherOver S V54 (fun s55 V56 => ?_) ?_
                  · skip
                    show zW ro 145 93 [some (.ref 7), some (.ref 19), some (.int (Int32.ofInt 12)), some (.int (Int32.ofInt (i_14 : Int))), some (.ref (42 + i_14)), w16] [.int (Int32.ofInt 1)] (zN L X (zhi s55) R G nc ns) Q
                    refine zW.run 1 (pc' := 96) (ls' := [some (.ref 7), some (.ref 19), some (.int (Int32.ofInt 12)), some (.int (Int32.ofInt (i_14 : Int))), some (.ref (42 + i_14)), w16]) (st' := []) (σ' := (zN L X (zhi s55) R G nc ns)) (fun n => rfl) ?_
                    exact zW.vret rfl (hQ0 s55 (zV_mono V56 (by omega) (by omega)))
                  · skip
                    show zW ro 145 93 [some (.ref 7), some (.ref 19), some (.int (Int32.ofInt 12)), some (.int (Int32.ofInt (i_14 : Int))), some (.ref (42 + i_14)), w16] [.int (Int32.ofInt 0)] (zN L X (zhi s53) R G nc ns) Q
                    refine zW.run 1 (pc' := 97) (ls' := [some (.ref 7), some (.ref 19), some (.int (Int32.ofInt 12)), some (.int (Int32.ofInt (i_14 : Int))), some (.ref (42 + i_14)), w16]) (st' := []) (σ' := (zN L X (zhi s53) R G nc ns)) (fun n => rfl) ?_
                    refine zW.jinc (ls' := [some (.ref 7), some (.ref 19), some (.int (Int32.ofInt 12)), some (.int (Int32.ofInt ((i_14 : Int) + 1))), some (.ref (42 + i_14)), w16]) rfl (Nat.le_of_ble_eq_true rfl) rfl rfl ?_
                    refine zW.run 1 (pc' := 65) (ls' := [some (.ref 7), some (.ref 19), some (.int (Int32.ofInt 12)), some (.int (Int32.ofInt ((i_14 : Int) + 1))), some (.ref (42 + i_14)), w16]) (st' := []) (σ' := (zN L X (zhi s53) R G nc ns)) (fun n => rfl) ?_
                    exact ih21 (i_14 + 1) (some (.ref (42 + i_14))) w16 s53 (zV_mono V54 (by omega) (by omega)) (by omega) (by omega)
          exact J20 _ 0 w3 w4 s5 (zV_mono V6 (by omega) (by omega)) (by omega) (Nat.lt_succ_self _)
      · skip
        refine zW.run 2 (pc' := 17) (ls' := [some (.ref 7), some (.ref 18), some (.int (Int32.ofInt 16)), some (.int (Int32.ofInt (i_2 : Int))), w3, w4]) (st' := [.int (Int32.ofInt (i_2 : Int)), .ref 18]) (σ' := (zN L X (zhi s5) R G nc ns)) (fun n => rfl) ?_
        refine zW.jaald (n := 16) (v := .ref (26 + i_2)) rfl rfl (by decide) (by decide) (by omega) (zr_gun S (by omega)) ?_
        refine zW.run 3 (pc' := 23) (ls' := [some (.ref 7), some (.ref 18), some (.int (Int32.ofInt 16)), some (.int (Int32.ofInt (i_2 : Int))), some (.ref (26 + i_2)), w4]) (st' := [.ref (26 + i_2), .ref 7]) (σ' := (zN L X (zhi s5) R G nc ns)) (fun n => rfl) ?_
        refine zW.callS rfl rfl rfl rfl rfl (Nat.le_of_ble_eq_true rfl) ?_
        refine t_Gunnery_fire S V6 (i := i_2) (by omega) (fun v_57 s58 V59 f60 => ?_)
        show zW ro 145 26 [some (.ref 7), some (.ref 18), some (.int (Int32.ofInt 16)), some (.int (Int32.ofInt (i_2 : Int))), some (.ref (26 + i_2)), w4] [.int (Int32.ofInt v_57)] (zN L X (zhi s58) R G nc ns) Q
        refine zW.run 2 (pc' := 30) (ls' := [some (.ref 7), some (.ref 18), some (.int (Int32.ofInt 16)), some (.int (Int32.ofInt (i_2 : Int))), some (.ref (26 + i_2)), some (.int (Int32.ofInt v_57))]) (st' := [.int (Int32.ofInt v_57)]) (σ' := (zN L X (zhi s58) R G nc ns)) (fun n => rfl) ?_
        refine zW.jif_le rfl (by omega) (fun c61 => ?_) (fun c61 => ?_)
        · skip
          refine zW.jinc (ls' := [some (.ref 7), some (.ref 18), some (.int (Int32.ofInt 16)), some (.int (Int32.ofInt ((i_2 : Int) + 1))), some (.ref (26 + i_2)), some (.int (Int32.ofInt v_57))]) rfl (Nat.le_of_ble_eq_true rfl) rfl rfl ?_
          refine zW.run 1 (pc' := 10) (ls' := [some (.ref 7), some (.ref 18), some (.int (Int32.ofInt 16)), some (.int (Int32.ofInt ((i_2 : Int) + 1))), some (.ref (26 + i_2)), some (.int (Int32.ofInt v_57))]) (st' := []) (σ' := (zN L X (zhi s58) R G nc ns)) (fun n => rfl) ?_
          exact ih9 (i_2 + 1) (some (.ref (26 + i_2))) (some (.int (Int32.ofInt v_57))) s58 (zV_mono V59 (by omega) (by omega)) (by omega) (by omega)
        · skip
          refine zW.run 3 (pc' := 38) (ls' := [some (.ref 7), some (.ref 18), some (.int (Int32.ofInt 16)), some (.int (Int32.ofInt (i_2 : Int))), some (.ref (26 + i_2)), some (.int (Int32.ofInt v_57))]) (st' := [.int (Int32.ofInt v_57), .ref (26 + i_2), .ref 7]) (σ' := (zN L X (zhi s58) R G nc ns)) (fun n => rfl) ?_
          refine zW.callS rfl rfl rfl rfl rfl (Nat.le_of_ble_eq_true rfl) ?_
          refine t_Gunnery_strike S V59 (i := i_2) (x := v_57) (by omega) (by omega) (by omega) (fun s62 V63 => ?_)
          show zW ro 145 41 [some (.ref 7), some (.ref 18), some (.int (Int32.ofInt 16)), some (.int (Int32.ofInt (i_2 : Int))), some (.ref (26 + i_2)), some (.int (Int32.ofInt v_57))] [] (zN L X (zhi s62) R G nc ns) Q
          refine zW.jinc (ls' := [some (.ref 7), some (.ref 18), some (.int (Int32.ofInt 16)), some (.int (Int32.ofInt ((i_2 : Int) + 1))), some (.ref (26 + i_2)), some (.int (Int32.ofInt v_57))]) rfl (Nat.le_of_ble_eq_true rfl) rfl rfl ?_
          refine zW.run 1 (pc' := 10) (ls' := [some (.ref 7), some (.ref 18), some (.int (Int32.ofInt 16)), some (.int (Int32.ofInt ((i_2 : Int) + 1))), some (.ref (26 + i_2)), some (.int (Int32.ofInt v_57))]) (st' := []) (σ' := (zN L X (zhi s62) R G nc ns)) (fun n => rfl) ?_
          exact ih9 (i_2 + 1) (some (.ref (26 + i_2))) (some (.int (Int32.ofInt v_57))) s62 (zV_mono V63 (by omega) (by omega)) (by omega) (by omega)
  exact J8 _ 0 none none s (zV_mono V (by omega) (by omega)) (by omega) (Nat.lt_succ_self _)
set_option maxHeartbeats 4000000 in
theorem t_Mine_place (S : zSR R) {i : Nat} {x : Int} {y : Int} {d : Int} (p0 : i < 6) (hQ0 : Q (.inl none) (zN L X (zhi (zup (zup (zup (zup s (54 + 2 * i) 1 x) (55 + 2 * i) 0 y) (54 + 2 * i) 2 1) (54 + 2 * i) 3 d)) R G nc ns)) : zW ro 107 0 (zfst [.ref (54 + 2 * i), .int (Int32.ofInt x), .int (Int32.ofInt y), .int (Int32.ofInt d)] 4) [] (zN L X (zhi s) R G nc ns) Q := by
  show zW ro 107 0 [some (.ref (54 + 2 * i)), some (.int (Int32.ofInt x)), some (.int (Int32.ofInt y)), some (.int (Int32.ofInt d))] [] (zN L X (zhi s) R G nc ns) Q
  refine zW.run 2 (pc' := 2) (ls' := [some (.ref (54 + 2 * i)), some (.int (Int32.ofInt x)), some (.int (Int32.ofInt y)), some (.int (Int32.ofInt d))]) (st' := [.int (Int32.ofInt x), .ref (54 + 2 * i)]) (σ' := (zN L X (zhi s) R G nc ns)) (fun n => rfl) ?_
  refine zW.jput rfl (zk_min (by omega)) rfl ?_
  refine zW.run 1 (pc' := 6) (ls' := [some (.ref (54 + 2 * i)), some (.int (Int32.ofInt x)), some (.int (Int32.ofInt y)), some (.int (Int32.ofInt d))]) (st' := [.ref (54 + 2 * i)]) (σ' := (zN L X (zhi (zup s (54 + 2 * i) 1 x)) R G nc ns)) (fun n => rfl) ?_
  refine zW.getf (v := .ref (55 + 2 * i)) rfl (zk_min (by omega)) (zr_mrow S (by omega)) ?_
  refine zW.run 2 (pc' := 11) (ls' := [some (.ref (54 + 2 * i)), some (.int (Int32.ofInt x)), some (.int (Int32.ofInt y)), some (.int (Int32.ofInt d))]) (st' := [.int (Int32.ofInt y), .int (Int32.ofInt 0), .ref (55 + 2 * i)]) (σ' := (zN L X (zhi (zup s (54 + 2 * i) 1 x)) R G nc ns)) (fun n => rfl) ?_
  refine zW.jast (n := 6) rfl (zk_mrow (by omega)) (by decide) (by omega) ?_
  refine zW.run 2 (pc' := 14) (ls' := [some (.ref (54 + 2 * i)), some (.int (Int32.ofInt x)), some (.int (Int32.ofInt y)), some (.int (Int32.ofInt d))]) (st' := [.int (Int32.ofInt 1), .ref (54 + 2 * i)]) (σ' := (zN L X (zhi (zup (zup s (54 + 2 * i) 1 x) (55 + 2 * i) 0 y)) R G nc ns)) (fun n => rfl) ?_
  refine zW.jput rfl (zk_min (by omega)) rfl ?_
  refine zW.run 2 (pc' := 19) (ls' := [some (.ref (54 + 2 * i)), some (.int (Int32.ofInt x)), some (.int (Int32.ofInt y)), some (.int (Int32.ofInt d))]) (st' := [.int (Int32.ofInt d), .ref (54 + 2 * i)]) (σ' := (zN L X (zhi (zup (zup (zup s (54 + 2 * i) 1 x) (55 + 2 * i) 0 y) (54 + 2 * i) 2 1)) R G nc ns)) (fun n => rfl) ?_
  refine zW.jput rfl (zk_min (by omega)) rfl ?_
  exact zW.vret rfl hQ0
set_option maxHeartbeats 4000000 in
theorem t_Siege_beginMine (S : zSR R) (V : zV g U F T B ph s) {x : Int} {y : Int} {d : Int} (p0 : 0 ≤ x ∧ x ≤ 1) (p1 : -1 ≤ y ∧ y < g 2) (p2 : s 7 9 < 6) (hQ0 : ∀ (v : Int) (s1 : zJ), zV g U F T B ph s1 → Q (.inl (some (.int (Int32.ofInt v)))) (zN L X (zhi s1) R G nc ns)) : zW ro 129 0 (zfst [.ref 7, .int (Int32.ofInt x), .int (Int32.ofInt y), .int (Int32.ofInt d)] 4) [] (zN L X (zhi s) R G nc ns) Q := by
  show zW ro 129 0 [some (.ref 7), some (.int (Int32.ofInt x)), some (.int (Int32.ofInt y)), some (.int (Int32.ofInt d))] [] (zN L X (zhi s) R G nc ns) Q
  have f1 := zA_geo (zV_zA V)
  have hB0 := zV_B V
  have f2 := zV_sie V
  refine zW.run 1 (pc' := 1) (ls' := [some (.ref 7), some (.int (Int32.ofInt x)), some (.int (Int32.ofInt y)), some (.int (Int32.ofInt d))]) (st' := [.ref 7]) (σ' := (zN L X (zhi s) R G nc ns)) (fun n => rfl) ?_
  refine zW.run 1 (pc' := 4) (ls' := [some (.ref 7), some (.int (Int32.ofInt x)), some (.int (Int32.ofInt y)), some (.int (Int32.ofInt d))]) (st' := [.int (Int32.ofInt (s 7 9))]) (σ' := (zN L X (zhi s) R G nc ns)) (fun n => rfl) ?_
  refine zW.jif_lt rfl (by omega) (fun c3 => ?_) (fun c3 => ?_)
  · skip
    refine zW.run 1 (pc' := 17) (ls' := [some (.ref 7), some (.int (Int32.ofInt x)), some (.int (Int32.ofInt y)), some (.int (Int32.ofInt d))]) (st' := [.int (Int32.ofInt (-1))]) (σ' := (zN L X (zhi s) R G nc ns)) (fun n => rfl) ?_
    exact zW.jret rfl rfl (hQ0 (-1) s V)
  · skip
    refine zW.run 1 (pc' := 8) (ls' := [some (.ref 7), some (.int (Int32.ofInt x)), some (.int (Int32.ofInt y)), some (.int (Int32.ofInt d))]) (st' := [.ref 7]) (σ' := (zN L X (zhi s) R G nc ns)) (fun n => rfl) ?_
    refine zW.run 2 (pc' := 13) (ls' := [some (.ref 7), some (.int (Int32.ofInt x)), some (.int (Int32.ofInt y)), some (.int (Int32.ofInt d))]) (st' := [.int (Int32.ofInt 6), .int (Int32.ofInt (s 7 9))]) (σ' := (zN L X (zhi s) R G nc ns)) (fun n => rfl) ?_
    refine zW.jcmp_lt rfl (by omega) (fun c4 => ?_) (fun c4 => ?_)
    · skip
      refine zW.run 1 (pc' := 19) (ls' := [some (.ref 7), some (.int (Int32.ofInt x)), some (.int (Int32.ofInt y)), some (.int (Int32.ofInt d))]) (st' := [.ref 7]) (σ' := (zN L X (zhi s) R G nc ns)) (fun n => rfl) ?_
      refine zW.getf (v := .ref 20) rfl rfl (zr_7_3 S) ?_
      refine zW.run 1 (pc' := 23) (ls' := [some (.ref 7), some (.int (Int32.ofInt x)), some (.int (Int32.ofInt y)), some (.int (Int32.ofInt d))]) (st' := [.ref 7, .ref 20]) (σ' := (zN L X (zhi s) R G nc ns)) (fun n => rfl) ?_
      refine zW.run 1 (pc' := 26) (ls' := [some (.ref 7), some (.int (Int32.ofInt x)), some (.int (Int32.ofInt y)), some (.int (Int32.ofInt d))]) (st' := [.int (Int32.ofInt (s 7 9)), .ref 20]) (σ' := (zN L X (zhi s) R G nc ns)) (fun n => rfl) ?_
      have hri5 := (by omega : 0 ≤ (s 7 9) ∧ (s 7 9) < 6)
      obtain ⟨i5, ei5⟩ : ∃ i5 : Nat, (s 7 9).toNat = i5 := ⟨_, rfl⟩
      have li5 : i5 < 6 := by omega
      refine zW.jaald (n := 6) (v := .ref (54 + 2 * i5)) rfl rfl (by decide) (by decide) hri5 (by rw [ei5]; exact zr_min S (by omega)) ?_
      refine zW.run 3 (pc' := 30) (ls' := [some (.ref 7), some (.int (Int32.ofInt x)), some (.int (Int32.ofInt y)), some (.int (Int32.ofInt d))]) (st' := [.int (Int32.ofInt d), .int (Int32.ofInt y), .int (Int32.ofInt x), .ref (54 + 2 * i5)]) (σ' := (zN L X (zhi s) R G nc ns)) (fun n => rfl) ?_
      refine zW.callV rfl (by decide) rfl rfl rfl rfl (zk_min (by omega)) (Nat.le_of_ble_eq_true rfl) ?_
      refine t_Mine_place S (i := i5) (x := x) (y := y) (d := d) (by omega) ?_
      show zW ro 129 33 [some (.ref 7), some (.int (Int32.ofInt x)), some (.int (Int32.ofInt y)), some (.int (Int32.ofInt d))] [] (zN L X (zhi (zup (zup (zup (zup s (54 + 2 * i5) 1 x) (55 + 2 * i5) 0 y) (54 + 2 * i5) 2 1) (54 + 2 * i5) 3 d)) R G nc ns) Q
      refine zW.run 2 (pc' := 35) (ls' := [some (.ref 7), some (.int (Int32.ofInt x)), some (.int (Int32.ofInt y)), some (.int (Int32.ofInt d))]) (st' := [.ref 7, .ref 7]) (σ' := (zN L X (zhi (zup (zup (zup (zup s (54 + 2 * i5) 1 x) (55 + 2 * i5) 0 y) (54 + 2 * i5) 2 1) (54 + 2 * i5) 3 d)) R G nc ns)) (fun n => rfl) ?_
      refine zW.jget (v := (s 7 9)) rfl rfl (fun _ _ _ => rfl) ((zup_nj (by omega)).trans ((zup_nj (by omega)).trans ((zup_nj (by omega)).trans (zup_nj (by omega))))) ?_
      refine zW.run 1 (pc' := 39) (ls' := [some (.ref 7), some (.int (Int32.ofInt x)), some (.int (Int32.ofInt y)), some (.int (Int32.ofInt d))]) (st' := [.int (Int32.ofInt 1), .int (Int32.ofInt (s 7 9)), .ref 7]) (σ' := (zN L X (zhi (zup (zup (zup (zup s (54 + 2 * i5) 1 x) (55 + 2 * i5) 0 y) (54 + 2 * i5) 2 1) (54 + 2 * i5) 3 d)) R G nc ns)) (fun n => rfl) ?_
      refine zW.jadd rfl ?_
      refine zW.jput rfl rfl rfl ?_
      refine zW.run 1 (pc' := 44) (ls' := [some (.ref 7), some (.int (Int32.ofInt x)), some (.int (Int32.ofInt y)), some (.int (Int32.ofInt d))]) (st' := [.ref 7]) (σ' := (zN L X (zhi (zup (zup (zup (zup (zup s (54 + 2 * i5) 1 x) (55 + 2 * i5) 0 y) (54 + 2 * i5) 2 1) (54 + 2 * i5) 3 d) 7 9 ((s 7 9) + 1))) R G nc ns)) (fun n => rfl) ?_
      refine zW.jget (v := ((s 7 9) + 1)) rfl rfl (fun _ _ _ => rfl) zup_ej ?_
      refine zW.run 1 (pc' := 48) (ls' := [some (.ref 7), some (.int (Int32.ofInt x)), some (.int (Int32.ofInt y)), some (.int (Int32.ofInt d))]) (st' := [.int (Int32.ofInt 1), .int (Int32.ofInt ((s 7 9) + 1))]) (σ' := (zN L X (zhi (zup (zup (zup (zup (zup s (54 + 2 * i5) 1 x) (55 + 2 * i5) 0 y) (54 + 2 * i5) 2 1) (54 + 2 * i5) 3 d) 7 9 ((s 7 9) + 1))) R G nc ns)) (fun n => rfl) ?_
      refine zW.jsub rfl ?_
      have V6 : zV g U F T B ph (zup (zup (zup (zup (zup s (54 + 2 * i5) 1 x) (55 + 2 * i5) 0 y) (54 + 2 * i5) 2 1) (54 + 2 * i5) 3 d) 7 9 ((s 7 9) + 1)) := (V_mine V (by omega) (by omega) (by omega) (by omega))
      generalize hs7 : (zup (zup (zup (zup (zup s (54 + 2 * i5) 1 x) (55 + 2 * i5) 0 y) (54 + 2 * i5) 2 1) (54 + 2 * i5) 3 d) 7 9 ((s 7 9) + 1)) = s7 at V6 ⊢
      exact zW.jret rfl rfl (hQ0 (((s 7 9) + 1) - 1) s7 V6)
    · skip
      refine zW.run 1 (pc' := 17) (ls' := [some (.ref 7), some (.int (Int32.ofInt x)), some (.int (Int32.ofInt y)), some (.int (Int32.ofInt d))]) (st' := [.int (Int32.ofInt (-1))]) (σ' := (zN L X (zhi s) R G nc ns)) (fun n => rfl) ?_
      exact zW.jret rfl rfl (hQ0 (-1) s V)
set_option maxHeartbeats 4000000 in
theorem t_S_isNoGunWork (S : zSR R) {x : Int} (p0 : -2147483648 ≤ x ∧ x < 2147483648) (hQ0 : Q (.inl (some (.int (Int32.ofInt 1)))) (zN L X (zhi s) R G nc ns)) (hQ1 : Q (.inl (some (.int (Int32.ofInt 0)))) (zN L X (zhi s) R G nc ns)) : zW ro 9 0 (zfst [.int (Int32.ofInt x)] 1) [] (zN L X (zhi s) R G nc ns) Q := by
  show zW ro 9 0 [some (.int (Int32.ofInt x))] [] (zN L X (zhi s) R G nc ns) Q
  refine zW.run 2 (pc' := 2) (ls' := [some (.int (Int32.ofInt x))]) (st' := [.int (Int32.ofInt 2), .int (Int32.ofInt x)]) (σ' := (zN L X (zhi s) R G nc ns)) (fun n => rfl) ?_
  refine zW.jcmp_eq rfl (by omega) (fun c1 => ?_) (fun c1 => ?_)
  · skip
    refine zW.run 2 (pc' := 22) (ls' := [some (.int (Int32.ofInt x))]) (st' := [.int (Int32.ofInt 1)]) (σ' := (zN L X (zhi s) R G nc ns)) (fun n => rfl) ?_
    exact zW.jretb rfl rfl (by decide) hQ0
  · skip
    refine zW.run 2 (pc' := 8) (ls' := [some (.int (Int32.ofInt x))]) (st' := [.int (Int32.ofInt 6), .int (Int32.ofInt x)]) (σ' := (zN L X (zhi s) R G nc ns)) (fun n => rfl) ?_
    refine zW.jcmp_eq rfl (by omega) (fun c2 => ?_) (fun c2 => ?_)
    · skip
      refine zW.run 2 (pc' := 22) (ls' := [some (.int (Int32.ofInt x))]) (st' := [.int (Int32.ofInt 1)]) (σ' := (zN L X (zhi s) R G nc ns)) (fun n => rfl) ?_
      exact zW.jretb rfl rfl (by decide) hQ0
    · skip
      refine zW.run 2 (pc' := 14) (ls' := [some (.int (Int32.ofInt x))]) (st' := [.int (Int32.ofInt 7), .int (Int32.ofInt x)]) (σ' := (zN L X (zhi s) R G nc ns)) (fun n => rfl) ?_
      refine zW.jcmp_ne rfl (by omega) (fun c3 => ?_) (fun c3 => ?_)
      · skip
        refine zW.run 1 (pc' := 22) (ls' := [some (.int (Int32.ofInt x))]) (st' := [.int (Int32.ofInt 0)]) (σ' := (zN L X (zhi s) R G nc ns)) (fun n => rfl) ?_
        exact zW.jretb rfl rfl (by decide) hQ1
      · skip
        refine zW.run 2 (pc' := 22) (ls' := [some (.int (Int32.ofInt x))]) (st' := [.int (Int32.ofInt 1)]) (σ' := (zN L X (zhi s) R G nc ns)) (fun n => rfl) ?_
        exact zW.jretb rfl rfl (by decide) hQ0
set_option maxHeartbeats 4000000 in
theorem t_S_aim (S : zSR R) (V : zV g U F T B ph s) {i : Nat} {y : Int} (p0 : i < 6) (p1 : -1 ≤ y ∧ y < g 2) (hQ0 : ∀ (v : Int) (s1 : zJ), zV g U F T B ph s1 → ph = 1 → Q (.inl (some (.int (Int32.ofInt v)))) (zN L X (zhi s1) R G nc ns)) (hQ1 : Q (.inr 86) (zN L X (zhi s) R G (nc + 1) (ns + 6))) : zW ro 1 0 (zfst [.ref 6, .int (Int32.ofInt (i : Int)), .int (Int32.ofInt y)] 5) [] (zN L X (zhi s) R G nc ns) Q := by
  show zW ro 1 0 [some (.ref 6), some (.int (Int32.ofInt (i : Int))), some (.int (Int32.ofInt y)), none, none] [] (zN L X (zhi s) R G nc ns) Q
  have f1 := zA_geo (zV_zA V)
  have hB0 := zV_B V
  have f2 := zV_sie V
  refine zW.run 1 (pc' := 1) (ls' := [some (.ref 6), some (.int (Int32.ofInt (i : Int))), some (.int (Int32.ofInt y)), none, none]) (st' := [.ref 6]) (σ' := (zN L X (zhi s) R G nc ns)) (fun n => rfl) ?_
  refine zW.getf (v := .ref 7) rfl rfl (zr_6_0 S) ?_
  refine zW.run 1 (pc' := 5) (ls' := [some (.ref 6), some (.int (Int32.ofInt (i : Int))), some (.int (Int32.ofInt y)), none, none]) (st' := [.int (Int32.ofInt (i : Int)), .ref 7]) (σ' := (zN L X (zhi s) R G nc ns)) (fun n => rfl) ?_
  refine zW.callV rfl (by decide) rfl rfl rfl rfl rfl (Nat.le_of_ble_eq_true rfl) ?_
  refine t_Siege_gunAt S V (i := i) (by omega) ?_
  show zW ro 1 8 [some (.ref 6), some (.int (Int32.ofInt (i : Int))), some (.int (Int32.ofInt y)), none, none] [.ref (26 + i)] (zN L X (zhi s) R G nc ns) Q
  refine zW.run 5 (pc' := 15) (ls' := [some (.ref 6), some (.int (Int32.ofInt (i : Int))), some (.int (Int32.ofInt y)), some (.ref (26 + i)), none]) (st' := [.int (Int32.ofInt (-1)), .int (Int32.ofInt y)]) (σ' := (zN L X (zhi s) R G nc ns)) (fun n => rfl) ?_
  refine zW.jcmp_eq rfl (by omega) (fun c3 => ?_) (fun c3 => ?_)
  · skip
    refine zW.run 1 (pc' := 43) (ls' := [some (.ref 6), some (.int (Int32.ofInt (i : Int))), some (.int (Int32.ofInt y)), some (.ref (26 + i)), none]) (st' := [.ref 6]) (σ' := (zN L X (zhi s) R G nc ns)) (fun n => rfl) ?_
    refine zW.getf (v := .ref 7) rfl rfl (zr_6_0 S) ?_
    refine zW.run 2 (pc' := 50) (ls' := [some (.ref 6), some (.int (Int32.ofInt (i : Int))), some (.int (Int32.ofInt y)), some (.ref (26 + i)), none]) (st' := [.int (Int32.ofInt 1), .int (Int32.ofInt (s 7 11))]) (σ' := (zN L X (zhi s) R G nc ns)) (fun n => rfl) ?_
    refine zW.jcmp_eq rfl (by omega) (fun c4 => ?_) (fun c4 => ?_)
    · skip
      refine zW.run 1 (pc' := 64) (ls' := [some (.ref 6), some (.int (Int32.ofInt (i : Int))), some (.int (Int32.ofInt y)), some (.ref (26 + i)), none]) (st' := [.ref (26 + i)]) (σ' := (zN L X (zhi s) R G nc ns)) (fun n => rfl) ?_
      have f5 := zV_gun V (i := i) (by omega)
      refine zW.jget (v := (s (26 + i) 6)) rfl (zk_gun (by omega)) (fun _ _ _ => rfl) rfl ?_
      refine zW.run 3 (pc' := 71) (ls' := [some (.ref 6), some (.int (Int32.ofInt (i : Int))), some (.int (Int32.ofInt y)), some (.ref (26 + i)), some (.int (Int32.ofInt (s (26 + i) 6)))]) (st' := [.int (Int32.ofInt y), .ref (26 + i)]) (σ' := (zN L X (zhi s) R G nc ns)) (fun n => rfl) ?_
      refine zW.jput rfl (zk_gun (by omega)) rfl ?_
      refine zW.run 1 (pc' := 76) (ls' := [some (.ref 6), some (.int (Int32.ofInt (i : Int))), some (.int (Int32.ofInt y)), some (.ref (26 + i)), some (.int (Int32.ofInt (s (26 + i) 6)))]) (st' := [.int (Int32.ofInt (s (26 + i) 6))]) (σ' := (zN L X (zhi (zup s (26 + i) 6 y)) R G nc ns)) (fun n => rfl) ?_
      have V6 : zV g U F T B ph (zup s (26 + i) 6 y) := (V_aim V (by omega) (by omega))
      generalize hs7 : (zup s (26 + i) 6 y) = s7 at V6 ⊢
      exact zW.jret rfl rfl (hQ0 (s (26 + i) 6) s7 V6 (by omega))
    · skip
      exact zW.thr rfl hQ1
  · skip
    refine zW.run 1 (pc' := 19) (ls' := [some (.ref 6), some (.int (Int32.ofInt (i : Int))), some (.int (Int32.ofInt y)), some (.ref (26 + i)), none]) (st' := [.ref 6]) (σ' := (zN L X (zhi s) R G nc ns)) (fun n => rfl) ?_
    refine zW.getf (v := .ref 7) rfl rfl (zr_6_0 S) ?_
    refine zW.getf (v := .ref 8) rfl rfl (zr_7_0 S) ?_
    refine zW.run 1 (pc' := 26) (ls' := [some (.ref 6), some (.int (Int32.ofInt (i : Int))), some (.int (Int32.ofInt y)), some (.ref (26 + i)), none]) (st' := [.int (Int32.ofInt y), .ref 8]) (σ' := (zN L X (zhi s) R G nc ns)) (fun n => rfl) ?_
    refine zW.callV rfl (by decide) rfl rfl rfl rfl rfl (Nat.le_of_ble_eq_true rfl) ?_
    refine t_Ground_isOn S (zV_zA V) (x := y) (by omega) (fun f8 f9 => ?_) (fun f10 => ?_)
    · skip
      show zW ro 1 29 [some (.ref 6), some (.int (Int32.ofInt (i : Int))), some (.int (Int32.ofInt y)), some (.ref (26 + i)), none] [.int (Int32.ofInt 1)] (zN L X (zhi s) R G nc ns) Q
      refine zW.run 2 (pc' := 43) (ls' := [some (.ref 6), some (.int (Int32.ofInt (i : Int))), some (.int (Int32.ofInt y)), some (.ref (26 + i)), none]) (st' := [.ref 6]) (σ' := (zN L X (zhi s) R G nc ns)) (fun n => rfl) ?_
      refine zW.getf (v := .ref 7) rfl rfl (zr_6_0 S) ?_
      refine zW.run 2 (pc' := 50) (ls' := [some (.ref 6), some (.int (Int32.ofInt (i : Int))), some (.int (Int32.ofInt y)), some (.ref (26 + i)), none]) (st' := [.int (Int32.ofInt 1), .int (Int32.ofInt (s 7 11))]) (σ' := (zN L X (zhi s) R G nc ns)) (fun n => rfl) ?_
      refine zW.jcmp_eq rfl (by omega) (fun c11 => ?_) (fun c11 => ?_)
      · skip
        refine zW.run 1 (pc' := 64) (ls' := [some (.ref 6), some (.int (Int32.ofInt (i : Int))), some (.int (Int32.ofInt y)), some (.ref (26 + i)), none]) (st' := [.ref (26 + i)]) (σ' := (zN L X (zhi s) R G nc ns)) (fun n => rfl) ?_
        have f12 := zV_gun V (i := i) (by omega)
        refine zW.jget (v := (s (26 + i) 6)) rfl (zk_gun (by omega)) (fun _ _ _ => rfl) rfl ?_
        refine zW.run 3 (pc' := 71) (ls' := [some (.ref 6), some (.int (Int32.ofInt (i : Int))), some (.int (Int32.ofInt y)), some (.ref (26 + i)), some (.int (Int32.ofInt (s (26 + i) 6)))]) (st' := [.int (Int32.ofInt y), .ref (26 + i)]) (σ' := (zN L X (zhi s) R G nc ns)) (fun n => rfl) ?_
        refine zW.jput rfl (zk_gun (by omega)) rfl ?_
        refine zW.run 1 (pc' := 76) (ls' := [some (.ref 6), some (.int (Int32.ofInt (i : Int))), some (.int (Int32.ofInt y)), some (.ref (26 + i)), some (.int (Int32.ofInt (s (26 + i) 6)))]) (st' := [.int (Int32.ofInt (s (26 + i) 6))]) (σ' := (zN L X (zhi (zup s (26 + i) 6 y)) R G nc ns)) (fun n => rfl) ?_
        have V13 : zV g U F T B ph (zup s (26 + i) 6 y) := (V_aim V (by omega) (by omega))
        generalize hs14 : (zup s (26 + i) 6 y) = s14 at V13 ⊢
        exact zW.jret rfl rfl (hQ0 (s (26 + i) 6) s14 V13 (by omega))
      · skip
        exact zW.thr rfl hQ1
    · skip
      show zW ro 1 29 [some (.ref 6), some (.int (Int32.ofInt (i : Int))), some (.int (Int32.ofInt y)), some (.ref (26 + i)), none] [.int (Int32.ofInt 0)] (zN L X (zhi s) R G nc ns) Q
      refine zW.run 1 (pc' := 32) (ls' := [some (.ref 6), some (.int (Int32.ofInt (i : Int))), some (.int (Int32.ofInt y)), some (.ref (26 + i)), none]) (st' := []) (σ' := (zN L X (zhi s) R G nc ns)) (fun n => rfl) ?_
      exfalso
      omega
set_option maxHeartbeats 4000000 in
theorem t_S_order (S : zSR R) (V : zV g U F T B ph s) {i : Nat} {d : Int} {y : Int} (p0 : i < 8) (p1 : 0 ≤ d ∧ d ≤ 6) (p2 : (d = 1 ∨ d = 4 ∨ d = 5 ∨ d = 6) → 0 ≤ y ∧ y < g 2) (p3 : (d = 1 → i < 4) ∧ (d = 6 → 4 ≤ i)) (p4 : -2147483648 ≤ y ∧ y < 2147483648) (hQ0 : ∀ (v : Int) (s1 : zJ), zV g U F T B ph s1 → ph = 1 → Q (.inl (some (.int (Int32.ofInt v)))) (zN L X (zhi s1) R G nc ns)) (hQ1 : Q (.inr 86) (zN L X (zhi s) R G (nc + 1) (ns + 6))) : zW ro 24 0 (zfst [.ref 6, .int (Int32.ofInt (i : Int)), .int (Int32.ofInt d), .int (Int32.ofInt y)] 7) [] (zN L X (zhi s) R G nc ns) Q := by
  show zW ro 24 0 [some (.ref 6), some (.int (Int32.ofInt (i : Int))), some (.int (Int32.ofInt d)), some (.int (Int32.ofInt y)), none, none, none] [] (zN L X (zhi s) R G nc ns) Q
  have f1 := zA_geo (zV_zA V)
  have hB0 := zV_B V
  have c2 := zV_zC2 V i (by omega)
  have f2 := zV_sie V
  refine zW.run 1 (pc' := 1) (ls' := [some (.ref 6), some (.int (Int32.ofInt (i : Int))), some (.int (Int32.ofInt d)), some (.int (Int32.ofInt y)), none, none, none]) (st' := [.ref 6]) (σ' := (zN L X (zhi s) R G nc ns)) (fun n => rfl) ?_
  refine zW.getf (v := .ref 7) rfl rfl (zr_6_0 S) ?_
  refine zW.run 1 (pc' := 5) (ls' := [some (.ref 6), some (.int (Int32.ofInt (i : Int))), some (.int (Int32.ofInt d)), some (.int (Int32.ofInt y)), none, none, none]) (st' := [.int (Int32.ofInt (i : Int)), .ref 7]) (σ' := (zN L X (zhi s) R G nc ns)) (fun n => rfl) ?_
  refine zW.callV rfl (by decide) rfl rfl rfl rfl rfl (Nat.le_of_ble_eq_true rfl) ?_
  refine t_Siege_companyAt S V (i := i) (by omega) ?_
  show zW ro 24 8 [some (.ref 6), some (.int (Int32.ofInt (i : Int))), some (.int (Int32.ofInt d)), some (.int (Int32.ofInt y)), none, none, none] [.ref (42 + i)] (zN L X (zhi s) R G nc ns) Q
  refine zW.run 3 (pc' := 12) (ls' := [some (.ref 6), some (.int (Int32.ofInt (i : Int))), some (.int (Int32.ofInt d)), some (.int (Int32.ofInt y)), some (.ref (42 + i)), none, none]) (st' := [.int (Int32.ofInt 1), .int (Int32.ofInt d)]) (σ' := (zN L X (zhi s) R G nc ns)) (fun n => rfl) ?_
  have J4 : ∀ (v3 : Int), (d = 1 ∧ v3 = 1) ∨ (¬ d = 1 ∧ d = 4 ∧ v3 = 1) ∨ (¬ d = 1 ∧ ¬ d = 4 ∧ d = 5 ∧ v3 = 1) ∨ (¬ d = 1 ∧ ¬ d = 4 ∧ ¬ d = 5 ∧ ¬ d = 6 ∧ v3 = 0) ∨ (¬ d = 1 ∧ ¬ d = 4 ∧ ¬ d = 5 ∧ d = 6 ∧ v3 = 1) → zW ro 24 36 [some (.ref 6), some (.int (Int32.ofInt (i : Int))), some (.int (Int32.ofInt d)), some (.int (Int32.ofInt y)), some (.ref (42 + i)), none, none] [.int (Int32.ofInt v3)] (zN L X (zhi s) R G nc ns) Q := by
    intro v3 c5
    refine zW.run 4 (pc' := 45) (ls' := [some (.ref 6), some (.int (Int32.ofInt (i : Int))), some (.int (Int32.ofInt d)), some (.int (Int32.ofInt y)), some (.ref (42 + i)), some (.int (Int32.ofInt v3)), none]) (st' := [.int (Int32.ofInt v3)]) (σ' := (zN L X (zhi s) R G nc ns)) (fun n => rfl) ?_
    refine zW.jif_eq rfl (by omega) (fun c6 => ?_) (fun c6 => ?_)
    · skip
      refine zW.run 1 (pc' := 73) (ls' := [some (.ref 6), some (.int (Int32.ofInt (i : Int))), some (.int (Int32.ofInt d)), some (.int (Int32.ofInt y)), some (.ref (42 + i)), some (.int (Int32.ofInt v3)), none]) (st' := [.int (Int32.ofInt d)]) (σ' := (zN L X (zhi s) R G nc ns)) (fun n => rfl) ?_
      refine zW.jif_lt rfl (by omega) (fun c7 => ?_) (fun c7 => ?_)
      · skip
        exfalso
        omega
      · skip
        refine zW.run 2 (pc' := 79) (ls' := [some (.ref 6), some (.int (Int32.ofInt (i : Int))), some (.int (Int32.ofInt d)), some (.int (Int32.ofInt y)), some (.ref (42 + i)), some (.int (Int32.ofInt v3)), none]) (st' := [.int (Int32.ofInt 6), .int (Int32.ofInt d)]) (σ' := (zN L X (zhi s) R G nc ns)) (fun n => rfl) ?_
        refine zW.jcmp_gt rfl (by omega) (fun c8 => ?_) (fun c8 => ?_)
        · skip
          exfalso
          omega
        · skip
          refine zW.run 2 (pc' := 84) (ls' := [some (.ref 6), some (.int (Int32.ofInt (i : Int))), some (.int (Int32.ofInt d)), some (.int (Int32.ofInt y)), some (.ref (42 + i)), some (.int (Int32.ofInt v3)), none]) (st' := [.int (Int32.ofInt 1), .int (Int32.ofInt d)]) (σ' := (zN L X (zhi s) R G nc ns)) (fun n => rfl) ?_
          refine zW.jcmp_ne rfl (by omega) (fun c9 => ?_) (fun c9 => ?_)
          · skip
            refine zW.run 2 (pc' := 99) (ls' := [some (.ref 6), some (.int (Int32.ofInt (i : Int))), some (.int (Int32.ofInt d)), some (.int (Int32.ofInt y)), some (.ref (42 + i)), some (.int (Int32.ofInt v3)), none]) (st' := [.int (Int32.ofInt 6), .int (Int32.ofInt d)]) (σ' := (zN L X (zhi s) R G nc ns)) (fun n => rfl) ?_
            refine zW.jcmp_ne rfl (by omega) (fun c10 => ?_) (fun c10 => ?_)
            · skip
              refine zW.run 1 (pc' := 121) (ls' := [some (.ref 6), some (.int (Int32.ofInt (i : Int))), some (.int (Int32.ofInt d)), some (.int (Int32.ofInt y)), some (.ref (42 + i)), some (.int (Int32.ofInt v3)), none]) (st' := [.ref 6]) (σ' := (zN L X (zhi s) R G nc ns)) (fun n => rfl) ?_
              refine zW.getf (v := .ref 7) rfl rfl (zr_6_0 S) ?_
              refine zW.run 2 (pc' := 128) (ls' := [some (.ref 6), some (.int (Int32.ofInt (i : Int))), some (.int (Int32.ofInt d)), some (.int (Int32.ofInt y)), some (.ref (42 + i)), some (.int (Int32.ofInt v3)), none]) (st' := [.int (Int32.ofInt 1), .int (Int32.ofInt (s 7 11))]) (σ' := (zN L X (zhi s) R G nc ns)) (fun n => rfl) ?_
              refine zW.jcmp_ne rfl (by omega) (fun c11 => ?_) (fun c11 => ?_)
              · skip
                exact zW.thr rfl hQ1
              · skip
                refine zW.run 1 (pc' := 133) (ls' := [some (.ref 6), some (.int (Int32.ofInt (i : Int))), some (.int (Int32.ofInt d)), some (.int (Int32.ofInt y)), some (.ref (42 + i)), some (.int (Int32.ofInt v3)), none]) (st' := [.ref (42 + i)]) (σ' := (zN L X (zhi s) R G nc ns)) (fun n => rfl) ?_
                have f12 := zV_com V (i := i) (by omega)
                refine zW.jget (v := (s (42 + i) 2)) rfl (zk_com (by omega)) (fun _ _ _ => rfl) rfl ?_
                refine zW.jif_ne rfl (by omega) (fun c13 => ?_) (fun c13 => ?_)
                · skip
                  refine zW.run 1 (pc' := 151) (ls' := [some (.ref 6), some (.int (Int32.ofInt (i : Int))), some (.int (Int32.ofInt d)), some (.int (Int32.ofInt y)), some (.ref (42 + i)), some (.int (Int32.ofInt v3)), none]) (st' := [.ref (42 + i)]) (σ' := (zN L X (zhi s) R G nc ns)) (fun n => rfl) ?_
                  refine zW.jget (v := (s (42 + i) 4)) rfl (zk_com (by omega)) (fun _ _ _ => rfl) rfl ?_
                  refine zW.run 3 (pc' := 159) (ls' := [some (.ref 6), some (.int (Int32.ofInt (i : Int))), some (.int (Int32.ofInt d)), some (.int (Int32.ofInt y)), some (.ref (42 + i)), some (.int (Int32.ofInt v3)), some (.int (Int32.ofInt (s (42 + i) 4)))]) (st' := [.int (Int32.ofInt d), .ref (42 + i)]) (σ' := (zN L X (zhi s) R G nc ns)) (fun n => rfl) ?_
                  refine zW.jput rfl (zk_com (by omega)) rfl ?_
                  refine zW.run 2 (pc' := 166) (ls' := [some (.ref 6), some (.int (Int32.ofInt (i : Int))), some (.int (Int32.ofInt d)), some (.int (Int32.ofInt y)), some (.ref (42 + i)), some (.int (Int32.ofInt v3)), some (.int (Int32.ofInt (s (42 + i) 4)))]) (st' := [.int (Int32.ofInt v3), .ref (42 + i)]) (σ' := (zN L X (zhi (zup s (42 + i) 4 d)) R G nc ns)) (fun n => rfl) ?_
                  have J15 : ∀ (v14 : Int), (v3 = 0 ∧ v14 = (-1)) ∨ (¬ v3 = 0 ∧ v14 = y) → zW ro 24 174 [some (.ref 6), some (.int (Int32.ofInt (i : Int))), some (.int (Int32.ofInt d)), some (.int (Int32.ofInt y)), some (.ref (42 + i)), some (.int (Int32.ofInt v3)), some (.int (Int32.ofInt (s (42 + i) 4)))] [.int (Int32.ofInt v14), .ref (42 + i)] (zN L X (zhi (zup s (42 + i) 4 d)) R G nc ns) Q := by
                    intro v14 c16
                    refine zW.jput rfl (zk_com (by omega)) rfl ?_
                    refine zW.run 1 (pc' := 179) (ls' := [some (.ref 6), some (.int (Int32.ofInt (i : Int))), some (.int (Int32.ofInt d)), some (.int (Int32.ofInt y)), some (.ref (42 + i)), some (.int (Int32.ofInt v3)), some (.int (Int32.ofInt (s (42 + i) 4)))]) (st' := [.int (Int32.ofInt (s (42 + i) 4))]) (σ' := (zN L X (zhi (zup (zup s (42 + i) 4 d) (42 + i) 5 v14)) R G nc ns)) (fun n => rfl) ?_
                    have V17 : zV g U F T B ph (zup (zup s (42 + i) 4 d) (42 + i) 5 v14) := (V_goal V (by omega) (by omega) (by omega) (by omega) (by omega))
                    generalize hs18 : (zup (zup s (42 + i) 4 d) (42 + i) 5 v14) = s18 at V17 ⊢
                    exact zW.jret rfl rfl (hQ0 (s (42 + i) 4) s18 V17 (by omega))
                  refine zW.jif_eq rfl (by omega) (fun c19 => ?_) (fun c19 => ?_)
                  · skip
                    refine zW.run 1 (pc' := 174) (ls' := [some (.ref 6), some (.int (Int32.ofInt (i : Int))), some (.int (Int32.ofInt d)), some (.int (Int32.ofInt y)), some (.ref (42 + i)), some (.int (Int32.ofInt v3)), some (.int (Int32.ofInt (s (42 + i) 4)))]) (st' := [.int (Int32.ofInt (-1)), .ref (42 + i)]) (σ' := (zN L X (zhi (zup s (42 + i) 4 d)) R G nc ns)) (fun n => rfl) ?_
                    exact J15 (-1) (by omega)
                  · skip
                    refine zW.run 2 (pc' := 174) (ls' := [some (.ref 6), some (.int (Int32.ofInt (i : Int))), some (.int (Int32.ofInt d)), some (.int (Int32.ofInt y)), some (.ref (42 + i)), some (.int (Int32.ofInt v3)), some (.int (Int32.ofInt (s (42 + i) 4)))]) (st' := [.int (Int32.ofInt y), .ref (42 + i)]) (σ' := (zN L X (zhi (zup s (42 + i) 4 d)) R G nc ns)) (fun n => rfl) ?_
                    exact J15 y (by omega)
                · skip
                  exact zW.thr rfl hQ1
            · skip
              refine zW.run 1 (pc' := 104) (ls' := [some (.ref 6), some (.int (Int32.ofInt (i : Int))), some (.int (Int32.ofInt d)), some (.int (Int32.ofInt y)), some (.ref (42 + i)), some (.int (Int32.ofInt v3)), none]) (st' := [.ref (42 + i)]) (σ' := (zN L X (zhi s) R G nc ns)) (fun n => rfl) ?_
              have f20 := zV_com V (i := i) (by omega)
              refine zW.jget (v := (s (42 + i) 0)) rfl (zk_com (by omega)) (fun _ _ _ => rfl) rfl ?_
              refine zW.jif_ne rfl (by omega) (fun c21 => ?_) (fun c21 => ?_)
              · skip
                refine zW.run 1 (pc' := 121) (ls' := [some (.ref 6), some (.int (Int32.ofInt (i : Int))), some (.int (Int32.ofInt d)), some (.int (Int32.ofInt y)), some (.ref (42 + i)), some (.int (Int32.ofInt v3)), none]) (st' := [.ref 6]) (σ' := (zN L X (zhi s) R G nc ns)) (fun n => rfl) ?_
                refine zW.getf (v := .ref 7) rfl rfl (zr_6_0 S) ?_
                refine zW.run 2 (pc' := 128) (ls' := [some (.ref 6), some (.int (Int32.ofInt (i : Int))), some (.int (Int32.ofInt d)), some (.int (Int32.ofInt y)), some (.ref (42 + i)), some (.int (Int32.ofInt v3)), none]) (st' := [.int (Int32.ofInt 1), .int (Int32.ofInt (s 7 11))]) (σ' := (zN L X (zhi s) R G nc ns)) (fun n => rfl) ?_
                refine zW.jcmp_ne rfl (by omega) (fun c22 => ?_) (fun c22 => ?_)
                · skip
                  exact zW.thr rfl hQ1
                · skip
                  refine zW.run 1 (pc' := 133) (ls' := [some (.ref 6), some (.int (Int32.ofInt (i : Int))), some (.int (Int32.ofInt d)), some (.int (Int32.ofInt y)), some (.ref (42 + i)), some (.int (Int32.ofInt v3)), none]) (st' := [.ref (42 + i)]) (σ' := (zN L X (zhi s) R G nc ns)) (fun n => rfl) ?_
                  refine zW.jget (v := (s (42 + i) 2)) rfl (zk_com (by omega)) (fun _ _ _ => rfl) rfl ?_
                  refine zW.jif_ne rfl (by omega) (fun c23 => ?_) (fun c23 => ?_)
                  · skip
                    refine zW.run 1 (pc' := 151) (ls' := [some (.ref 6), some (.int (Int32.ofInt (i : Int))), some (.int (Int32.ofInt d)), some (.int (Int32.ofInt y)), some (.ref (42 + i)), some (.int (Int32.ofInt v3)), none]) (st' := [.ref (42 + i)]) (σ' := (zN L X (zhi s) R G nc ns)) (fun n => rfl) ?_
                    refine zW.jget (v := (s (42 + i) 4)) rfl (zk_com (by omega)) (fun _ _ _ => rfl) rfl ?_
                    refine zW.run 3 (pc' := 159) (ls' := [some (.ref 6), some (.int (Int32.ofInt (i : Int))), some (.int (Int32.ofInt d)), some (.int (Int32.ofInt y)), some (.ref (42 + i)), some (.int (Int32.ofInt v3)), some (.int (Int32.ofInt (s (42 + i) 4)))]) (st' := [.int (Int32.ofInt d), .ref (42 + i)]) (σ' := (zN L X (zhi s) R G nc ns)) (fun n => rfl) ?_
                    refine zW.jput rfl (zk_com (by omega)) rfl ?_
                    refine zW.run 2 (pc' := 166) (ls' := [some (.ref 6), some (.int (Int32.ofInt (i : Int))), some (.int (Int32.ofInt d)), some (.int (Int32.ofInt y)), some (.ref (42 + i)), some (.int (Int32.ofInt v3)), some (.int (Int32.ofInt (s (42 + i) 4)))]) (st' := [.int (Int32.ofInt v3), .ref (42 + i)]) (σ' := (zN L X (zhi (zup s (42 + i) 4 d)) R G nc ns)) (fun n => rfl) ?_
                    have J25 : ∀ (v24 : Int), (v3 = 0 ∧ v24 = (-1)) ∨ (¬ v3 = 0 ∧ v24 = y) → zW ro 24 174 [some (.ref 6), some (.int (Int32.ofInt (i : Int))), some (.int (Int32.ofInt d)), some (.int (Int32.ofInt y)), some (.ref (42 + i)), some (.int (Int32.ofInt v3)), some (.int (Int32.ofInt (s (42 + i) 4)))] [.int (Int32.ofInt v24), .ref (42 + i)] (zN L X (zhi (zup s (42 + i) 4 d)) R G nc ns) Q := by
                      intro v24 c26
                      refine zW.jput rfl (zk_com (by omega)) rfl ?_
                      refine zW.run 1 (pc' := 179) (ls' := [some (.ref 6), some (.int (Int32.ofInt (i : Int))), some (.int (Int32.ofInt d)), some (.int (Int32.ofInt y)), some (.ref (42 + i)), some (.int (Int32.ofInt v3)), some (.int (Int32.ofInt (s (42 + i) 4)))]) (st' := [.int (Int32.ofInt (s (42 + i) 4))]) (σ' := (zN L X (zhi (zup (zup s (42 + i) 4 d) (42 + i) 5 v24)) R G nc ns)) (fun n => rfl) ?_
                      have V27 : zV g U F T B ph (zup (zup s (42 + i) 4 d) (42 + i) 5 v24) := (V_goal V (by omega) (by omega) (by omega) (by omega) (by omega))
                      generalize hs28 : (zup (zup s (42 + i) 4 d) (42 + i) 5 v24) = s28 at V27 ⊢
                      exact zW.jret rfl rfl (hQ0 (s (42 + i) 4) s28 V27 (by omega))
                    refine zW.jif_eq rfl (by omega) (fun c29 => ?_) (fun c29 => ?_)
                    · skip
                      refine zW.run 1 (pc' := 174) (ls' := [some (.ref 6), some (.int (Int32.ofInt (i : Int))), some (.int (Int32.ofInt d)), some (.int (Int32.ofInt y)), some (.ref (42 + i)), some (.int (Int32.ofInt v3)), some (.int (Int32.ofInt (s (42 + i) 4)))]) (st' := [.int (Int32.ofInt (-1)), .ref (42 + i)]) (σ' := (zN L X (zhi (zup s (42 + i) 4 d)) R G nc ns)) (fun n => rfl) ?_
                      exact J25 (-1) (by omega)
                    · skip
                      refine zW.run 2 (pc' := 174) (ls' := [some (.ref 6), some (.int (Int32.ofInt (i : Int))), some (.int (Int32.ofInt d)), some (.int (Int32.ofInt y)), some (.ref (42 + i)), some (.int (Int32.ofInt v3)), some (.int (Int32.ofInt (s (42 + i) 4)))]) (st' := [.int (Int32.ofInt y), .ref (42 + i)]) (σ' := (zN L X (zhi (zup s (42 + i) 4 d)) R G nc ns)) (fun n => rfl) ?_
                      exact J25 y (by omega)
                  · skip
                    exact zW.thr rfl hQ1
              · skip
                exfalso
                omega
          · skip
            refine zW.run 1 (pc' := 89) (ls' := [some (.ref 6), some (.int (Int32.ofInt (i : Int))), some (.int (Int32.ofInt d)), some (.int (Int32.ofInt y)), some (.ref (42 + i)), some (.int (Int32.ofInt v3)), none]) (st' := [.ref (42 + i)]) (σ' := (zN L X (zhi s) R G nc ns)) (fun n => rfl) ?_
            have f30 := zV_com V (i := i) (by omega)
            refine zW.jget (v := (s (42 + i) 0)) rfl (zk_com (by omega)) (fun _ _ _ => rfl) rfl ?_
            refine zW.run 1 (pc' := 93) (ls' := [some (.ref 6), some (.int (Int32.ofInt (i : Int))), some (.int (Int32.ofInt d)), some (.int (Int32.ofInt y)), some (.ref (42 + i)), some (.int (Int32.ofInt v3)), none]) (st' := [.int (Int32.ofInt 1), .int (Int32.ofInt (s (42 + i) 0))]) (σ' := (zN L X (zhi s) R G nc ns)) (fun n => rfl) ?_
            refine zW.jcmp_eq rfl (by omega) (fun c31 => ?_) (fun c31 => ?_)
            · skip
              exfalso
              omega
            · skip
              refine zW.run 2 (pc' := 99) (ls' := [some (.ref 6), some (.int (Int32.ofInt (i : Int))), some (.int (Int32.ofInt d)), some (.int (Int32.ofInt y)), some (.ref (42 + i)), some (.int (Int32.ofInt v3)), none]) (st' := [.int (Int32.ofInt 6), .int (Int32.ofInt d)]) (σ' := (zN L X (zhi s) R G nc ns)) (fun n => rfl) ?_
              refine zW.jcmp_ne rfl (by omega) (fun c32 => ?_) (fun c32 => ?_)
              · skip
                refine zW.run 1 (pc' := 121) (ls' := [some (.ref 6), some (.int (Int32.ofInt (i : Int))), some (.int (Int32.ofInt d)), some (.int (Int32.ofInt y)), some (.ref (42 + i)), some (.int (Int32.ofInt v3)), none]) (st' := [.ref 6]) (σ' := (zN L X (zhi s) R G nc ns)) (fun n => rfl) ?_
                refine zW.getf (v := .ref 7) rfl rfl (zr_6_0 S) ?_
                refine zW.run 2 (pc' := 128) (ls' := [some (.ref 6), some (.int (Int32.ofInt (i : Int))), some (.int (Int32.ofInt d)), some (.int (Int32.ofInt y)), some (.ref (42 + i)), some (.int (Int32.ofInt v3)), none]) (st' := [.int (Int32.ofInt 1), .int (Int32.ofInt (s 7 11))]) (σ' := (zN L X (zhi s) R G nc ns)) (fun n => rfl) ?_
                refine zW.jcmp_ne rfl (by omega) (fun c33 => ?_) (fun c33 => ?_)
                · skip
                  exact zW.thr rfl hQ1
                · skip
                  refine zW.run 1 (pc' := 133) (ls' := [some (.ref 6), some (.int (Int32.ofInt (i : Int))), some (.int (Int32.ofInt d)), some (.int (Int32.ofInt y)), some (.ref (42 + i)), some (.int (Int32.ofInt v3)), none]) (st' := [.ref (42 + i)]) (σ' := (zN L X (zhi s) R G nc ns)) (fun n => rfl) ?_
                  refine zW.jget (v := (s (42 + i) 2)) rfl (zk_com (by omega)) (fun _ _ _ => rfl) rfl ?_
                  refine zW.jif_ne rfl (by omega) (fun c34 => ?_) (fun c34 => ?_)
                  · skip
                    refine zW.run 1 (pc' := 151) (ls' := [some (.ref 6), some (.int (Int32.ofInt (i : Int))), some (.int (Int32.ofInt d)), some (.int (Int32.ofInt y)), some (.ref (42 + i)), some (.int (Int32.ofInt v3)), none]) (st' := [.ref (42 + i)]) (σ' := (zN L X (zhi s) R G nc ns)) (fun n => rfl) ?_
                    refine zW.jget (v := (s (42 + i) 4)) rfl (zk_com (by omega)) (fun _ _ _ => rfl) rfl ?_
                    refine zW.run 3 (pc' := 159) (ls' := [some (.ref 6), some (.int (Int32.ofInt (i : Int))), some (.int (Int32.ofInt d)), some (.int (Int32.ofInt y)), some (.ref (42 + i)), some (.int (Int32.ofInt v3)), some (.int (Int32.ofInt (s (42 + i) 4)))]) (st' := [.int (Int32.ofInt d), .ref (42 + i)]) (σ' := (zN L X (zhi s) R G nc ns)) (fun n => rfl) ?_
                    refine zW.jput rfl (zk_com (by omega)) rfl ?_
                    refine zW.run 2 (pc' := 166) (ls' := [some (.ref 6), some (.int (Int32.ofInt (i : Int))), some (.int (Int32.ofInt d)), some (.int (Int32.ofInt y)), some (.ref (42 + i)), some (.int (Int32.ofInt v3)), some (.int (Int32.ofInt (s (42 + i) 4)))]) (st' := [.int (Int32.ofInt v3), .ref (42 + i)]) (σ' := (zN L X (zhi (zup s (42 + i) 4 d)) R G nc ns)) (fun n => rfl) ?_
                    have J36 : ∀ (v35 : Int), (v3 = 0 ∧ v35 = (-1)) ∨ (¬ v3 = 0 ∧ v35 = y) → zW ro 24 174 [some (.ref 6), some (.int (Int32.ofInt (i : Int))), some (.int (Int32.ofInt d)), some (.int (Int32.ofInt y)), some (.ref (42 + i)), some (.int (Int32.ofInt v3)), some (.int (Int32.ofInt (s (42 + i) 4)))] [.int (Int32.ofInt v35), .ref (42 + i)] (zN L X (zhi (zup s (42 + i) 4 d)) R G nc ns) Q := by
                      intro v35 c37
                      refine zW.jput rfl (zk_com (by omega)) rfl ?_
                      refine zW.run 1 (pc' := 179) (ls' := [some (.ref 6), some (.int (Int32.ofInt (i : Int))), some (.int (Int32.ofInt d)), some (.int (Int32.ofInt y)), some (.ref (42 + i)), some (.int (Int32.ofInt v3)), some (.int (Int32.ofInt (s (42 + i) 4)))]) (st' := [.int (Int32.ofInt (s (42 + i) 4))]) (σ' := (zN L X (zhi (zup (zup s (42 + i) 4 d) (42 + i) 5 v35)) R G nc ns)) (fun n => rfl) ?_
                      have V38 : zV g U F T B ph (zup (zup s (42 + i) 4 d) (42 + i) 5 v35) := (V_goal V (by omega) (by omega) (by omega) (by omega) (by omega))
                      generalize hs39 : (zup (zup s (42 + i) 4 d) (42 + i) 5 v35) = s39 at V38 ⊢
                      exact zW.jret rfl rfl (hQ0 (s (42 + i) 4) s39 V38 (by omega))
                    refine zW.jif_eq rfl (by omega) (fun c40 => ?_) (fun c40 => ?_)
                    · skip
                      refine zW.run 1 (pc' := 174) (ls' := [some (.ref 6), some (.int (Int32.ofInt (i : Int))), some (.int (Int32.ofInt d)), some (.int (Int32.ofInt y)), some (.ref (42 + i)), some (.int (Int32.ofInt v3)), some (.int (Int32.ofInt (s (42 + i) 4)))]) (st' := [.int (Int32.ofInt (-1)), .ref (42 + i)]) (σ' := (zN L X (zhi (zup s (42 + i) 4 d)) R G nc ns)) (fun n => rfl) ?_
                      exact J36 (-1) (by omega)
                    · skip
                      refine zW.run 2 (pc' := 174) (ls' := [some (.ref 6), some (.int (Int32.ofInt (i : Int))), some (.int (Int32.ofInt d)), some (.int (Int32.ofInt y)), some (.ref (42 + i)), some (.int (Int32.ofInt v3)), some (.int (Int32.ofInt (s (42 + i) 4)))]) (st' := [.int (Int32.ofInt y), .ref (42 + i)]) (σ' := (zN L X (zhi (zup s (42 + i) 4 d)) R G nc ns)) (fun n => rfl) ?_
                      exact J36 y (by omega)
                  · skip
                    exact zW.thr rfl hQ1
              · skip
                refine zW.run 1 (pc' := 104) (ls' := [some (.ref 6), some (.int (Int32.ofInt (i : Int))), some (.int (Int32.ofInt d)), some (.int (Int32.ofInt y)), some (.ref (42 + i)), some (.int (Int32.ofInt v3)), none]) (st' := [.ref (42 + i)]) (σ' := (zN L X (zhi s) R G nc ns)) (fun n => rfl) ?_
                refine zW.jget (v := (s (42 + i) 0)) rfl (zk_com (by omega)) (fun _ _ _ => rfl) rfl ?_
                refine zW.jif_ne rfl (by omega) (fun c41 => ?_) (fun c41 => ?_)
                · skip
                  refine zW.run 1 (pc' := 121) (ls' := [some (.ref 6), some (.int (Int32.ofInt (i : Int))), some (.int (Int32.ofInt d)), some (.int (Int32.ofInt y)), some (.ref (42 + i)), some (.int (Int32.ofInt v3)), none]) (st' := [.ref 6]) (σ' := (zN L X (zhi s) R G nc ns)) (fun n => rfl) ?_
                  refine zW.getf (v := .ref 7) rfl rfl (zr_6_0 S) ?_
                  refine zW.run 2 (pc' := 128) (ls' := [some (.ref 6), some (.int (Int32.ofInt (i : Int))), some (.int (Int32.ofInt d)), some (.int (Int32.ofInt y)), some (.ref (42 + i)), some (.int (Int32.ofInt v3)), none]) (st' := [.int (Int32.ofInt 1), .int (Int32.ofInt (s 7 11))]) (σ' := (zN L X (zhi s) R G nc ns)) (fun n => rfl) ?_
                  refine zW.jcmp_ne rfl (by omega) (fun c42 => ?_) (fun c42 => ?_)
                  · skip
                    exact zW.thr rfl hQ1
                  · skip
                    refine zW.run 1 (pc' := 133) (ls' := [some (.ref 6), some (.int (Int32.ofInt (i : Int))), some (.int (Int32.ofInt d)), some (.int (Int32.ofInt y)), some (.ref (42 + i)), some (.int (Int32.ofInt v3)), none]) (st' := [.ref (42 + i)]) (σ' := (zN L X (zhi s) R G nc ns)) (fun n => rfl) ?_
                    refine zW.jget (v := (s (42 + i) 2)) rfl (zk_com (by omega)) (fun _ _ _ => rfl) rfl ?_
                    refine zW.jif_ne rfl (by omega) (fun c43 => ?_) (fun c43 => ?_)
                    · skip
                      refine zW.run 1 (pc' := 151) (ls' := [some (.ref 6), some (.int (Int32.ofInt (i : Int))), some (.int (Int32.ofInt d)), some (.int (Int32.ofInt y)), some (.ref (42 + i)), some (.int (Int32.ofInt v3)), none]) (st' := [.ref (42 + i)]) (σ' := (zN L X (zhi s) R G nc ns)) (fun n => rfl) ?_
                      refine zW.jget (v := (s (42 + i) 4)) rfl (zk_com (by omega)) (fun _ _ _ => rfl) rfl ?_
                      refine zW.run 3 (pc' := 159) (ls' := [some (.ref 6), some (.int (Int32.ofInt (i : Int))), some (.int (Int32.ofInt d)), some (.int (Int32.ofInt y)), some (.ref (42 + i)), some (.int (Int32.ofInt v3)), some (.int (Int32.ofInt (s (42 + i) 4)))]) (st' := [.int (Int32.ofInt d), .ref (42 + i)]) (σ' := (zN L X (zhi s) R G nc ns)) (fun n => rfl) ?_
                      refine zW.jput rfl (zk_com (by omega)) rfl ?_
                      refine zW.run 2 (pc' := 166) (ls' := [some (.ref 6), some (.int (Int32.ofInt (i : Int))), some (.int (Int32.ofInt d)), some (.int (Int32.ofInt y)), some (.ref (42 + i)), some (.int (Int32.ofInt v3)), some (.int (Int32.ofInt (s (42 + i) 4)))]) (st' := [.int (Int32.ofInt v3), .ref (42 + i)]) (σ' := (zN L X (zhi (zup s (42 + i) 4 d)) R G nc ns)) (fun n => rfl) ?_
                      have J45 : ∀ (v44 : Int), (v3 = 0 ∧ v44 = (-1)) ∨ (¬ v3 = 0 ∧ v44 = y) → zW ro 24 174 [some (.ref 6), some (.int (Int32.ofInt (i : Int))), some (.int (Int32.ofInt d)), some (.int (Int32.ofInt y)), some (.ref (42 + i)), some (.int (Int32.ofInt v3)), some (.int (Int32.ofInt (s (42 + i) 4)))] [.int (Int32.ofInt v44), .ref (42 + i)] (zN L X (zhi (zup s (42 + i) 4 d)) R G nc ns) Q := by
                        intro v44 c46
                        refine zW.jput rfl (zk_com (by omega)) rfl ?_
                        refine zW.run 1 (pc' := 179) (ls' := [some (.ref 6), some (.int (Int32.ofInt (i : Int))), some (.int (Int32.ofInt d)), some (.int (Int32.ofInt y)), some (.ref (42 + i)), some (.int (Int32.ofInt v3)), some (.int (Int32.ofInt (s (42 + i) 4)))]) (st' := [.int (Int32.ofInt (s (42 + i) 4))]) (σ' := (zN L X (zhi (zup (zup s (42 + i) 4 d) (42 + i) 5 v44)) R G nc ns)) (fun n => rfl) ?_
                        have V47 : zV g U F T B ph (zup (zup s (42 + i) 4 d) (42 + i) 5 v44) := (V_goal V (by omega) (by omega) (by omega) (by omega) (by omega))
                        generalize hs48 : (zup (zup s (42 + i) 4 d) (42 + i) 5 v44) = s48 at V47 ⊢
                        exact zW.jret rfl rfl (hQ0 (s (42 + i) 4) s48 V47 (by omega))
                      refine zW.jif_eq rfl (by omega) (fun c49 => ?_) (fun c49 => ?_)
                      · skip
                        refine zW.run 1 (pc' := 174) (ls' := [some (.ref 6), some (.int (Int32.ofInt (i : Int))), some (.int (Int32.ofInt d)), some (.int (Int32.ofInt y)), some (.ref (42 + i)), some (.int (Int32.ofInt v3)), some (.int (Int32.ofInt (s (42 + i) 4)))]) (st' := [.int (Int32.ofInt (-1)), .ref (42 + i)]) (σ' := (zN L X (zhi (zup s (42 + i) 4 d)) R G nc ns)) (fun n => rfl) ?_
                        exact J45 (-1) (by omega)
                      · skip
                        refine zW.run 2 (pc' := 174) (ls' := [some (.ref 6), some (.int (Int32.ofInt (i : Int))), some (.int (Int32.ofInt d)), some (.int (Int32.ofInt y)), some (.ref (42 + i)), some (.int (Int32.ofInt v3)), some (.int (Int32.ofInt (s (42 + i) 4)))]) (st' := [.int (Int32.ofInt y), .ref (42 + i)]) (σ' := (zN L X (zhi (zup s (42 + i) 4 d)) R G nc ns)) (fun n => rfl) ?_
                        exact J45 y (by omega)
                    · skip
                      exact zW.thr rfl hQ1
                · skip
                  exfalso
                  omega
    · skip
      refine zW.run 1 (pc' := 49) (ls' := [some (.ref 6), some (.int (Int32.ofInt (i : Int))), some (.int (Int32.ofInt d)), some (.int (Int32.ofInt y)), some (.ref (42 + i)), some (.int (Int32.ofInt v3)), none]) (st' := [.ref 6]) (σ' := (zN L X (zhi s) R G nc ns)) (fun n => rfl) ?_
      refine zW.getf (v := .ref 7) rfl rfl (zr_6_0 S) ?_
      refine zW.getf (v := .ref 8) rfl rfl (zr_7_0 S) ?_
      refine zW.run 1 (pc' := 56) (ls' := [some (.ref 6), some (.int (Int32.ofInt (i : Int))), some (.int (Int32.ofInt d)), some (.int (Int32.ofInt y)), some (.ref (42 + i)), some (.int (Int32.ofInt v3)), none]) (st' := [.int (Int32.ofInt y), .ref 8]) (σ' := (zN L X (zhi s) R G nc ns)) (fun n => rfl) ?_
      refine zW.callV rfl (by decide) rfl rfl rfl rfl rfl (Nat.le_of_ble_eq_true rfl) ?_
      refine t_Ground_isOn S (zV_zA V) (x := y) (by omega) (fun f50 f51 => ?_) (fun f52 => ?_)
      · skip
        show zW ro 24 59 [some (.ref 6), some (.int (Int32.ofInt (i : Int))), some (.int (Int32.ofInt d)), some (.int (Int32.ofInt y)), some (.ref (42 + i)), some (.int (Int32.ofInt v3)), none] [.int (Int32.ofInt 1)] (zN L X (zhi s) R G nc ns) Q
        refine zW.run 2 (pc' := 73) (ls' := [some (.ref 6), some (.int (Int32.ofInt (i : Int))), some (.int (Int32.ofInt d)), some (.int (Int32.ofInt y)), some (.ref (42 + i)), some (.int (Int32.ofInt v3)), none]) (st' := [.int (Int32.ofInt d)]) (σ' := (zN L X (zhi s) R G nc ns)) (fun n => rfl) ?_
        refine zW.jif_lt rfl (by omega) (fun c53 => ?_) (fun c53 => ?_)
        · skip
          exfalso
          omega
        · skip
          refine zW.run 2 (pc' := 79) (ls' := [some (.ref 6), some (.int (Int32.ofInt (i : Int))), some (.int (Int32.ofInt d)), some (.int (Int32.ofInt y)), some (.ref (42 + i)), some (.int (Int32.ofInt v3)), none]) (st' := [.int (Int32.ofInt 6), .int (Int32.ofInt d)]) (σ' := (zN L X (zhi s) R G nc ns)) (fun n => rfl) ?_
          refine zW.jcmp_gt rfl (by omega) (fun c54 => ?_) (fun c54 => ?_)
          · skip
            exfalso
            omega
          · skip
            refine zW.run 2 (pc' := 84) (ls' := [some (.ref 6), some (.int (Int32.ofInt (i : Int))), some (.int (Int32.ofInt d)), some (.int (Int32.ofInt y)), some (.ref (42 + i)), some (.int (Int32.ofInt v3)), none]) (st' := [.int (Int32.ofInt 1), .int (Int32.ofInt d)]) (σ' := (zN L X (zhi s) R G nc ns)) (fun n => rfl) ?_
            refine zW.jcmp_ne rfl (by omega) (fun c55 => ?_) (fun c55 => ?_)
            · skip
              refine zW.run 2 (pc' := 99) (ls' := [some (.ref 6), some (.int (Int32.ofInt (i : Int))), some (.int (Int32.ofInt d)), some (.int (Int32.ofInt y)), some (.ref (42 + i)), some (.int (Int32.ofInt v3)), none]) (st' := [.int (Int32.ofInt 6), .int (Int32.ofInt d)]) (σ' := (zN L X (zhi s) R G nc ns)) (fun n => rfl) ?_
              refine zW.jcmp_ne rfl (by omega) (fun c56 => ?_) (fun c56 => ?_)
              · skip
                refine zW.run 1 (pc' := 121) (ls' := [some (.ref 6), some (.int (Int32.ofInt (i : Int))), some (.int (Int32.ofInt d)), some (.int (Int32.ofInt y)), some (.ref (42 + i)), some (.int (Int32.ofInt v3)), none]) (st' := [.ref 6]) (σ' := (zN L X (zhi s) R G nc ns)) (fun n => rfl) ?_
                refine zW.getf (v := .ref 7) rfl rfl (zr_6_0 S) ?_
                refine zW.run 2 (pc' := 128) (ls' := [some (.ref 6), some (.int (Int32.ofInt (i : Int))), some (.int (Int32.ofInt d)), some (.int (Int32.ofInt y)), some (.ref (42 + i)), some (.int (Int32.ofInt v3)), none]) (st' := [.int (Int32.ofInt 1), .int (Int32.ofInt (s 7 11))]) (σ' := (zN L X (zhi s) R G nc ns)) (fun n => rfl) ?_
                refine zW.jcmp_ne rfl (by omega) (fun c57 => ?_) (fun c57 => ?_)
                · skip
                  exact zW.thr rfl hQ1
                · skip
                  refine zW.run 1 (pc' := 133) (ls' := [some (.ref 6), some (.int (Int32.ofInt (i : Int))), some (.int (Int32.ofInt d)), some (.int (Int32.ofInt y)), some (.ref (42 + i)), some (.int (Int32.ofInt v3)), none]) (st' := [.ref (42 + i)]) (σ' := (zN L X (zhi s) R G nc ns)) (fun n => rfl) ?_
                  have f58 := zV_com V (i := i) (by omega)
                  refine zW.jget (v := (s (42 + i) 2)) rfl (zk_com (by omega)) (fun _ _ _ => rfl) rfl ?_
                  refine zW.jif_ne rfl (by omega) (fun c59 => ?_) (fun c59 => ?_)
                  · skip
                    refine zW.run 1 (pc' := 151) (ls' := [some (.ref 6), some (.int (Int32.ofInt (i : Int))), some (.int (Int32.ofInt d)), some (.int (Int32.ofInt y)), some (.ref (42 + i)), some (.int (Int32.ofInt v3)), none]) (st' := [.ref (42 + i)]) (σ' := (zN L X (zhi s) R G nc ns)) (fun n => rfl) ?_
                    refine zW.jget (v := (s (42 + i) 4)) rfl (zk_com (by omega)) (fun _ _ _ => rfl) rfl ?_
                    refine zW.run 3 (pc' := 159) (ls' := [some (.ref 6), some (.int (Int32.ofInt (i : Int))), some (.int (Int32.ofInt d)), some (.int (Int32.ofInt y)), some (.ref (42 + i)), some (.int (Int32.ofInt v3)), some (.int (Int32.ofInt (s (42 + i) 4)))]) (st' := [.int (Int32.ofInt d), .ref (42 + i)]) (σ' := (zN L X (zhi s) R G nc ns)) (fun n => rfl) ?_
                    refine zW.jput rfl (zk_com (by omega)) rfl ?_
                    refine zW.run 2 (pc' := 166) (ls' := [some (.ref 6), some (.int (Int32.ofInt (i : Int))), some (.int (Int32.ofInt d)), some (.int (Int32.ofInt y)), some (.ref (42 + i)), some (.int (Int32.ofInt v3)), some (.int (Int32.ofInt (s (42 + i) 4)))]) (st' := [.int (Int32.ofInt v3), .ref (42 + i)]) (σ' := (zN L X (zhi (zup s (42 + i) 4 d)) R G nc ns)) (fun n => rfl) ?_
                    have J61 : ∀ (v60 : Int), (v3 = 0 ∧ v60 = (-1)) ∨ (¬ v3 = 0 ∧ v60 = y) → zW ro 24 174 [some (.ref 6), some (.int (Int32.ofInt (i : Int))), some (.int (Int32.ofInt d)), some (.int (Int32.ofInt y)), some (.ref (42 + i)), some (.int (Int32.ofInt v3)), some (.int (Int32.ofInt (s (42 + i) 4)))] [.int (Int32.ofInt v60), .ref (42 + i)] (zN L X (zhi (zup s (42 + i) 4 d)) R G nc ns) Q := by
                      intro v60 c62
                      refine zW.jput rfl (zk_com (by omega)) rfl ?_
                      refine zW.run 1 (pc' := 179) (ls' := [some (.ref 6), some (.int (Int32.ofInt (i : Int))), some (.int (Int32.ofInt d)), some (.int (Int32.ofInt y)), some (.ref (42 + i)), some (.int (Int32.ofInt v3)), some (.int (Int32.ofInt (s (42 + i) 4)))]) (st' := [.int (Int32.ofInt (s (42 + i) 4))]) (σ' := (zN L X (zhi (zup (zup s (42 + i) 4 d) (42 + i) 5 v60)) R G nc ns)) (fun n => rfl) ?_
                      have V63 : zV g U F T B ph (zup (zup s (42 + i) 4 d) (42 + i) 5 v60) := (V_goal V (by omega) (by omega) (by omega) (by omega) (by omega))
                      generalize hs64 : (zup (zup s (42 + i) 4 d) (42 + i) 5 v60) = s64 at V63 ⊢
                      exact zW.jret rfl rfl (hQ0 (s (42 + i) 4) s64 V63 (by omega))
                    refine zW.jif_eq rfl (by omega) (fun c65 => ?_) (fun c65 => ?_)
                    · skip
                      refine zW.run 1 (pc' := 174) (ls' := [some (.ref 6), some (.int (Int32.ofInt (i : Int))), some (.int (Int32.ofInt d)), some (.int (Int32.ofInt y)), some (.ref (42 + i)), some (.int (Int32.ofInt v3)), some (.int (Int32.ofInt (s (42 + i) 4)))]) (st' := [.int (Int32.ofInt (-1)), .ref (42 + i)]) (σ' := (zN L X (zhi (zup s (42 + i) 4 d)) R G nc ns)) (fun n => rfl) ?_
                      exact J61 (-1) (by omega)
                    · skip
                      refine zW.run 2 (pc' := 174) (ls' := [some (.ref 6), some (.int (Int32.ofInt (i : Int))), some (.int (Int32.ofInt d)), some (.int (Int32.ofInt y)), some (.ref (42 + i)), some (.int (Int32.ofInt v3)), some (.int (Int32.ofInt (s (42 + i) 4)))]) (st' := [.int (Int32.ofInt y), .ref (42 + i)]) (σ' := (zN L X (zhi (zup s (42 + i) 4 d)) R G nc ns)) (fun n => rfl) ?_
                      exact J61 y (by omega)
                  · skip
                    exact zW.thr rfl hQ1
              · skip
                refine zW.run 1 (pc' := 104) (ls' := [some (.ref 6), some (.int (Int32.ofInt (i : Int))), some (.int (Int32.ofInt d)), some (.int (Int32.ofInt y)), some (.ref (42 + i)), some (.int (Int32.ofInt v3)), none]) (st' := [.ref (42 + i)]) (σ' := (zN L X (zhi s) R G nc ns)) (fun n => rfl) ?_
                have f66 := zV_com V (i := i) (by omega)
                refine zW.jget (v := (s (42 + i) 0)) rfl (zk_com (by omega)) (fun _ _ _ => rfl) rfl ?_
                refine zW.jif_ne rfl (by omega) (fun c67 => ?_) (fun c67 => ?_)
                · skip
                  refine zW.run 1 (pc' := 121) (ls' := [some (.ref 6), some (.int (Int32.ofInt (i : Int))), some (.int (Int32.ofInt d)), some (.int (Int32.ofInt y)), some (.ref (42 + i)), some (.int (Int32.ofInt v3)), none]) (st' := [.ref 6]) (σ' := (zN L X (zhi s) R G nc ns)) (fun n => rfl) ?_
                  refine zW.getf (v := .ref 7) rfl rfl (zr_6_0 S) ?_
                  refine zW.run 2 (pc' := 128) (ls' := [some (.ref 6), some (.int (Int32.ofInt (i : Int))), some (.int (Int32.ofInt d)), some (.int (Int32.ofInt y)), some (.ref (42 + i)), some (.int (Int32.ofInt v3)), none]) (st' := [.int (Int32.ofInt 1), .int (Int32.ofInt (s 7 11))]) (σ' := (zN L X (zhi s) R G nc ns)) (fun n => rfl) ?_
                  refine zW.jcmp_ne rfl (by omega) (fun c68 => ?_) (fun c68 => ?_)
                  · skip
                    exact zW.thr rfl hQ1
                  · skip
                    refine zW.run 1 (pc' := 133) (ls' := [some (.ref 6), some (.int (Int32.ofInt (i : Int))), some (.int (Int32.ofInt d)), some (.int (Int32.ofInt y)), some (.ref (42 + i)), some (.int (Int32.ofInt v3)), none]) (st' := [.ref (42 + i)]) (σ' := (zN L X (zhi s) R G nc ns)) (fun n => rfl) ?_
                    refine zW.jget (v := (s (42 + i) 2)) rfl (zk_com (by omega)) (fun _ _ _ => rfl) rfl ?_
                    refine zW.jif_ne rfl (by omega) (fun c69 => ?_) (fun c69 => ?_)
                    · skip
                      refine zW.run 1 (pc' := 151) (ls' := [some (.ref 6), some (.int (Int32.ofInt (i : Int))), some (.int (Int32.ofInt d)), some (.int (Int32.ofInt y)), some (.ref (42 + i)), some (.int (Int32.ofInt v3)), none]) (st' := [.ref (42 + i)]) (σ' := (zN L X (zhi s) R G nc ns)) (fun n => rfl) ?_
                      refine zW.jget (v := (s (42 + i) 4)) rfl (zk_com (by omega)) (fun _ _ _ => rfl) rfl ?_
                      refine zW.run 3 (pc' := 159) (ls' := [some (.ref 6), some (.int (Int32.ofInt (i : Int))), some (.int (Int32.ofInt d)), some (.int (Int32.ofInt y)), some (.ref (42 + i)), some (.int (Int32.ofInt v3)), some (.int (Int32.ofInt (s (42 + i) 4)))]) (st' := [.int (Int32.ofInt d), .ref (42 + i)]) (σ' := (zN L X (zhi s) R G nc ns)) (fun n => rfl) ?_
                      refine zW.jput rfl (zk_com (by omega)) rfl ?_
                      refine zW.run 2 (pc' := 166) (ls' := [some (.ref 6), some (.int (Int32.ofInt (i : Int))), some (.int (Int32.ofInt d)), some (.int (Int32.ofInt y)), some (.ref (42 + i)), some (.int (Int32.ofInt v3)), some (.int (Int32.ofInt (s (42 + i) 4)))]) (st' := [.int (Int32.ofInt v3), .ref (42 + i)]) (σ' := (zN L X (zhi (zup s (42 + i) 4 d)) R G nc ns)) (fun n => rfl) ?_
                      have J71 : ∀ (v70 : Int), (v3 = 0 ∧ v70 = (-1)) ∨ (¬ v3 = 0 ∧ v70 = y) → zW ro 24 174 [some (.ref 6), some (.int (Int32.ofInt (i : Int))), some (.int (Int32.ofInt d)), some (.int (Int32.ofInt y)), some (.ref (42 + i)), some (.int (Int32.ofInt v3)), some (.int (Int32.ofInt (s (42 + i) 4)))] [.int (Int32.ofInt v70), .ref (42 + i)] (zN L X (zhi (zup s (42 + i) 4 d)) R G nc ns) Q := by
                        intro v70 c72
                        refine zW.jput rfl (zk_com (by omega)) rfl ?_
                        refine zW.run 1 (pc' := 179) (ls' := [some (.ref 6), some (.int (Int32.ofInt (i : Int))), some (.int (Int32.ofInt d)), some (.int (Int32.ofInt y)), some (.ref (42 + i)), some (.int (Int32.ofInt v3)), some (.int (Int32.ofInt (s (42 + i) 4)))]) (st' := [.int (Int32.ofInt (s (42 + i) 4))]) (σ' := (zN L X (zhi (zup (zup s (42 + i) 4 d) (42 + i) 5 v70)) R G nc ns)) (fun n => rfl) ?_
                        have V73 : zV g U F T B ph (zup (zup s (42 + i) 4 d) (42 + i) 5 v70) := (V_goal V (by omega) (by omega) (by omega) (by omega) (by omega))
                        generalize hs74 : (zup (zup s (42 + i) 4 d) (42 + i) 5 v70) = s74 at V73 ⊢
                        exact zW.jret rfl rfl (hQ0 (s (42 + i) 4) s74 V73 (by omega))
                      refine zW.jif_eq rfl (by omega) (fun c75 => ?_) (fun c75 => ?_)
                      · skip
                        refine zW.run 1 (pc' := 174) (ls' := [some (.ref 6), some (.int (Int32.ofInt (i : Int))), some (.int (Int32.ofInt d)), some (.int (Int32.ofInt y)), some (.ref (42 + i)), some (.int (Int32.ofInt v3)), some (.int (Int32.ofInt (s (42 + i) 4)))]) (st' := [.int (Int32.ofInt (-1)), .ref (42 + i)]) (σ' := (zN L X (zhi (zup s (42 + i) 4 d)) R G nc ns)) (fun n => rfl) ?_
                        exact J71 (-1) (by omega)
                      · skip
                        refine zW.run 2 (pc' := 174) (ls' := [some (.ref 6), some (.int (Int32.ofInt (i : Int))), some (.int (Int32.ofInt d)), some (.int (Int32.ofInt y)), some (.ref (42 + i)), some (.int (Int32.ofInt v3)), some (.int (Int32.ofInt (s (42 + i) 4)))]) (st' := [.int (Int32.ofInt y), .ref (42 + i)]) (σ' := (zN L X (zhi (zup s (42 + i) 4 d)) R G nc ns)) (fun n => rfl) ?_
                        exact J71 y (by omega)
                    · skip
                      exact zW.thr rfl hQ1
                · skip
                  exfalso
                  omega
            · skip
              refine zW.run 1 (pc' := 89) (ls' := [some (.ref 6), some (.int (Int32.ofInt (i : Int))), some (.int (Int32.ofInt d)), some (.int (Int32.ofInt y)), some (.ref (42 + i)), some (.int (Int32.ofInt v3)), none]) (st' := [.ref (42 + i)]) (σ' := (zN L X (zhi s) R G nc ns)) (fun n => rfl) ?_
              have f76 := zV_com V (i := i) (by omega)
              refine zW.jget (v := (s (42 + i) 0)) rfl (zk_com (by omega)) (fun _ _ _ => rfl) rfl ?_
              refine zW.run 1 (pc' := 93) (ls' := [some (.ref 6), some (.int (Int32.ofInt (i : Int))), some (.int (Int32.ofInt d)), some (.int (Int32.ofInt y)), some (.ref (42 + i)), some (.int (Int32.ofInt v3)), none]) (st' := [.int (Int32.ofInt 1), .int (Int32.ofInt (s (42 + i) 0))]) (σ' := (zN L X (zhi s) R G nc ns)) (fun n => rfl) ?_
              refine zW.jcmp_eq rfl (by omega) (fun c77 => ?_) (fun c77 => ?_)
              · skip
                exfalso
                omega
              · skip
                refine zW.run 2 (pc' := 99) (ls' := [some (.ref 6), some (.int (Int32.ofInt (i : Int))), some (.int (Int32.ofInt d)), some (.int (Int32.ofInt y)), some (.ref (42 + i)), some (.int (Int32.ofInt v3)), none]) (st' := [.int (Int32.ofInt 6), .int (Int32.ofInt d)]) (σ' := (zN L X (zhi s) R G nc ns)) (fun n => rfl) ?_
                refine zW.jcmp_ne rfl (by omega) (fun c78 => ?_) (fun c78 => ?_)
                · skip
                  refine zW.run 1 (pc' := 121) (ls' := [some (.ref 6), some (.int (Int32.ofInt (i : Int))), some (.int (Int32.ofInt d)), some (.int (Int32.ofInt y)), some (.ref (42 + i)), some (.int (Int32.ofInt v3)), none]) (st' := [.ref 6]) (σ' := (zN L X (zhi s) R G nc ns)) (fun n => rfl) ?_
                  refine zW.getf (v := .ref 7) rfl rfl (zr_6_0 S) ?_
                  refine zW.run 2 (pc' := 128) (ls' := [some (.ref 6), some (.int (Int32.ofInt (i : Int))), some (.int (Int32.ofInt d)), some (.int (Int32.ofInt y)), some (.ref (42 + i)), some (.int (Int32.ofInt v3)), none]) (st' := [.int (Int32.ofInt 1), .int (Int32.ofInt (s 7 11))]) (σ' := (zN L X (zhi s) R G nc ns)) (fun n => rfl) ?_
                  refine zW.jcmp_ne rfl (by omega) (fun c79 => ?_) (fun c79 => ?_)
                  · skip
                    exact zW.thr rfl hQ1
                  · skip
                    refine zW.run 1 (pc' := 133) (ls' := [some (.ref 6), some (.int (Int32.ofInt (i : Int))), some (.int (Int32.ofInt d)), some (.int (Int32.ofInt y)), some (.ref (42 + i)), some (.int (Int32.ofInt v3)), none]) (st' := [.ref (42 + i)]) (σ' := (zN L X (zhi s) R G nc ns)) (fun n => rfl) ?_
                    refine zW.jget (v := (s (42 + i) 2)) rfl (zk_com (by omega)) (fun _ _ _ => rfl) rfl ?_
                    refine zW.jif_ne rfl (by omega) (fun c80 => ?_) (fun c80 => ?_)
                    · skip
                      refine zW.run 1 (pc' := 151) (ls' := [some (.ref 6), some (.int (Int32.ofInt (i : Int))), some (.int (Int32.ofInt d)), some (.int (Int32.ofInt y)), some (.ref (42 + i)), some (.int (Int32.ofInt v3)), none]) (st' := [.ref (42 + i)]) (σ' := (zN L X (zhi s) R G nc ns)) (fun n => rfl) ?_
                      refine zW.jget (v := (s (42 + i) 4)) rfl (zk_com (by omega)) (fun _ _ _ => rfl) rfl ?_
                      refine zW.run 3 (pc' := 159) (ls' := [some (.ref 6), some (.int (Int32.ofInt (i : Int))), some (.int (Int32.ofInt d)), some (.int (Int32.ofInt y)), some (.ref (42 + i)), some (.int (Int32.ofInt v3)), some (.int (Int32.ofInt (s (42 + i) 4)))]) (st' := [.int (Int32.ofInt d), .ref (42 + i)]) (σ' := (zN L X (zhi s) R G nc ns)) (fun n => rfl) ?_
                      refine zW.jput rfl (zk_com (by omega)) rfl ?_
                      refine zW.run 2 (pc' := 166) (ls' := [some (.ref 6), some (.int (Int32.ofInt (i : Int))), some (.int (Int32.ofInt d)), some (.int (Int32.ofInt y)), some (.ref (42 + i)), some (.int (Int32.ofInt v3)), some (.int (Int32.ofInt (s (42 + i) 4)))]) (st' := [.int (Int32.ofInt v3), .ref (42 + i)]) (σ' := (zN L X (zhi (zup s (42 + i) 4 d)) R G nc ns)) (fun n => rfl) ?_
                      have J82 : ∀ (v81 : Int), (v3 = 0 ∧ v81 = (-1)) ∨ (¬ v3 = 0 ∧ v81 = y) → zW ro 24 174 [some (.ref 6), some (.int (Int32.ofInt (i : Int))), some (.int (Int32.ofInt d)), some (.int (Int32.ofInt y)), some (.ref (42 + i)), some (.int (Int32.ofInt v3)), some (.int (Int32.ofInt (s (42 + i) 4)))] [.int (Int32.ofInt v81), .ref (42 + i)] (zN L X (zhi (zup s (42 + i) 4 d)) R G nc ns) Q := by
                        intro v81 c83
                        refine zW.jput rfl (zk_com (by omega)) rfl ?_
                        refine zW.run 1 (pc' := 179) (ls' := [some (.ref 6), some (.int (Int32.ofInt (i : Int))), some (.int (Int32.ofInt d)), some (.int (Int32.ofInt y)), some (.ref (42 + i)), some (.int (Int32.ofInt v3)), some (.int (Int32.ofInt (s (42 + i) 4)))]) (st' := [.int (Int32.ofInt (s (42 + i) 4))]) (σ' := (zN L X (zhi (zup (zup s (42 + i) 4 d) (42 + i) 5 v81)) R G nc ns)) (fun n => rfl) ?_
                        have V84 : zV g U F T B ph (zup (zup s (42 + i) 4 d) (42 + i) 5 v81) := (V_goal V (by omega) (by omega) (by omega) (by omega) (by omega))
                        generalize hs85 : (zup (zup s (42 + i) 4 d) (42 + i) 5 v81) = s85 at V84 ⊢
                        exact zW.jret rfl rfl (hQ0 (s (42 + i) 4) s85 V84 (by omega))
                      refine zW.jif_eq rfl (by omega) (fun c86 => ?_) (fun c86 => ?_)
                      · skip
                        refine zW.run 1 (pc' := 174) (ls' := [some (.ref 6), some (.int (Int32.ofInt (i : Int))), some (.int (Int32.ofInt d)), some (.int (Int32.ofInt y)), some (.ref (42 + i)), some (.int (Int32.ofInt v3)), some (.int (Int32.ofInt (s (42 + i) 4)))]) (st' := [.int (Int32.ofInt (-1)), .ref (42 + i)]) (σ' := (zN L X (zhi (zup s (42 + i) 4 d)) R G nc ns)) (fun n => rfl) ?_
                        exact J82 (-1) (by omega)
                      · skip
                        refine zW.run 2 (pc' := 174) (ls' := [some (.ref 6), some (.int (Int32.ofInt (i : Int))), some (.int (Int32.ofInt d)), some (.int (Int32.ofInt y)), some (.ref (42 + i)), some (.int (Int32.ofInt v3)), some (.int (Int32.ofInt (s (42 + i) 4)))]) (st' := [.int (Int32.ofInt y), .ref (42 + i)]) (σ' := (zN L X (zhi (zup s (42 + i) 4 d)) R G nc ns)) (fun n => rfl) ?_
                        exact J82 y (by omega)
                    · skip
                      exact zW.thr rfl hQ1
                · skip
                  refine zW.run 1 (pc' := 104) (ls' := [some (.ref 6), some (.int (Int32.ofInt (i : Int))), some (.int (Int32.ofInt d)), some (.int (Int32.ofInt y)), some (.ref (42 + i)), some (.int (Int32.ofInt v3)), none]) (st' := [.ref (42 + i)]) (σ' := (zN L X (zhi s) R G nc ns)) (fun n => rfl) ?_
                  refine zW.jget (v := (s (42 + i) 0)) rfl (zk_com (by omega)) (fun _ _ _ => rfl) rfl ?_
                  refine zW.jif_ne rfl (by omega) (fun c87 => ?_) (fun c87 => ?_)
                  · skip
                    refine zW.run 1 (pc' := 121) (ls' := [some (.ref 6), some (.int (Int32.ofInt (i : Int))), some (.int (Int32.ofInt d)), some (.int (Int32.ofInt y)), some (.ref (42 + i)), some (.int (Int32.ofInt v3)), none]) (st' := [.ref 6]) (σ' := (zN L X (zhi s) R G nc ns)) (fun n => rfl) ?_
                    refine zW.getf (v := .ref 7) rfl rfl (zr_6_0 S) ?_
                    refine zW.run 2 (pc' := 128) (ls' := [some (.ref 6), some (.int (Int32.ofInt (i : Int))), some (.int (Int32.ofInt d)), some (.int (Int32.ofInt y)), some (.ref (42 + i)), some (.int (Int32.ofInt v3)), none]) (st' := [.int (Int32.ofInt 1), .int (Int32.ofInt (s 7 11))]) (σ' := (zN L X (zhi s) R G nc ns)) (fun n => rfl) ?_
                    refine zW.jcmp_ne rfl (by omega) (fun c88 => ?_) (fun c88 => ?_)
                    · skip
                      exact zW.thr rfl hQ1
                    · skip
                      refine zW.run 1 (pc' := 133) (ls' := [some (.ref 6), some (.int (Int32.ofInt (i : Int))), some (.int (Int32.ofInt d)), some (.int (Int32.ofInt y)), some (.ref (42 + i)), some (.int (Int32.ofInt v3)), none]) (st' := [.ref (42 + i)]) (σ' := (zN L X (zhi s) R G nc ns)) (fun n => rfl) ?_
                      refine zW.jget (v := (s (42 + i) 2)) rfl (zk_com (by omega)) (fun _ _ _ => rfl) rfl ?_
                      refine zW.jif_ne rfl (by omega) (fun c89 => ?_) (fun c89 => ?_)
                      · skip
                        refine zW.run 1 (pc' := 151) (ls' := [some (.ref 6), some (.int (Int32.ofInt (i : Int))), some (.int (Int32.ofInt d)), some (.int (Int32.ofInt y)), some (.ref (42 + i)), some (.int (Int32.ofInt v3)), none]) (st' := [.ref (42 + i)]) (σ' := (zN L X (zhi s) R G nc ns)) (fun n => rfl) ?_
                        refine zW.jget (v := (s (42 + i) 4)) rfl (zk_com (by omega)) (fun _ _ _ => rfl) rfl ?_
                        refine zW.run 3 (pc' := 159) (ls' := [some (.ref 6), some (.int (Int32.ofInt (i : Int))), some (.int (Int32.ofInt d)), some (.int (Int32.ofInt y)), some (.ref (42 + i)), some (.int (Int32.ofInt v3)), some (.int (Int32.ofInt (s (42 + i) 4)))]) (st' := [.int (Int32.ofInt d), .ref (42 + i)]) (σ' := (zN L X (zhi s) R G nc ns)) (fun n => rfl) ?_
                        refine zW.jput rfl (zk_com (by omega)) rfl ?_
                        refine zW.run 2 (pc' := 166) (ls' := [some (.ref 6), some (.int (Int32.ofInt (i : Int))), some (.int (Int32.ofInt d)), some (.int (Int32.ofInt y)), some (.ref (42 + i)), some (.int (Int32.ofInt v3)), some (.int (Int32.ofInt (s (42 + i) 4)))]) (st' := [.int (Int32.ofInt v3), .ref (42 + i)]) (σ' := (zN L X (zhi (zup s (42 + i) 4 d)) R G nc ns)) (fun n => rfl) ?_
                        have J91 : ∀ (v90 : Int), (v3 = 0 ∧ v90 = (-1)) ∨ (¬ v3 = 0 ∧ v90 = y) → zW ro 24 174 [some (.ref 6), some (.int (Int32.ofInt (i : Int))), some (.int (Int32.ofInt d)), some (.int (Int32.ofInt y)), some (.ref (42 + i)), some (.int (Int32.ofInt v3)), some (.int (Int32.ofInt (s (42 + i) 4)))] [.int (Int32.ofInt v90), .ref (42 + i)] (zN L X (zhi (zup s (42 + i) 4 d)) R G nc ns) Q := by
                          intro v90 c92
                          refine zW.jput rfl (zk_com (by omega)) rfl ?_
                          refine zW.run 1 (pc' := 179) (ls' := [some (.ref 6), some (.int (Int32.ofInt (i : Int))), some (.int (Int32.ofInt d)), some (.int (Int32.ofInt y)), some (.ref (42 + i)), some (.int (Int32.ofInt v3)), some (.int (Int32.ofInt (s (42 + i) 4)))]) (st' := [.int (Int32.ofInt (s (42 + i) 4))]) (σ' := (zN L X (zhi (zup (zup s (42 + i) 4 d) (42 + i) 5 v90)) R G nc ns)) (fun n => rfl) ?_
                          have V93 : zV g U F T B ph (zup (zup s (42 + i) 4 d) (42 + i) 5 v90) := (V_goal V (by omega) (by omega) (by omega) (by omega) (by omega))
                          generalize hs94 : (zup (zup s (42 + i) 4 d) (42 + i) 5 v90) = s94 at V93 ⊢
                          exact zW.jret rfl rfl (hQ0 (s (42 + i) 4) s94 V93 (by omega))
                        refine zW.jif_eq rfl (by omega) (fun c95 => ?_) (fun c95 => ?_)
                        · skip
                          refine zW.run 1 (pc' := 174) (ls' := [some (.ref 6), some (.int (Int32.ofInt (i : Int))), some (.int (Int32.ofInt d)), some (.int (Int32.ofInt y)), some (.ref (42 + i)), some (.int (Int32.ofInt v3)), some (.int (Int32.ofInt (s (42 + i) 4)))]) (st' := [.int (Int32.ofInt (-1)), .ref (42 + i)]) (σ' := (zN L X (zhi (zup s (42 + i) 4 d)) R G nc ns)) (fun n => rfl) ?_
                          exact J91 (-1) (by omega)
                        · skip
                          refine zW.run 2 (pc' := 174) (ls' := [some (.ref 6), some (.int (Int32.ofInt (i : Int))), some (.int (Int32.ofInt d)), some (.int (Int32.ofInt y)), some (.ref (42 + i)), some (.int (Int32.ofInt v3)), some (.int (Int32.ofInt (s (42 + i) 4)))]) (st' := [.int (Int32.ofInt y), .ref (42 + i)]) (σ' := (zN L X (zhi (zup s (42 + i) 4 d)) R G nc ns)) (fun n => rfl) ?_
                          exact J91 y (by omega)
                      · skip
                        exact zW.thr rfl hQ1
                  · skip
                    exfalso
                    omega
      · skip
        show zW ro 24 59 [some (.ref 6), some (.int (Int32.ofInt (i : Int))), some (.int (Int32.ofInt d)), some (.int (Int32.ofInt y)), some (.ref (42 + i)), some (.int (Int32.ofInt v3)), none] [.int (Int32.ofInt 0)] (zN L X (zhi s) R G nc ns) Q
        refine zW.run 1 (pc' := 62) (ls' := [some (.ref 6), some (.int (Int32.ofInt (i : Int))), some (.int (Int32.ofInt d)), some (.int (Int32.ofInt y)), some (.ref (42 + i)), some (.int (Int32.ofInt v3)), none]) (st' := []) (σ' := (zN L X (zhi s) R G nc ns)) (fun n => rfl) ?_
        exfalso
        omega
  refine zW.jcmp_eq rfl (by omega) (fun c96 => ?_) (fun c96 => ?_)
  · skip
    refine zW.run 2 (pc' := 36) (ls' := [some (.ref 6), some (.int (Int32.ofInt (i : Int))), some (.int (Int32.ofInt d)), some (.int (Int32.ofInt y)), some (.ref (42 + i)), none, none]) (st' := [.int (Int32.ofInt 1)]) (σ' := (zN L X (zhi s) R G nc ns)) (fun n => rfl) ?_
    exact J4 1 (by omega)
  · skip
    refine zW.run 2 (pc' := 17) (ls' := [some (.ref 6), some (.int (Int32.ofInt (i : Int))), some (.int (Int32.ofInt d)), some (.int (Int32.ofInt y)), some (.ref (42 + i)), none, none]) (st' := [.int (Int32.ofInt 4), .int (Int32.ofInt d)]) (σ' := (zN L X (zhi s) R G nc ns)) (fun n => rfl) ?_
    refine zW.jcmp_eq rfl (by omega) (fun c97 => ?_) (fun c97 => ?_)
    · skip
      refine zW.run 2 (pc' := 36) (ls' := [some (.ref 6), some (.int (Int32.ofInt (i : Int))), some (.int (Int32.ofInt d)), some (.int (Int32.ofInt y)), some (.ref (42 + i)), none, none]) (st' := [.int (Int32.ofInt 1)]) (σ' := (zN L X (zhi s) R G nc ns)) (fun n => rfl) ?_
      exact J4 1 (by omega)
    · skip
      refine zW.run 2 (pc' := 22) (ls' := [some (.ref 6), some (.int (Int32.ofInt (i : Int))), some (.int (Int32.ofInt d)), some (.int (Int32.ofInt y)), some (.ref (42 + i)), none, none]) (st' := [.int (Int32.ofInt 5), .int (Int32.ofInt d)]) (σ' := (zN L X (zhi s) R G nc ns)) (fun n => rfl) ?_
      refine zW.jcmp_eq rfl (by omega) (fun c98 => ?_) (fun c98 => ?_)
      · skip
        refine zW.run 2 (pc' := 36) (ls' := [some (.ref 6), some (.int (Int32.ofInt (i : Int))), some (.int (Int32.ofInt d)), some (.int (Int32.ofInt y)), some (.ref (42 + i)), none, none]) (st' := [.int (Int32.ofInt 1)]) (σ' := (zN L X (zhi s) R G nc ns)) (fun n => rfl) ?_
        exact J4 1 (by omega)
      · skip
        refine zW.run 2 (pc' := 28) (ls' := [some (.ref 6), some (.int (Int32.ofInt (i : Int))), some (.int (Int32.ofInt d)), some (.int (Int32.ofInt y)), some (.ref (42 + i)), none, none]) (st' := [.int (Int32.ofInt 6), .int (Int32.ofInt d)]) (σ' := (zN L X (zhi s) R G nc ns)) (fun n => rfl) ?_
        refine zW.jcmp_ne rfl (by omega) (fun c99 => ?_) (fun c99 => ?_)
        · skip
          refine zW.run 1 (pc' := 36) (ls' := [some (.ref 6), some (.int (Int32.ofInt (i : Int))), some (.int (Int32.ofInt d)), some (.int (Int32.ofInt y)), some (.ref (42 + i)), none, none]) (st' := [.int (Int32.ofInt 0)]) (σ' := (zN L X (zhi s) R G nc ns)) (fun n => rfl) ?_
          exact J4 0 (by omega)
        · skip
          refine zW.run 2 (pc' := 36) (ls' := [some (.ref 6), some (.int (Int32.ofInt (i : Int))), some (.int (Int32.ofInt d)), some (.int (Int32.ofInt y)), some (.ref (42 + i)), none, none]) (st' := [.int (Int32.ofInt 1)]) (σ' := (zN L X (zhi s) R G nc ns)) (fun n => rfl) ?_
          exact J4 1 (by omega)
set_option maxHeartbeats 4000000 in
theorem t_S_haul (S : zSR R) (V : zV g U F T B ph s) {i : Nat} {y : Int} (p0 : i < 6) (p1 : 0 ≤ y ∧ y < g 2) (hQ0 : ∀ (v : Int) (s1 : zJ), zV g U F T B ph s1 → ph = 1 → Q (.inl (some (.int (Int32.ofInt v)))) (zN L X (zhi s1) R G nc ns)) (hQ1 : Q (.inr 86) (zN L X (zhi s) R G (nc + 1) (ns + 6))) : zW ro 8 0 (zfst [.ref 6, .int (Int32.ofInt (i : Int)), .int (Int32.ofInt y)] 5) [] (zN L X (zhi s) R G nc ns) Q := by
  show zW ro 8 0 [some (.ref 6), some (.int (Int32.ofInt (i : Int))), some (.int (Int32.ofInt y)), none, none] [] (zN L X (zhi s) R G nc ns) Q
  have f1 := zA_geo (zV_zA V)
  have hB0 := zV_B V
  have f2 := zV_sie V
  refine zW.run 1 (pc' := 1) (ls' := [some (.ref 6), some (.int (Int32.ofInt (i : Int))), some (.int (Int32.ofInt y)), none, none]) (st' := [.ref 6]) (σ' := (zN L X (zhi s) R G nc ns)) (fun n => rfl) ?_
  refine zW.getf (v := .ref 7) rfl rfl (zr_6_0 S) ?_
  refine zW.run 1 (pc' := 5) (ls' := [some (.ref 6), some (.int (Int32.ofInt (i : Int))), some (.int (Int32.ofInt y)), none, none]) (st' := [.int (Int32.ofInt (i : Int)), .ref 7]) (σ' := (zN L X (zhi s) R G nc ns)) (fun n => rfl) ?_
  refine zW.callV rfl (by decide) rfl rfl rfl rfl rfl (Nat.le_of_ble_eq_true rfl) ?_
  refine t_Siege_gunAt S V (i := i) (by omega) ?_
  show zW ro 8 8 [some (.ref 6), some (.int (Int32.ofInt (i : Int))), some (.int (Int32.ofInt y)), none, none] [.ref (26 + i)] (zN L X (zhi s) R G nc ns) Q
  refine zW.run 4 (pc' := 14) (ls' := [some (.ref 6), some (.int (Int32.ofInt (i : Int))), some (.int (Int32.ofInt y)), some (.ref (26 + i)), none]) (st' := [.ref 6]) (σ' := (zN L X (zhi s) R G nc ns)) (fun n => rfl) ?_
  refine zW.getf (v := .ref 7) rfl rfl (zr_6_0 S) ?_
  refine zW.getf (v := .ref 8) rfl rfl (zr_7_0 S) ?_
  refine zW.run 1 (pc' := 21) (ls' := [some (.ref 6), some (.int (Int32.ofInt (i : Int))), some (.int (Int32.ofInt y)), some (.ref (26 + i)), none]) (st' := [.int (Int32.ofInt y), .ref 8]) (σ' := (zN L X (zhi s) R G nc ns)) (fun n => rfl) ?_
  refine zW.callV rfl (by decide) rfl rfl rfl rfl rfl (Nat.le_of_ble_eq_true rfl) ?_
  refine t_Ground_isOn S (zV_zA V) (x := y) (by omega) (fun f3 f4 => ?_) (fun f5 => ?_)
  · skip
    show zW ro 8 24 [some (.ref 6), some (.int (Int32.ofInt (i : Int))), some (.int (Int32.ofInt y)), some (.ref (26 + i)), none] [.int (Int32.ofInt 1)] (zN L X (zhi s) R G nc ns) Q
    refine zW.run 2 (pc' := 38) (ls' := [some (.ref 6), some (.int (Int32.ofInt (i : Int))), some (.int (Int32.ofInt y)), some (.ref (26 + i)), none]) (st' := [.ref 6]) (σ' := (zN L X (zhi s) R G nc ns)) (fun n => rfl) ?_
    refine zW.getf (v := .ref 7) rfl rfl (zr_6_0 S) ?_
    refine zW.run 2 (pc' := 45) (ls' := [some (.ref 6), some (.int (Int32.ofInt (i : Int))), some (.int (Int32.ofInt y)), some (.ref (26 + i)), none]) (st' := [.int (Int32.ofInt 1), .int (Int32.ofInt (s 7 11))]) (σ' := (zN L X (zhi s) R G nc ns)) (fun n => rfl) ?_
    refine zW.jcmp_ne rfl (by omega) (fun c6 => ?_) (fun c6 => ?_)
    · skip
      exact zW.thr rfl hQ1
    · skip
      refine zW.run 1 (pc' := 49) (ls' := [some (.ref 6), some (.int (Int32.ofInt (i : Int))), some (.int (Int32.ofInt y)), some (.ref (26 + i)), none]) (st' := [.ref 6]) (σ' := (zN L X (zhi s) R G nc ns)) (fun n => rfl) ?_
      refine zW.getf (v := .ref 7) rfl rfl (zr_6_0 S) ?_
      refine zW.getf (v := .ref 8) rfl rfl (zr_7_0 S) ?_
      refine zW.run 1 (pc' := 56) (ls' := [some (.ref 6), some (.int (Int32.ofInt (i : Int))), some (.int (Int32.ofInt y)), some (.ref (26 + i)), none]) (st' := [.ref (26 + i), .ref 8]) (σ' := (zN L X (zhi s) R G nc ns)) (fun n => rfl) ?_
      have f7 := zV_gun V (i := i) (by omega)
      refine zW.jget (v := (s (26 + i) 1)) rfl (zk_gun (by omega)) (fun _ _ _ => rfl) rfl ?_
      refine zW.run 1 (pc' := 60) (ls' := [some (.ref 6), some (.int (Int32.ofInt (i : Int))), some (.int (Int32.ofInt y)), some (.ref (26 + i)), none]) (st' := [.int (Int32.ofInt y), .int (Int32.ofInt (s (26 + i) 1)), .ref 8]) (σ' := (zN L X (zhi s) R G nc ns)) (fun n => rfl) ?_
      refine zW.callV rfl (by decide) rfl rfl rfl rfl rfl (Nat.le_of_ble_eq_true rfl) ?_
      refine t_Ground_touches S (zV_zA V) (a := (s (26 + i) 1)) (b := y) (by omega) (by omega) (fun f8 f9 => ?_) ?_
      · skip
        show zW ro 8 63 [some (.ref 6), some (.int (Int32.ofInt (i : Int))), some (.int (Int32.ofInt y)), some (.ref (26 + i)), none] [.int (Int32.ofInt 1)] (zN L X (zhi s) R G nc ns) Q
        refine zW.run 2 (pc' := 67) (ls' := [some (.ref 6), some (.int (Int32.ofInt (i : Int))), some (.int (Int32.ofInt y)), some (.ref (26 + i)), none]) (st' := [.ref 6]) (σ' := (zN L X (zhi s) R G nc ns)) (fun n => rfl) ?_
        refine zW.getf (v := .ref 7) rfl rfl (zr_6_0 S) ?_
        refine zW.getf (v := .ref 8) rfl rfl (zr_7_0 S) ?_
        refine zW.run 1 (pc' := 74) (ls' := [some (.ref 6), some (.int (Int32.ofInt (i : Int))), some (.int (Int32.ofInt y)), some (.ref (26 + i)), none]) (st' := [.int (Int32.ofInt y), .ref 8]) (σ' := (zN L X (zhi s) R G nc ns)) (fun n => rfl) ?_
        refine zW.callV rfl (by decide) rfl rfl rfl rfl rfl (Nat.le_of_ble_eq_true rfl) ?_
        refine t_Ground_workOf S V (x := y) (by omega) (fun v_10 f11 f12 => ?_)
        show zW ro 8 77 [some (.ref 6), some (.int (Int32.ofInt (i : Int))), some (.int (Int32.ofInt y)), some (.ref (26 + i)), none] [.int (Int32.ofInt v_10)] (zN L X (zhi s) R G nc ns) Q
        refine zW.callS rfl rfl rfl rfl rfl (Nat.le_of_ble_eq_true rfl) ?_
        refine t_S_isNoGunWork S (x := v_10) (by omega) ?_ ?_
        · skip
          show zW ro 8 80 [some (.ref 6), some (.int (Int32.ofInt (i : Int))), some (.int (Int32.ofInt y)), some (.ref (26 + i)), none] [.int (Int32.ofInt 1)] (zN L X (zhi s) R G nc ns) Q
          refine zW.run 1 (pc' := 83) (ls' := [some (.ref 6), some (.int (Int32.ofInt (i : Int))), some (.int (Int32.ofInt y)), some (.ref (26 + i)), none]) (st' := []) (σ' := (zN L X (zhi s) R G nc ns)) (fun n => rfl) ?_
          exact zW.thr rfl hQ1
        · skip
          show zW ro 8 80 [some (.ref 6), some (.int (Int32.ofInt (i : Int))), some (.int (Int32.ofInt y)), some (.ref (26 + i)), none] [.int (Int32.ofInt 0)] (zN L X (zhi s) R G nc ns) Q
          refine zW.run 2 (pc' := 94) (ls' := [some (.ref 6), some (.int (Int32.ofInt (i : Int))), some (.int (Int32.ofInt y)), some (.ref (26 + i)), none]) (st' := [.ref 6]) (σ' := (zN L X (zhi s) R G nc ns)) (fun n => rfl) ?_
          refine zW.getf (v := .ref 7) rfl rfl (zr_6_0 S) ?_
          refine zW.run 1 (pc' := 98) (ls' := [some (.ref 6), some (.int (Int32.ofInt (i : Int))), some (.int (Int32.ofInt y)), some (.ref (26 + i)), none]) (st' := [.ref (26 + i), .ref 7]) (σ' := (zN L X (zhi s) R G nc ns)) (fun n => rfl) ?_
          refine zW.jget (v := (s (26 + i) 0)) rfl (zk_gun (by omega)) (fun _ _ _ => rfl) rfl ?_
          refine zW.run 1 (pc' := 102) (ls' := [some (.ref 6), some (.int (Int32.ofInt (i : Int))), some (.int (Int32.ofInt y)), some (.ref (26 + i)), none]) (st' := [.int (Int32.ofInt y), .int (Int32.ofInt (s (26 + i) 0)), .ref 7]) (σ' := (zN L X (zhi s) R G nc ns)) (fun n => rfl) ?_
          refine zW.callV rfl (by decide) rfl rfl rfl rfl rfl (Nat.le_of_ble_eq_true rfl) ?_
          refine t_Siege_freshCompanyAt S V (x := (s (26 + i) 0)) (y := y) (by omega) (by omega) (fun i_13 f14 f15 f16 f17 => ?_) ?_
          · skip
            show zW ro 8 105 [some (.ref 6), some (.int (Int32.ofInt (i : Int))), some (.int (Int32.ofInt y)), some (.ref (26 + i)), none] [.ref (42 + i_13)] (zN L X (zhi s) R G nc ns) Q
            refine zW.run 5 (pc' := 125) (ls' := [some (.ref 6), some (.int (Int32.ofInt (i : Int))), some (.int (Int32.ofInt y)), some (.ref (26 + i)), some (.ref (42 + i_13))]) (st' := [.ref (42 + i_13), .ref (42 + i_13)]) (σ' := (zN L X (zhi s) R G nc ns)) (fun n => rfl) ?_
            have f18 := zV_com V (i := i_13) (by omega)
            refine zW.jget (v := (s (42 + i_13) 3)) rfl (zk_com (by omega)) (fun _ _ _ => rfl) rfl ?_
            refine zW.run 1 (pc' := 129) (ls' := [some (.ref 6), some (.int (Int32.ofInt (i : Int))), some (.int (Int32.ofInt y)), some (.ref (26 + i)), some (.ref (42 + i_13))]) (st' := [.int (Int32.ofInt 2), .int (Int32.ofInt (s (42 + i_13) 3)), .ref (42 + i_13)]) (σ' := (zN L X (zhi s) R G nc ns)) (fun n => rfl) ?_
            refine zW.jadd rfl ?_
            refine zW.jput rfl (zk_com (by omega)) rfl ?_
            refine zW.run 2 (pc' := 135) (ls' := [some (.ref 6), some (.int (Int32.ofInt (i : Int))), some (.int (Int32.ofInt y)), some (.ref (26 + i)), some (.ref (42 + i_13))]) (st' := [.int (Int32.ofInt y), .ref (26 + i)]) (σ' := (zN L X (zhi (zup s (42 + i_13) 3 ((s (42 + i_13) 3) + 2))) R G nc ns)) (fun n => rfl) ?_
            refine zW.jput rfl (zk_gun (by omega)) rfl ?_
            refine zW.run 2 (pc' := 140) (ls' := [some (.ref 6), some (.int (Int32.ofInt (i : Int))), some (.int (Int32.ofInt y)), some (.ref (26 + i)), some (.ref (42 + i_13))]) (st' := [.int (Int32.ofInt (-1)), .ref (26 + i)]) (σ' := (zN L X (zhi (zup (zup s (42 + i_13) 3 ((s (42 + i_13) 3) + 2)) (26 + i) 1 y)) R G nc ns)) (fun n => rfl) ?_
            refine zW.jput rfl (zk_gun (by omega)) rfl ?_
            refine zW.run 1 (pc' := 145) (ls' := [some (.ref 6), some (.int (Int32.ofInt (i : Int))), some (.int (Int32.ofInt y)), some (.ref (26 + i)), some (.ref (42 + i_13))]) (st' := [.ref (42 + i_13)]) (σ' := (zN L X (zhi (zup (zup (zup s (42 + i_13) 3 ((s (42 + i_13) 3) + 2)) (26 + i) 1 y) (26 + i) 6 (-1))) R G nc ns)) (fun n => rfl) ?_
            refine zW.jget (v := ((s (42 + i_13) 3) + 2)) rfl (zk_com (by omega)) (fun _ _ _ => rfl) ((zup_nj (by omega)).trans ((zup_nj (by omega)).trans zup_ej)) ?_
            have V19 : zV g U F T B ph (zup (zup (zup s (42 + i_13) 3 ((s (42 + i_13) 3) + 2)) (26 + i) 1 y) (26 + i) 6 (-1)) := (V_haul V (by omega) (by omega) (by omega) (by omega))
            generalize hs20 : (zup (zup (zup s (42 + i_13) 3 ((s (42 + i_13) 3) + 2)) (26 + i) 1 y) (26 + i) 6 (-1)) = s20 at V19 ⊢
            exact zW.jret rfl rfl (hQ0 ((s (42 + i_13) 3) + 2) s20 V19 (by omega))
          · skip
            show zW ro 8 105 [some (.ref 6), some (.int (Int32.ofInt (i : Int))), some (.int (Int32.ofInt y)), some (.ref (26 + i)), none] [.null] (zN L X (zhi s) R G nc ns) Q
            refine zW.run 3 (pc' := 112) (ls' := [some (.ref 6), some (.int (Int32.ofInt (i : Int))), some (.int (Int32.ofInt y)), some (.ref (26 + i)), some (.null)]) (st' := []) (σ' := (zN L X (zhi s) R G nc ns)) (fun n => rfl) ?_
            exact zW.thr rfl hQ1
      · skip
        show zW ro 8 63 [some (.ref 6), some (.int (Int32.ofInt (i : Int))), some (.int (Int32.ofInt y)), some (.ref (26 + i)), none] [.int (Int32.ofInt 0)] (zN L X (zhi s) R G nc ns) Q
        refine zW.run 1 (pc' := 83) (ls' := [some (.ref 6), some (.int (Int32.ofInt (i : Int))), some (.int (Int32.ofInt y)), some (.ref (26 + i)), none]) (st' := []) (σ' := (zN L X (zhi s) R G nc ns)) (fun n => rfl) ?_
        exact zW.thr rfl hQ1
  · skip
    show zW ro 8 24 [some (.ref 6), some (.int (Int32.ofInt (i : Int))), some (.int (Int32.ofInt y)), some (.ref (26 + i)), none] [.int (Int32.ofInt 0)] (zN L X (zhi s) R G nc ns) Q
    refine zW.run 1 (pc' := 27) (ls' := [some (.ref 6), some (.int (Int32.ofInt (i : Int))), some (.int (Int32.ofInt y)), some (.ref (26 + i)), none]) (st' := []) (σ' := (zN L X (zhi s) R G nc ns)) (fun n => rfl) ?_
    exfalso
    omega
set_option maxHeartbeats 4000000 in
theorem t_S_right (S : zSR R) (V : zV g U F T B ph s) {i : Nat} (p0 : i < 6) (hQ0 : ∀ (v : Int) (s1 : zJ), zV g U F T B ph s1 → ph = 1 → Q (.inl (some (.int (Int32.ofInt v)))) (zN L X (zhi s1) R G nc ns)) (hQ1 : Q (.inr 86) (zN L X (zhi s) R G (nc + 1) (ns + 6))) : zW ro 26 0 (zfst [.ref 6, .int (Int32.ofInt (i : Int))] 4) [] (zN L X (zhi s) R G nc ns) Q := by
  show zW ro 26 0 [some (.ref 6), some (.int (Int32.ofInt (i : Int))), none, none] [] (zN L X (zhi s) R G nc ns) Q
  have f1 := zA_geo (zV_zA V)
  have hB0 := zV_B V
  have f2 := zV_sie V
  refine zW.run 1 (pc' := 1) (ls' := [some (.ref 6), some (.int (Int32.ofInt (i : Int))), none, none]) (st' := [.ref 6]) (σ' := (zN L X (zhi s) R G nc ns)) (fun n => rfl) ?_
  refine zW.getf (v := .ref 7) rfl rfl (zr_6_0 S) ?_
  refine zW.run 1 (pc' := 5) (ls' := [some (.ref 6), some (.int (Int32.ofInt (i : Int))), none, none]) (st' := [.int (Int32.ofInt (i : Int)), .ref 7]) (σ' := (zN L X (zhi s) R G nc ns)) (fun n => rfl) ?_
  refine zW.callV rfl (by decide) rfl rfl rfl rfl rfl (Nat.le_of_ble_eq_true rfl) ?_
  refine t_Siege_gunAt S V (i := i) (by omega) ?_
  show zW ro 26 8 [some (.ref 6), some (.int (Int32.ofInt (i : Int))), none, none] [.ref (26 + i)] (zN L X (zhi s) R G nc ns) Q
  refine zW.run 4 (pc' := 24) (ls' := [some (.ref 6), some (.int (Int32.ofInt (i : Int))), some (.ref (26 + i)), none]) (st' := [.ref 6]) (σ' := (zN L X (zhi s) R G nc ns)) (fun n => rfl) ?_
  refine zW.getf (v := .ref 7) rfl rfl (zr_6_0 S) ?_
  refine zW.run 2 (pc' := 31) (ls' := [some (.ref 6), some (.int (Int32.ofInt (i : Int))), some (.ref (26 + i)), none]) (st' := [.int (Int32.ofInt 1), .int (Int32.ofInt (s 7 11))]) (σ' := (zN L X (zhi s) R G nc ns)) (fun n => rfl) ?_
  refine zW.jcmp_ne rfl (by omega) (fun c3 => ?_) (fun c3 => ?_)
  · skip
    exact zW.thr rfl hQ1
  · skip
    refine zW.run 1 (pc' := 35) (ls' := [some (.ref 6), some (.int (Int32.ofInt (i : Int))), some (.ref (26 + i)), none]) (st' := [.ref (26 + i)]) (σ' := (zN L X (zhi s) R G nc ns)) (fun n => rfl) ?_
    have f4 := zV_gun V (i := i) (by omega)
    refine zW.jget (v := (s (26 + i) 5)) rfl (zk_gun (by omega)) (fun _ _ _ => rfl) rfl ?_
    refine zW.jif_ne rfl (by omega) (fun c5 => ?_) (fun c5 => ?_)
    · skip
      refine zW.run 1 (pc' := 52) (ls' := [some (.ref 6), some (.int (Int32.ofInt (i : Int))), some (.ref (26 + i)), none]) (st' := [.ref 6]) (σ' := (zN L X (zhi s) R G nc ns)) (fun n => rfl) ?_
      refine zW.getf (v := .ref 7) rfl rfl (zr_6_0 S) ?_
      refine zW.run 1 (pc' := 56) (ls' := [some (.ref 6), some (.int (Int32.ofInt (i : Int))), some (.ref (26 + i)), none]) (st' := [.ref (26 + i), .ref 7]) (σ' := (zN L X (zhi s) R G nc ns)) (fun n => rfl) ?_
      refine zW.jget (v := (s (26 + i) 0)) rfl (zk_gun (by omega)) (fun _ _ _ => rfl) rfl ?_
      refine zW.run 1 (pc' := 60) (ls' := [some (.ref 6), some (.int (Int32.ofInt (i : Int))), some (.ref (26 + i)), none]) (st' := [.ref (26 + i), .int (Int32.ofInt (s (26 + i) 0)), .ref 7]) (σ' := (zN L X (zhi s) R G nc ns)) (fun n => rfl) ?_
      refine zW.jget (v := (s (26 + i) 1)) rfl (zk_gun (by omega)) (fun _ _ _ => rfl) rfl ?_
      refine zW.callV rfl (by decide) rfl rfl rfl rfl rfl (Nat.le_of_ble_eq_true rfl) ?_
      refine t_Siege_freshCompanyAt S V (x := (s (26 + i) 0)) (y := (s (26 + i) 1)) (by omega) (by omega) (fun i_6 f7 f8 f9 f10 => ?_) ?_
      · skip
        show zW ro 26 66 [some (.ref 6), some (.int (Int32.ofInt (i : Int))), some (.ref (26 + i)), none] [.ref (42 + i_6)] (zN L X (zhi s) R G nc ns) Q
        refine zW.run 5 (pc' := 83) (ls' := [some (.ref 6), some (.int (Int32.ofInt (i : Int))), some (.ref (26 + i)), some (.ref (42 + i_6))]) (st' := [.ref (42 + i_6), .ref (42 + i_6)]) (σ' := (zN L X (zhi s) R G nc ns)) (fun n => rfl) ?_
        have f11 := zV_com V (i := i_6) (by omega)
        refine zW.jget (v := (s (42 + i_6) 3)) rfl (zk_com (by omega)) (fun _ _ _ => rfl) rfl ?_
        refine zW.run 1 (pc' := 87) (ls' := [some (.ref 6), some (.int (Int32.ofInt (i : Int))), some (.ref (26 + i)), some (.ref (42 + i_6))]) (st' := [.int (Int32.ofInt 4), .int (Int32.ofInt (s (42 + i_6) 3)), .ref (42 + i_6)]) (σ' := (zN L X (zhi s) R G nc ns)) (fun n => rfl) ?_
        refine zW.jadd rfl ?_
        refine zW.jput rfl (zk_com (by omega)) rfl ?_
        refine zW.run 2 (pc' := 93) (ls' := [some (.ref 6), some (.int (Int32.ofInt (i : Int))), some (.ref (26 + i)), some (.ref (42 + i_6))]) (st' := [.int (Int32.ofInt 0), .ref (26 + i)]) (σ' := (zN L X (zhi (zup s (42 + i_6) 3 ((s (42 + i_6) 3) + 4))) R G nc ns)) (fun n => rfl) ?_
        refine zW.jput rfl (zk_gun (by omega)) rfl ?_
        refine zW.run 2 (pc' := 98) (ls' := [some (.ref 6), some (.int (Int32.ofInt (i : Int))), some (.ref (26 + i)), some (.ref (42 + i_6))]) (st' := [.int (Int32.ofInt 0), .ref (26 + i)]) (σ' := (zN L X (zhi (zup (zup s (42 + i_6) 3 ((s (42 + i_6) 3) + 4)) (26 + i) 5 0)) R G nc ns)) (fun n => rfl) ?_
        refine zW.jput rfl (zk_gun (by omega)) rfl ?_
        refine zW.run 2 (pc' := 103) (ls' := [some (.ref 6), some (.int (Int32.ofInt (i : Int))), some (.ref (26 + i)), some (.ref (42 + i_6))]) (st' := [.int (Int32.ofInt 0), .ref (26 + i)]) (σ' := (zN L X (zhi (zup (zup (zup s (42 + i_6) 3 ((s (42 + i_6) 3) + 4)) (26 + i) 5 0) (26 + i) 4 0)) R G nc ns)) (fun n => rfl) ?_
        refine zW.jput rfl (zk_gun (by omega)) rfl ?_
        refine zW.run 1 (pc' := 107) (ls' := [some (.ref 6), some (.int (Int32.ofInt (i : Int))), some (.ref (26 + i)), some (.ref (42 + i_6))]) (st' := [.ref (42 + i_6)]) (σ' := (zN L X (zhi (zup (zup (zup (zup s (42 + i_6) 3 ((s (42 + i_6) 3) + 4)) (26 + i) 5 0) (26 + i) 4 0) (26 + i) 3 0)) R G nc ns)) (fun n => rfl) ?_
        refine zW.jget (v := ((s (42 + i_6) 3) + 4)) rfl (zk_com (by omega)) (fun _ _ _ => rfl) ((zup_nj (by omega)).trans ((zup_nj (by omega)).trans ((zup_nj (by omega)).trans zup_ej))) ?_
        have V12 : zV g U F T B ph (zup (zup (zup (zup s (42 + i_6) 3 ((s (42 + i_6) 3) + 4)) (26 + i) 5 0) (26 + i) 4 0) (26 + i) 3 0) := (V_right V (by omega) (by omega) (by omega))
        generalize hs13 : (zup (zup (zup (zup s (42 + i_6) 3 ((s (42 + i_6) 3) + 4)) (26 + i) 5 0) (26 + i) 4 0) (26 + i) 3 0) = s13 at V12 ⊢
        exact zW.jret rfl rfl (hQ0 ((s (42 + i_6) 3) + 4) s13 V12 (by omega))
      · skip
        show zW ro 26 66 [some (.ref 6), some (.int (Int32.ofInt (i : Int))), some (.ref (26 + i)), none] [.null] (zN L X (zhi s) R G nc ns) Q
        refine zW.run 3 (pc' := 71) (ls' := [some (.ref 6), some (.int (Int32.ofInt (i : Int))), some (.ref (26 + i)), some (.null)]) (st' := []) (σ' := (zN L X (zhi s) R G nc ns)) (fun n => rfl) ?_
        exact zW.thr rfl hQ1
    · skip
      exact zW.thr rfl hQ1
set_option maxHeartbeats 4000000 in
theorem t_S_mine (S : zSR R) (V : zV g U F T B ph s) {i : Nat} {d : Int} (p0 : i < 8) (p1 : 0 ≤ d ∧ d ≤ 3) (hQ0 : ∀ (v : Int) (s1 : zJ), zV g U F T B ph s1 → ph = 1 → Q (.inl (some (.int (Int32.ofInt v)))) (zN L X (zhi s1) R G nc ns)) (hQ1 : Q (.inr 86) (zN L X (zhi s) R G (nc + 1) (ns + 6))) : zW ro 14 0 (zfst [.ref 6, .int (Int32.ofInt (i : Int)), .int (Int32.ofInt d)] 4) [] (zN L X (zhi s) R G nc ns) Q := by
  show zW ro 14 0 [some (.ref 6), some (.int (Int32.ofInt (i : Int))), some (.int (Int32.ofInt d)), none] [] (zN L X (zhi s) R G nc ns) Q
  have f1 := zA_geo (zV_zA V)
  have hB0 := zV_B V
  have c2 := zV_zC2 V i (by omega)
  have f2 := zV_sie V
  refine zW.run 1 (pc' := 1) (ls' := [some (.ref 6), some (.int (Int32.ofInt (i : Int))), some (.int (Int32.ofInt d)), none]) (st' := [.ref 6]) (σ' := (zN L X (zhi s) R G nc ns)) (fun n => rfl) ?_
  refine zW.getf (v := .ref 7) rfl rfl (zr_6_0 S) ?_
  refine zW.run 1 (pc' := 5) (ls' := [some (.ref 6), some (.int (Int32.ofInt (i : Int))), some (.int (Int32.ofInt d)), none]) (st' := [.int (Int32.ofInt (i : Int)), .ref 7]) (σ' := (zN L X (zhi s) R G nc ns)) (fun n => rfl) ?_
  refine zW.callV rfl (by decide) rfl rfl rfl rfl rfl (Nat.le_of_ble_eq_true rfl) ?_
  refine t_Siege_companyAt S V (i := i) (by omega) ?_
  show zW ro 14 8 [some (.ref 6), some (.int (Int32.ofInt (i : Int))), some (.int (Int32.ofInt d)), none] [.ref (42 + i)] (zN L X (zhi s) R G nc ns) Q
  refine zW.run 4 (pc' := 24) (ls' := [some (.ref 6), some (.int (Int32.ofInt (i : Int))), some (.int (Int32.ofInt d)), some (.ref (42 + i))]) (st' := [.int (Int32.ofInt d)]) (σ' := (zN L X (zhi s) R G nc ns)) (fun n => rfl) ?_
  refine zW.jif_lt rfl (by omega) (fun c3 => ?_) (fun c3 => ?_)
  · skip
    exfalso
    omega
  · skip
    refine zW.run 2 (pc' := 29) (ls' := [some (.ref 6), some (.int (Int32.ofInt (i : Int))), some (.int (Int32.ofInt d)), some (.ref (42 + i))]) (st' := [.int (Int32.ofInt 3), .int (Int32.ofInt d)]) (σ' := (zN L X (zhi s) R G nc ns)) (fun n => rfl) ?_
    refine zW.jcmp_le rfl (by omega) (fun c4 => ?_) (fun c4 => ?_)
    · skip
      refine zW.run 1 (pc' := 43) (ls' := [some (.ref 6), some (.int (Int32.ofInt (i : Int))), some (.int (Int32.ofInt d)), some (.ref (42 + i))]) (st' := [.ref 6]) (σ' := (zN L X (zhi s) R G nc ns)) (fun n => rfl) ?_
      refine zW.getf (v := .ref 7) rfl rfl (zr_6_0 S) ?_
      refine zW.run 2 (pc' := 50) (ls' := [some (.ref 6), some (.int (Int32.ofInt (i : Int))), some (.int (Int32.ofInt d)), some (.ref (42 + i))]) (st' := [.int (Int32.ofInt 1), .int (Int32.ofInt (s 7 11))]) (σ' := (zN L X (zhi s) R G nc ns)) (fun n => rfl) ?_
      refine zW.jcmp_ne rfl (by omega) (fun c5 => ?_) (fun c5 => ?_)
      · skip
        exact zW.thr rfl hQ1
      · skip
        refine zW.run 1 (pc' := 54) (ls' := [some (.ref 6), some (.int (Int32.ofInt (i : Int))), some (.int (Int32.ofInt d)), some (.ref (42 + i))]) (st' := [.ref (42 + i)]) (σ' := (zN L X (zhi s) R G nc ns)) (fun n => rfl) ?_
        have f6 := zV_com V (i := i) (by omega)
        refine zW.jget (v := (s (42 + i) 2)) rfl (zk_com (by omega)) (fun _ _ _ => rfl) rfl ?_
        refine zW.jif_eq rfl (by omega) (fun c7 => ?_) (fun c7 => ?_)
        · skip
          exact zW.thr rfl hQ1
        · skip
          refine zW.run 1 (pc' := 61) (ls' := [some (.ref 6), some (.int (Int32.ofInt (i : Int))), some (.int (Int32.ofInt d)), some (.ref (42 + i))]) (st' := [.ref 6]) (σ' := (zN L X (zhi s) R G nc ns)) (fun n => rfl) ?_
          refine zW.getf (v := .ref 7) rfl rfl (zr_6_0 S) ?_
          refine zW.run 2 (pc' := 69) (ls' := [some (.ref 6), some (.int (Int32.ofInt (i : Int))), some (.int (Int32.ofInt d)), some (.ref (42 + i))]) (st' := [.int (Int32.ofInt 6), .int (Int32.ofInt (s 7 9))]) (σ' := (zN L X (zhi s) R G nc ns)) (fun n => rfl) ?_
          refine zW.jcmp_ge rfl (by omega) (fun c8 => ?_) (fun c8 => ?_)
          · skip
            exact zW.thr rfl hQ1
          · skip
            refine zW.run 1 (pc' := 73) (ls' := [some (.ref 6), some (.int (Int32.ofInt (i : Int))), some (.int (Int32.ofInt d)), some (.ref (42 + i))]) (st' := [.ref (42 + i)]) (σ' := (zN L X (zhi s) R G nc ns)) (fun n => rfl) ?_
            refine zW.jget (v := (s (42 + i) 0)) rfl (zk_com (by omega)) (fun _ _ _ => rfl) rfl ?_
            refine zW.run 1 (pc' := 77) (ls' := [some (.ref 6), some (.int (Int32.ofInt (i : Int))), some (.int (Int32.ofInt d)), some (.ref (42 + i))]) (st' := [.ref 6, .int (Int32.ofInt (s (42 + i) 0))]) (σ' := (zN L X (zhi s) R G nc ns)) (fun n => rfl) ?_
            refine zW.getf (v := .ref 7) rfl rfl (zr_6_0 S) ?_
            refine zW.getf (v := .ref 8) rfl rfl (zr_7_0 S) ?_
            refine zW.run 1 (pc' := 84) (ls' := [some (.ref 6), some (.int (Int32.ofInt (i : Int))), some (.int (Int32.ofInt d)), some (.ref (42 + i))]) (st' := [.ref (42 + i), .ref 8, .int (Int32.ofInt (s (42 + i) 0))]) (σ' := (zN L X (zhi s) R G nc ns)) (fun n => rfl) ?_
            refine zW.jget (v := (s (42 + i) 1)) rfl (zk_com (by omega)) (fun _ _ _ => rfl) rfl ?_
            refine zW.callV rfl (by decide) rfl rfl rfl rfl rfl (Nat.le_of_ble_eq_true rfl) ?_
            refine t_Ground_workOf S V (x := (s (42 + i) 1)) (by omega) (fun v_9 f10 f11 => ?_)
            show zW ro 14 90 [some (.ref 6), some (.int (Int32.ofInt (i : Int))), some (.int (Int32.ofInt d)), some (.ref (42 + i))] [.int (Int32.ofInt v_9), .int (Int32.ofInt (s (42 + i) 0))] (zN L X (zhi s) R G nc ns) Q
            refine zW.callS rfl rfl rfl rfl rfl (Nat.le_of_ble_eq_true rfl) ?_
            refine t_Mining_isMouth S (x := (s (42 + i) 0)) (y := v_9) (by omega) (by omega) ?_ ?_
            · skip
              show zW ro 14 93 [some (.ref 6), some (.int (Int32.ofInt (i : Int))), some (.int (Int32.ofInt d)), some (.ref (42 + i))] [.int (Int32.ofInt 1)] (zN L X (zhi s) R G nc ns) Q
              refine zW.run 2 (pc' := 107) (ls' := [some (.ref 6), some (.int (Int32.ofInt (i : Int))), some (.int (Int32.ofInt d)), some (.ref (42 + i))]) (st' := [.ref 6]) (σ' := (zN L X (zhi s) R G nc ns)) (fun n => rfl) ?_
              refine zW.getf (v := .ref 7) rfl rfl (zr_6_0 S) ?_
              refine zW.run 1 (pc' := 111) (ls' := [some (.ref 6), some (.int (Int32.ofInt (i : Int))), some (.int (Int32.ofInt d)), some (.ref (42 + i))]) (st' := [.ref (42 + i), .ref 7]) (σ' := (zN L X (zhi s) R G nc ns)) (fun n => rfl) ?_
              refine zW.jget (v := (s (42 + i) 0)) rfl (zk_com (by omega)) (fun _ _ _ => rfl) rfl ?_
              refine zW.run 1 (pc' := 115) (ls' := [some (.ref 6), some (.int (Int32.ofInt (i : Int))), some (.int (Int32.ofInt d)), some (.ref (42 + i))]) (st' := [.ref (42 + i), .int (Int32.ofInt (s (42 + i) 0)), .ref 7]) (σ' := (zN L X (zhi s) R G nc ns)) (fun n => rfl) ?_
              refine zW.jget (v := (s (42 + i) 1)) rfl (zk_com (by omega)) (fun _ _ _ => rfl) rfl ?_
              refine zW.run 1 (pc' := 119) (ls' := [some (.ref 6), some (.int (Int32.ofInt (i : Int))), some (.int (Int32.ofInt d)), some (.ref (42 + i))]) (st' := [.int (Int32.ofInt d), .int (Int32.ofInt (s (42 + i) 1)), .int (Int32.ofInt (s (42 + i) 0)), .ref 7]) (σ' := (zN L X (zhi s) R G nc ns)) (fun n => rfl) ?_
              refine zW.callV rfl (by decide) rfl rfl rfl rfl rfl (Nat.le_of_ble_eq_true rfl) ?_
              refine t_Siege_beginMine S V (x := (s (42 + i) 0)) (y := (s (42 + i) 1)) (d := d) (by omega) (by omega) (by omega) (fun v_12 s13 V14 => ?_)
              show zW ro 14 122 [some (.ref 6), some (.int (Int32.ofInt (i : Int))), some (.int (Int32.ofInt d)), some (.ref (42 + i))] [.int (Int32.ofInt v_12)] (zN L X (zhi s13) R G nc ns) Q
              exact zW.jret rfl rfl (hQ0 v_12 s13 V14 (by omega))
            · skip
              show zW ro 14 93 [some (.ref 6), some (.int (Int32.ofInt (i : Int))), some (.int (Int32.ofInt d)), some (.ref (42 + i))] [.int (Int32.ofInt 0)] (zN L X (zhi s) R G nc ns) Q
              refine zW.run 1 (pc' := 96) (ls' := [some (.ref 6), some (.int (Int32.ofInt (i : Int))), some (.int (Int32.ofInt d)), some (.ref (42 + i))]) (st' := []) (σ' := (zN L X (zhi s) R G nc ns)) (fun n => rfl) ?_
              exact zW.thr rfl hQ1
    · skip
      exfalso
      omega
set_option maxHeartbeats 4000000 in
theorem t_S_charge (S : zSR R) (V : zV g U F T B ph s) {i : Nat} {d : Int} (p0 : i < 3) (p1 : 1 ≤ d ∧ d ≤ 30) (hQ0 : ∀ (v : Int) (s1 : zJ), zV g U F T B ph s1 → ph = 1 → Q (.inl (some (.int (Int32.ofInt v)))) (zN L X (zhi s1) R G nc ns)) (hQ1 : Q (.inr 43) (zN L X (zhi s) R G (nc + 1) (ns + 6))) (hQ2 : Q (.inr 86) (zN L X (zhi s) R G (nc + 1) (ns + 6))) : zW ro 4 0 (zfst [.ref 6, .int (Int32.ofInt (i : Int)), .int (Int32.ofInt d)] 4) [] (zN L X (zhi s) R G nc ns) Q := by
  show zW ro 4 0 [some (.ref 6), some (.int (Int32.ofInt (i : Int))), some (.int (Int32.ofInt d)), none] [] (zN L X (zhi s) R G nc ns) Q
  have f1 := zA_geo (zV_zA V)
  have hB0 := zV_B V
  have f2 := zV_sie V
  refine zW.run 1 (pc' := 1) (ls' := [some (.ref 6), some (.int (Int32.ofInt (i : Int))), some (.int (Int32.ofInt d)), none]) (st' := [.ref 6]) (σ' := (zN L X (zhi s) R G nc ns)) (fun n => rfl) ?_
  refine zW.getf (v := .ref 7) rfl rfl (zr_6_0 S) ?_
  refine zW.run 1 (pc' := 5) (ls' := [some (.ref 6), some (.int (Int32.ofInt (i : Int))), some (.int (Int32.ofInt d)), none]) (st' := [.int (Int32.ofInt (i : Int)), .ref 7]) (σ' := (zN L X (zhi s) R G nc ns)) (fun n => rfl) ?_
  refine zW.callV rfl (by decide) rfl rfl rfl rfl rfl (Nat.le_of_ble_eq_true rfl) ?_
  refine t_Siege_mineAt S V (i := i) (by omega) (fun f3 f4 => ?_) (fun f5 => ?_)
  · skip
    show zW ro 4 8 [some (.ref 6), some (.int (Int32.ofInt (i : Int))), some (.int (Int32.ofInt d)), none] [.ref (54 + 2 * i)] (zN L X (zhi s) R G nc ns) Q
    refine zW.run 5 (pc' := 26) (ls' := [some (.ref 6), some (.int (Int32.ofInt (i : Int))), some (.int (Int32.ofInt d)), some (.ref (54 + 2 * i))]) (st' := [.int (Int32.ofInt 1), .int (Int32.ofInt d)]) (σ' := (zN L X (zhi s) R G nc ns)) (fun n => rfl) ?_
    refine zW.jcmp_lt rfl (by omega) (fun c6 => ?_) (fun c6 => ?_)
    · skip
      exfalso
      omega
    · skip
      refine zW.run 2 (pc' := 32) (ls' := [some (.ref 6), some (.int (Int32.ofInt (i : Int))), some (.int (Int32.ofInt d)), some (.ref (54 + 2 * i))]) (st' := [.int (Int32.ofInt 60), .int (Int32.ofInt d)]) (σ' := (zN L X (zhi s) R G nc ns)) (fun n => rfl) ?_
      refine zW.jcmp_le rfl (by omega) (fun c7 => ?_) (fun c7 => ?_)
      · skip
        refine zW.run 1 (pc' := 47) (ls' := [some (.ref 6), some (.int (Int32.ofInt (i : Int))), some (.int (Int32.ofInt d)), some (.ref (54 + 2 * i))]) (st' := [.ref 6]) (σ' := (zN L X (zhi s) R G nc ns)) (fun n => rfl) ?_
        refine zW.getf (v := .ref 7) rfl rfl (zr_6_0 S) ?_
        refine zW.run 2 (pc' := 54) (ls' := [some (.ref 6), some (.int (Int32.ofInt (i : Int))), some (.int (Int32.ofInt d)), some (.ref (54 + 2 * i))]) (st' := [.int (Int32.ofInt 1), .int (Int32.ofInt (s 7 11))]) (σ' := (zN L X (zhi s) R G nc ns)) (fun n => rfl) ?_
        refine zW.jcmp_ne rfl (by omega) (fun c8 => ?_) (fun c8 => ?_)
        · skip
          exact zW.thr rfl hQ2
        · skip
          refine zW.run 1 (pc' := 58) (ls' := [some (.ref 6), some (.int (Int32.ofInt (i : Int))), some (.int (Int32.ofInt d)), some (.ref (54 + 2 * i))]) (st' := [.ref (54 + 2 * i)]) (σ' := (zN L X (zhi s) R G nc ns)) (fun n => rfl) ?_
          refine zW.callV rfl (by decide) rfl rfl rfl rfl (zk_min (by omega)) (Nat.le_of_ble_eq_true rfl) ?_
          refine t_Mine_isWhole S V (i := i) (by omega) (fun f9 f10 => ?_) (fun f11 => ?_)
          · skip
            show zW ro 4 61 [some (.ref 6), some (.int (Int32.ofInt (i : Int))), some (.int (Int32.ofInt d)), some (.ref (54 + 2 * i))] [.int (Int32.ofInt 1)] (zN L X (zhi s) R G nc ns) Q
            refine zW.run 2 (pc' := 65) (ls' := [some (.ref 6), some (.int (Int32.ofInt (i : Int))), some (.int (Int32.ofInt d)), some (.ref (54 + 2 * i))]) (st' := [.ref 6]) (σ' := (zN L X (zhi s) R G nc ns)) (fun n => rfl) ?_
            refine zW.getf (v := .ref 7) rfl rfl (zr_6_0 S) ?_
            refine zW.run 1 (pc' := 69) (ls' := [some (.ref 6), some (.int (Int32.ofInt (i : Int))), some (.int (Int32.ofInt d)), some (.ref (54 + 2 * i))]) (st' := [.ref (54 + 2 * i), .ref 7]) (σ' := (zN L X (zhi s) R G nc ns)) (fun n => rfl) ?_
            have f12 := zV_min V (i := i) (by omega)
            refine zW.jget (v := (s (54 + 2 * i) 1)) rfl (zk_min (by omega)) (fun _ _ _ => rfl) rfl ?_
            refine zW.callV rfl (by decide) rfl rfl rfl rfl rfl (Nat.le_of_ble_eq_true rfl) ?_
            refine t_Siege_of S (x := (s (54 + 2 * i) 1)) (by omega) (fun o_13 f14 => ?_)
            show zW ro 4 75 [some (.ref 6), some (.int (Int32.ofInt (i : Int))), some (.int (Int32.ofInt d)), some (.ref (54 + 2 * i))] [.ref o_13] (zN L X (zhi s) R G nc ns) Q
            have f15 := zV_sid V (o := o_13) (by omega)
            refine zW.jget (v := (s o_13 0)) rfl (zk_sid (by omega)) (fun _ _ _ => rfl) rfl ?_
            refine zW.run 1 (pc' := 79) (ls' := [some (.ref 6), some (.int (Int32.ofInt (i : Int))), some (.int (Int32.ofInt d)), some (.ref (54 + 2 * i))]) (st' := [.int (Int32.ofInt d), .int (Int32.ofInt (s o_13 0))]) (σ' := (zN L X (zhi s) R G nc ns)) (fun n => rfl) ?_
            refine zW.jcmp_ge rfl (by omega) (fun c16 => ?_) (fun c16 => ?_)
            · skip
              refine zW.run 1 (pc' := 94) (ls' := [some (.ref 6), some (.int (Int32.ofInt (i : Int))), some (.int (Int32.ofInt d)), some (.ref (54 + 2 * i))]) (st' := [.ref 6]) (σ' := (zN L X (zhi s) R G nc ns)) (fun n => rfl) ?_
              refine zW.getf (v := .ref 7) rfl rfl (zr_6_0 S) ?_
              refine zW.run 1 (pc' := 98) (ls' := [some (.ref 6), some (.int (Int32.ofInt (i : Int))), some (.int (Int32.ofInt d)), some (.ref (54 + 2 * i))]) (st' := [.ref (54 + 2 * i), .ref 7]) (σ' := (zN L X (zhi s) R G nc ns)) (fun n => rfl) ?_
              refine zW.jget (v := (s (54 + 2 * i) 1)) rfl (zk_min (by omega)) (fun _ _ _ => rfl) rfl ?_
              refine zW.callV rfl (by decide) rfl rfl rfl rfl rfl (Nat.le_of_ble_eq_true rfl) ?_
              refine t_Siege_of S (x := (s (54 + 2 * i) 1)) (by omega) (fun o_17 f18 => ?_)
              show zW ro 4 104 [some (.ref 6), some (.int (Int32.ofInt (i : Int))), some (.int (Int32.ofInt d)), some (.ref (54 + 2 * i))] [.ref o_17] (zN L X (zhi s) R G nc ns) Q
              have eo : o_17 = o_13 := (by omega)
              subst eo
              refine zW.run 1 (pc' := 105) (ls' := [some (.ref 6), some (.int (Int32.ofInt (i : Int))), some (.int (Int32.ofInt d)), some (.ref (54 + 2 * i))]) (st' := [.ref o_17, .ref o_17]) (σ' := (zN L X (zhi s) R G nc ns)) (fun n => rfl) ?_
              have f19 := zV_sid V (o := o_17) (by omega)
              refine zW.jget (v := (s o_17 0)) rfl (zk_sid (by omega)) (fun _ _ _ => rfl) rfl ?_
              refine zW.run 1 (pc' := 109) (ls' := [some (.ref 6), some (.int (Int32.ofInt (i : Int))), some (.int (Int32.ofInt d)), some (.ref (54 + 2 * i))]) (st' := [.int (Int32.ofInt d), .int (Int32.ofInt (s o_17 0)), .ref o_17]) (σ' := (zN L X (zhi s) R G nc ns)) (fun n => rfl) ?_
              refine zW.jsub rfl ?_
              refine zW.jput rfl (zk_sid (by omega)) rfl ?_
              refine zW.run 2 (pc' := 115) (ls' := [some (.ref 6), some (.int (Int32.ofInt (i : Int))), some (.int (Int32.ofInt d)), some (.ref (54 + 2 * i))]) (st' := [.ref (54 + 2 * i), .ref (54 + 2 * i)]) (σ' := (zN L X (zhi (zup s o_17 0 ((s o_17 0) - d))) R G nc ns)) (fun n => rfl) ?_
              refine zW.jget (v := (s (54 + 2 * i) 4)) rfl (zk_min (by omega)) (fun _ _ _ => rfl) (zup_nj (by omega)) ?_
              refine zW.run 1 (pc' := 119) (ls' := [some (.ref 6), some (.int (Int32.ofInt (i : Int))), some (.int (Int32.ofInt d)), some (.ref (54 + 2 * i))]) (st' := [.int (Int32.ofInt d), .int (Int32.ofInt (s (54 + 2 * i) 4)), .ref (54 + 2 * i)]) (σ' := (zN L X (zhi (zup s o_17 0 ((s o_17 0) - d))) R G nc ns)) (fun n => rfl) ?_
              refine zW.jadd rfl ?_
              refine zW.jput rfl (zk_min (by omega)) rfl ?_
              refine zW.run 1 (pc' := 124) (ls' := [some (.ref 6), some (.int (Int32.ofInt (i : Int))), some (.int (Int32.ofInt d)), some (.ref (54 + 2 * i))]) (st' := [.ref (54 + 2 * i)]) (σ' := (zN L X (zhi (zup (zup s o_17 0 ((s o_17 0) - d)) (54 + 2 * i) 4 ((s (54 + 2 * i) 4) + d))) R G nc ns)) (fun n => rfl) ?_
              refine zW.jget (v := ((s (54 + 2 * i) 4) + d)) rfl (zk_min (by omega)) (fun _ _ _ => rfl) zup_ej ?_
              have V20 : zV g U F T B ph (zup (zup s o_17 0 ((s o_17 0) - d)) (54 + 2 * i) 4 ((s (54 + 2 * i) 4) + d)) := (V_chrg V (by omega) (by omega) (by omega) (by omega) (by omega))
              generalize hs21 : (zup (zup s o_17 0 ((s o_17 0) - d)) (54 + 2 * i) 4 ((s (54 + 2 * i) 4) + d)) = s21 at V20 ⊢
              exact zW.jret rfl rfl (hQ0 ((s (54 + 2 * i) 4) + d) s21 V20 (by omega))
            · skip
              exact zW.thr rfl hQ2
          · skip
            show zW ro 4 61 [some (.ref 6), some (.int (Int32.ofInt (i : Int))), some (.int (Int32.ofInt d)), some (.ref (54 + 2 * i))] [.int (Int32.ofInt 0)] (zN L X (zhi s) R G nc ns) Q
            refine zW.run 1 (pc' := 82) (ls' := [some (.ref 6), some (.int (Int32.ofInt (i : Int))), some (.int (Int32.ofInt d)), some (.ref (54 + 2 * i))]) (st' := []) (σ' := (zN L X (zhi s) R G nc ns)) (fun n => rfl) ?_
            exact zW.thr rfl hQ2
      · skip
        exfalso
        omega
  · skip
    show zW ro 4 8 [some (.ref 6), some (.int (Int32.ofInt (i : Int))), some (.int (Int32.ofInt d)), none] [.null] (zN L X (zhi s) R G nc ns) Q
    refine zW.run 3 (pc' := 13) (ls' := [some (.ref 6), some (.int (Int32.ofInt (i : Int))), some (.int (Int32.ofInt d)), some (.null)]) (st' := []) (σ' := (zN L X (zhi s) R G nc ns)) (fun n => rfl) ?_
    exact zW.thr rfl hQ1
set_option maxHeartbeats 4000000 in
theorem t_S_blow (S : zSR R) (V : zV g U F T B ph s) {i : Nat} (p0 : i < 3) (p1 : B + 144 ≤ 1000000000) (hQ0 : ∀ (v : Int) (s1 : zJ), zV g U F T (B + 144) 2 s1 → ph = 1 → Q (.inl (some (.int (Int32.ofInt v)))) (zN L X (zhi s1) R G nc ns)) (hQ1 : ∀ (v : Int) (s1 : zJ), zV g U F T (B + 144) 1 s1 → ph = 1 → Q (.inl (some (.int (Int32.ofInt v)))) (zN L X (zhi s1) R G nc ns)) (hQ2 : Q (.inr 43) (zN L X (zhi s) R G (nc + 1) (ns + 6))) (hQ3 : Q (.inr 86) (zN L X (zhi s) R G (nc + 1) (ns + 6))) : zW ro 3 0 (zfst [.ref 6, .int (Int32.ofInt (i : Int))] 4) [] (zN L X (zhi s) R G nc ns) Q := by
  show zW ro 3 0 [some (.ref 6), some (.int (Int32.ofInt (i : Int))), none, none] [] (zN L X (zhi s) R G nc ns) Q
  have f1 := zA_geo (zV_zA V)
  have hB0 := zV_B V
  have f2 := zV_sie V
  refine zW.run 1 (pc' := 1) (ls' := [some (.ref 6), some (.int (Int32.ofInt (i : Int))), none, none]) (st' := [.ref 6]) (σ' := (zN L X (zhi s) R G nc ns)) (fun n => rfl) ?_
  refine zW.getf (v := .ref 7) rfl rfl (zr_6_0 S) ?_
  refine zW.run 1 (pc' := 5) (ls' := [some (.ref 6), some (.int (Int32.ofInt (i : Int))), none, none]) (st' := [.int (Int32.ofInt (i : Int)), .ref 7]) (σ' := (zN L X (zhi s) R G nc ns)) (fun n => rfl) ?_
  refine zW.callV rfl (by decide) rfl rfl rfl rfl rfl (Nat.le_of_ble_eq_true rfl) ?_
  refine t_Siege_mineAt S V (i := i) (by omega) (fun f3 f4 => ?_) (fun f5 => ?_)
  · skip
    show zW ro 3 8 [some (.ref 6), some (.int (Int32.ofInt (i : Int))), none, none] [.ref (54 + 2 * i)] (zN L X (zhi s) R G nc ns) Q
    refine zW.run 4 (pc' := 25) (ls' := [some (.ref 6), some (.int (Int32.ofInt (i : Int))), some (.ref (54 + 2 * i)), none]) (st' := [.ref 6]) (σ' := (zN L X (zhi s) R G nc ns)) (fun n => rfl) ?_
    refine zW.getf (v := .ref 7) rfl rfl (zr_6_0 S) ?_
    refine zW.run 2 (pc' := 32) (ls' := [some (.ref 6), some (.int (Int32.ofInt (i : Int))), some (.ref (54 + 2 * i)), none]) (st' := [.int (Int32.ofInt 1), .int (Int32.ofInt (s 7 11))]) (σ' := (zN L X (zhi s) R G nc ns)) (fun n => rfl) ?_
    refine zW.jcmp_ne rfl (by omega) (fun c6 => ?_) (fun c6 => ?_)
    · skip
      exact zW.thr rfl hQ3
    · skip
      refine zW.run 1 (pc' := 36) (ls' := [some (.ref 6), some (.int (Int32.ofInt (i : Int))), some (.ref (54 + 2 * i)), none]) (st' := [.ref (54 + 2 * i)]) (σ' := (zN L X (zhi s) R G nc ns)) (fun n => rfl) ?_
      refine zW.callV rfl (by decide) rfl rfl rfl rfl (zk_min (by omega)) (Nat.le_of_ble_eq_true rfl) ?_
      refine t_Mine_isWhole S V (i := i) (by omega) (fun f7 f8 => ?_) (fun f9 => ?_)
      · skip
        show zW ro 3 39 [some (.ref 6), some (.int (Int32.ofInt (i : Int))), some (.ref (54 + 2 * i)), none] [.int (Int32.ofInt 1)] (zN L X (zhi s) R G nc ns) Q
        refine zW.run 2 (pc' := 43) (ls' := [some (.ref 6), some (.int (Int32.ofInt (i : Int))), some (.ref (54 + 2 * i)), none]) (st' := [.ref (54 + 2 * i)]) (σ' := (zN L X (zhi s) R G nc ns)) (fun n => rfl) ?_
        have f10 := zV_min V (i := i) (by omega)
        refine zW.jget (v := (s (54 + 2 * i) 4)) rfl (zk_min (by omega)) (fun _ _ _ => rfl) rfl ?_
        refine zW.if_ne rfl (fun _ => ?_) (fun _ => ?_)
        · skip
          refine zW.run 1 (pc' := 61) (ls' := [some (.ref 6), some (.int (Int32.ofInt (i : Int))), some (.ref (54 + 2 * i)), none]) (st' := [.ref 6]) (σ' := (zN L X (zhi s) R G nc ns)) (fun n => rfl) ?_
          have hp9 : ph = 1 := (by omega)
          subst hp9
          refine zW.getf (v := .ref 7) rfl rfl (zr_6_0 S) ?_
          refine zW.run 1 (pc' := 65) (ls' := [some (.ref 6), some (.int (Int32.ofInt (i : Int))), some (.ref (54 + 2 * i)), none]) (st' := [.ref (54 + 2 * i), .ref 7]) (σ' := (zN L X (zhi s) R G nc ns)) (fun n => rfl) ?_
          refine zW.callS rfl rfl rfl rfl rfl (Nat.le_of_ble_eq_true rfl) ?_
          refine t_Mining_blowUp S V (i := i) (by omega) (by omega) (by omega) (by omega) (fun v_12 s13 V14 => ?_)
          show zW ro 3 68 [some (.ref 6), some (.int (Int32.ofInt (i : Int))), some (.ref (54 + 2 * i)), none] [.int (Int32.ofInt v_12)] (zN L X (zhi s13) R G nc ns) Q
          refine zW.run 2 (pc' := 70) (ls' := [some (.ref 6), some (.int (Int32.ofInt (i : Int))), some (.ref (54 + 2 * i)), some (.int (Int32.ofInt v_12))]) (st' := [.ref 6]) (σ' := (zN L X (zhi s13) R G nc ns)) (fun n => rfl) ?_
          refine zW.getf (v := .ref 7) rfl rfl (zr_6_0 S) ?_
          refine zW.callV rfl (by decide) rfl rfl rfl rfl rfl (Nat.le_of_ble_eq_true rfl) ?_
          refine t_Siege_askWhetherOver S V14 (fun s15 V16 => ?_) ?_
          · skip
            show zW ro 3 76 [some (.ref 6), some (.int (Int32.ofInt (i : Int))), some (.ref (54 + 2 * i)), some (.int (Int32.ofInt v_12))] [.int (Int32.ofInt 1)] (zN L X (zhi s15) R G nc ns) Q
            refine zW.run 2 (pc' := 78) (ls' := [some (.ref 6), some (.int (Int32.ofInt (i : Int))), some (.ref (54 + 2 * i)), some (.int (Int32.ofInt v_12))]) (st' := [.int (Int32.ofInt v_12)]) (σ' := (zN L X (zhi s15) R G nc ns)) (fun n => rfl) ?_
            exact zW.jret rfl rfl (hQ0 v_12 s15 (zV_mono V16 (by omega) (by omega)) (by omega))
          · skip
            show zW ro 3 76 [some (.ref 6), some (.int (Int32.ofInt (i : Int))), some (.ref (54 + 2 * i)), some (.int (Int32.ofInt v_12))] [.int (Int32.ofInt 0)] (zN L X (zhi s13) R G nc ns) Q
            refine zW.run 2 (pc' := 78) (ls' := [some (.ref 6), some (.int (Int32.ofInt (i : Int))), some (.ref (54 + 2 * i)), some (.int (Int32.ofInt v_12))]) (st' := [.int (Int32.ofInt v_12)]) (σ' := (zN L X (zhi s13) R G nc ns)) (fun n => rfl) ?_
            exact zW.jret rfl rfl (hQ1 v_12 s13 V14 (by omega))
        · skip
          exact zW.thr rfl hQ3
      · skip
        show zW ro 3 39 [some (.ref 6), some (.int (Int32.ofInt (i : Int))), some (.ref (54 + 2 * i)), none] [.int (Int32.ofInt 0)] (zN L X (zhi s) R G nc ns) Q
        refine zW.run 1 (pc' := 49) (ls' := [some (.ref 6), some (.int (Int32.ofInt (i : Int))), some (.ref (54 + 2 * i)), none]) (st' := []) (σ' := (zN L X (zhi s) R G nc ns)) (fun n => rfl) ?_
        exact zW.thr rfl hQ3
  · skip
    show zW ro 3 8 [some (.ref 6), some (.int (Int32.ofInt (i : Int))), none, none] [.null] (zN L X (zhi s) R G nc ns) Q
    refine zW.run 3 (pc' := 13) (ls' := [some (.ref 6), some (.int (Int32.ofInt (i : Int))), some (.null), none]) (st' := []) (σ' := (zN L X (zhi s) R G nc ns)) (fun n => rfl) ?_
    exact zW.thr rfl hQ2
set_option maxHeartbeats 4000000 in
theorem t_S_letter (S : zSR R) (V : zV g U F T B ph s)   (hQ0 : ∀ (v : Int) (s1 : zJ), zV g U F T B ph s1 → ph = 1 → Q (.inl (some (.int (Int32.ofInt v)))) (zN L X (zhi s1) R G nc ns)) (hQ1 : Q (.inr 86) (zN L X (zhi s) R G (nc + 1) (ns + 6))) : zW ro 13 0 (zfst [.ref 6] 1) [] (zN L X (zhi s) R G nc ns) Q := by
  show zW ro 13 0 [some (.ref 6)] [] (zN L X (zhi s) R G nc ns) Q
  have f1 := zA_geo (zV_zA V)
  have hB0 := zV_B V
  have f2 := zV_sie V
  refine zW.run 1 (pc' := 1) (ls' := [some (.ref 6)]) (st' := [.ref 6]) (σ' := (zN L X (zhi s) R G nc ns)) (fun n => rfl) ?_
  refine zW.getf (v := .ref 7) rfl rfl (zr_6_0 S) ?_
  refine zW.run 2 (pc' := 8) (ls' := [some (.ref 6)]) (st' := [.int (Int32.ofInt 1), .int (Int32.ofInt (s 7 11))]) (σ' := (zN L X (zhi s) R G nc ns)) (fun n => rfl) ?_
  refine zW.jcmp_ne rfl (by omega) (fun c3 => ?_) (fun c3 => ?_)
  · skip
    exact zW.thr rfl hQ1
  · skip
    refine zW.run 1 (pc' := 12) (ls' := [some (.ref 6)]) (st' := [.ref 6]) (σ' := (zN L X (zhi s) R G nc ns)) (fun n => rfl) ?_
    refine zW.getf (v := .ref 7) rfl rfl (zr_6_0 S) ?_
    refine zW.callV rfl (by decide) rfl rfl rfl rfl rfl (Nat.le_of_ble_eq_true rfl) ?_
    refine t_Siege_isNight S V ?_ ?_
    · skip
      show zW ro 13 18 [some (.ref 6)] [.int (Int32.ofInt 1)] (zN L X (zhi s) R G nc ns) Q
      refine zW.run 2 (pc' := 22) (ls' := [some (.ref 6)]) (st' := [.ref 6]) (σ' := (zN L X (zhi s) R G nc ns)) (fun n => rfl) ?_
      refine zW.getf (v := .ref 7) rfl rfl (zr_6_0 S) ?_
      refine zW.getf (v := .ref 23) rfl rfl (zr_7_6 S) ?_
      refine zW.run 2 (pc' := 33) (ls' := [some (.ref 6)]) (st' := [.int (Int32.ofInt 6), .int (Int32.ofInt (s 23 2))]) (σ' := (zN L X (zhi s) R G nc ns)) (fun n => rfl) ?_
      refine zW.icmp_lt rfl (fun _ => ?_) (fun _ => ?_)
      · skip
        refine zW.run 1 (pc' := 48) (ls' := [some (.ref 6)]) (st' := [.ref 6]) (σ' := (zN L X (zhi s) R G nc ns)) (fun n => rfl) ?_
        refine zW.getf (v := .ref 7) rfl rfl (zr_6_0 S) ?_
        refine zW.getf (v := .ref 23) rfl rfl (zr_7_6 S) ?_
        refine zW.run 1 (pc' := 55) (ls' := [some (.ref 6)]) (st' := [.ref 23, .ref 23]) (σ' := (zN L X (zhi s) R G nc ns)) (fun n => rfl) ?_
        refine zW.run 2 (pc' := 59) (ls' := [some (.ref 6)]) (st' := [.int (Int32.ofInt 1), .int (Int32.ofInt (s 23 2)), .ref 23]) (σ' := (zN L X (zhi s) R G nc ns)) (fun n => rfl) ?_
        refine zW.jadd rfl ?_
        refine zW.jput rfl rfl rfl ?_
        refine zW.run 1 (pc' := 64) (ls' := [some (.ref 6)]) (st' := [.ref 6]) (σ' := (zN L X (zhi (zup s 23 2 ((s 23 2) + 1))) R G nc ns)) (fun n => rfl) ?_
        refine zW.getf (v := .ref 7) rfl rfl (zr_6_0 S) ?_
        refine zW.getf (v := .ref 23) rfl rfl (zr_7_6 S) ?_
        refine zW.jget (v := ((s 23 2) + 1)) rfl rfl (fun _ _ _ => rfl) zup_ej ?_
        have V5 : zV g U F T B ph (zup s 23 2 ((s 23 2) + 1)) := (V_irr V (by omega))
        generalize hs6 : (zup s 23 2 ((s 23 2) + 1)) = s6 at V5 ⊢
        exact zW.jret rfl rfl (hQ0 ((s 23 2) + 1) s6 V5 (by omega))
      · skip
        exact zW.thr rfl hQ1
    · skip
      show zW ro 13 18 [some (.ref 6)] [.int (Int32.ofInt 0)] (zN L X (zhi s) R G nc ns) Q
      refine zW.run 1 (pc' := 36) (ls' := [some (.ref 6)]) (st' := []) (σ' := (zN L X (zhi s) R G nc ns)) (fun n => rfl) ?_
      exact zW.thr rfl hQ1
set_option maxHeartbeats 4000000 in
theorem t_S_pass (S : zSR R) (V : zV g U F T B 1 s) {h : Int} (p0 : 1 ≤ h ∧ h ≤ 48) (p1 : T + h ≤ 2400) (p2 : B + 100000 ≤ 1000000000) (hQ0 : ∀ (q : Int) (t : Int) (v : Int) (s1 : zJ), zV g U F t (B + 100000) q s1 → v = t → q = 1 ∧ t = T + h ∨ q = 2 ∧ T ≤ t ∧ t ≤ T + h → Q (.inl (some (.int (Int32.ofInt v)))) (zN L X (zhi s1) R G nc ns)) : zW ro 25 0 (zfst [.ref 6, .int (Int32.ofInt h)] 3) [] (zN L X (zhi s) R G nc ns) Q := by
  show zW ro 25 0 [some (.ref 6), some (.int (Int32.ofInt h)), none] [] (zN L X (zhi s) R G nc ns) Q
  have f1 := zA_geo (zV_zA V)
  have hB0 := zV_B V
  have f2 := zV_sie V
  refine zW.run 2 (pc' := 2) (ls' := [some (.ref 6), some (.int (Int32.ofInt h)), none]) (st' := [.int (Int32.ofInt 1), .int (Int32.ofInt h)]) (σ' := (zN L X (zhi s) R G nc ns)) (fun n => rfl) ?_
  refine zW.jcmp_lt rfl (by omega) (fun c3 => ?_) (fun c3 => ?_)
  · skip
    exfalso
    omega
  · skip
    refine zW.run 2 (pc' := 8) (ls' := [some (.ref 6), some (.int (Int32.ofInt h)), none]) (st' := [.int (Int32.ofInt 48), .int (Int32.ofInt h)]) (σ' := (zN L X (zhi s) R G nc ns)) (fun n => rfl) ?_
    refine zW.jcmp_le rfl (by omega) (fun c4 => ?_) (fun c4 => ?_)
    · skip
      refine zW.run 1 (pc' := 23) (ls' := [some (.ref 6), some (.int (Int32.ofInt h)), none]) (st' := [.ref 6]) (σ' := (zN L X (zhi s) R G nc ns)) (fun n => rfl) ?_
      refine zW.getf (v := .ref 7) rfl rfl (zr_6_0 S) ?_
      refine zW.run 2 (pc' := 30) (ls' := [some (.ref 6), some (.int (Int32.ofInt h)), none]) (st' := [.int (Int32.ofInt 1), .int (Int32.ofInt (s 7 11))]) (σ' := (zN L X (zhi s) R G nc ns)) (fun n => rfl) ?_
      refine zW.jcmp_ne rfl (by omega) (fun c5 => ?_) (fun c5 => ?_)
      · skip
        exfalso
        omega
      · skip
        refine zW.run 1 (pc' := 34) (ls' := [some (.ref 6), some (.int (Int32.ofInt h)), none]) (st' := [.ref 6]) (σ' := (zN L X (zhi s) R G nc ns)) (fun n => rfl) ?_
        refine zW.getf (v := .ref 7) rfl rfl (zr_6_0 S) ?_
        refine zW.run 2 (pc' := 41) (ls' := [some (.ref 6), some (.int (Int32.ofInt h)), none]) (st' := [.int (Int32.ofInt h), .int (Int32.ofInt (s 7 10))]) (σ' := (zN L X (zhi s) R G nc ns)) (fun n => rfl) ?_
        refine zW.jadd rfl ?_
        refine zW.run 1 (pc' := 45) (ls' := [some (.ref 6), some (.int (Int32.ofInt h)), none]) (st' := [.int (Int32.ofInt 2400), .int (Int32.ofInt ((s 7 10) + h))]) (σ' := (zN L X (zhi s) R G nc ns)) (fun n => rfl) ?_
        refine zW.jcmp_le rfl (by omega) (fun c6 => ?_) (fun c6 => ?_)
        · skip
          refine zW.run 2 (pc' := 61) (ls' := [some (.ref 6), some (.int (Int32.ofInt h)), some (.int (Int32.ofInt 0))]) (st' := []) (σ' := (zN L X (zhi s) R G nc ns)) (fun n => rfl) ?_
          have J15 : ∀ m : Nat, ∀ (i_7 : Nat) (t_8 : Int) (q_9 : Int) (s10 : zJ), zV g U F t_8 (B + 2000 * i_7) q_9 s10 → i_7 ≤ 48 → (i_7 : Int) ≤ h → q_9 = 1 ∧ t_8 = T + i_7 ∨ q_9 = 2 ∧ T ≤ t_8 ∧ t_8 ≤ T + i_7 → 49 - i_7 < m → zW ro 25 61 [some (.ref 6), some (.int (Int32.ofInt h)), some (.int (Int32.ofInt (i_7 : Int)))] [] (zN L X (zhi s10) R G nc ns) Q := by
            intro m
            induction m with
            | zero => intros; omega
            | succ m ih16 =>
              intro i_7 t_8 q_9 s10 V11 c12 c13 c14 hm17
              refine zW.run 2 (pc' := 63) (ls' := [some (.ref 6), some (.int (Int32.ofInt h)), some (.int (Int32.ofInt (i_7 : Int)))]) (st' := [.int (Int32.ofInt h), .int (Int32.ofInt (i_7 : Int))]) (σ' := (zN L X (zhi s10) R G nc ns)) (fun n => rfl) ?_
              refine zW.jcmp_ge rfl (by omega) (fun c18 => ?_) (fun c18 => ?_)
              · skip
                refine zW.run 1 (pc' := 91) (ls' := [some (.ref 6), some (.int (Int32.ofInt h)), some (.int (Int32.ofInt (i_7 : Int)))]) (st' := [.ref 6]) (σ' := (zN L X (zhi s10) R G nc ns)) (fun n => rfl) ?_
                refine zW.getf (v := .ref 7) rfl rfl (zr_6_0 S) ?_
                have f19 := zV_sie V11
                refine zW.run 1 (pc' := 97) (ls' := [some (.ref 6), some (.int (Int32.ofInt h)), some (.int (Int32.ofInt (i_7 : Int)))]) (st' := [.int (Int32.ofInt (s10 7 10))]) (σ' := (zN L X (zhi s10) R G nc ns)) (fun n => rfl) ?_
                exact zW.jret rfl rfl (hQ0 q_9 t_8 (s10 7 10) s10 (zV_mono V11 (by omega) (by omega)) (by omega) (by omega))
              · skip
                refine zW.run 1 (pc' := 67) (ls' := [some (.ref 6), some (.int (Int32.ofInt h)), some (.int (Int32.ofInt (i_7 : Int)))]) (st' := [.ref 6]) (σ' := (zN L X (zhi s10) R G nc ns)) (fun n => rfl) ?_
                refine zW.getf (v := .ref 7) rfl rfl (zr_6_0 S) ?_
                have f20 := zV_sie V11
                refine zW.run 2 (pc' := 74) (ls' := [some (.ref 6), some (.int (Int32.ofInt h)), some (.int (Int32.ofInt (i_7 : Int)))]) (st' := [.int (Int32.ofInt 1), .int (Int32.ofInt (s10 7 11))]) (σ' := (zN L X (zhi s10) R G nc ns)) (fun n => rfl) ?_
                refine zW.jcmp_ne rfl (by omega) (fun c21 => ?_) (fun c21 => ?_)
                · skip
                  refine zW.run 1 (pc' := 91) (ls' := [some (.ref 6), some (.int (Int32.ofInt h)), some (.int (Int32.ofInt (i_7 : Int)))]) (st' := [.ref 6]) (σ' := (zN L X (zhi s10) R G nc ns)) (fun n => rfl) ?_
                  refine zW.getf (v := .ref 7) rfl rfl (zr_6_0 S) ?_
                  refine zW.run 1 (pc' := 97) (ls' := [some (.ref 6), some (.int (Int32.ofInt h)), some (.int (Int32.ofInt (i_7 : Int)))]) (st' := [.int (Int32.ofInt (s10 7 10))]) (σ' := (zN L X (zhi s10) R G nc ns)) (fun n => rfl) ?_
                  exact zW.jret rfl rfl (hQ0 q_9 t_8 (s10 7 10) s10 (zV_mono V11 (by omega) (by omega)) (by omega) (by omega))
                · skip
                  have hp9 : q_9 = 1 := (by omega)
                  subst hp9
                  refine zW.run 1 (pc' := 78) (ls' := [some (.ref 6), some (.int (Int32.ofInt h)), some (.int (Int32.ofInt (i_7 : Int)))]) (st' := [.ref 6]) (σ' := (zN L X (zhi s10) R G nc ns)) (fun n => rfl) ?_
                  refine zW.getf (v := .ref 7) rfl rfl (zr_6_0 S) ?_
                  refine zW.callV rfl (by decide) rfl rfl rfl rfl rfl (Nat.le_of_ble_eq_true rfl) ?_
                  refine t_Siege_letHourGo S V11 (by omega) (by omega) (fun s22 V23 => ?_) (fun s24 V25 => ?_)
                  · skip
                    show zW ro 25 84 [some (.ref 6), some (.int (Int32.ofInt h)), some (.int (Int32.ofInt (i_7 : Int)))] [] (zN L X (zhi s22) R G nc ns) Q
                    refine zW.jinc (ls' := [some (.ref 6), some (.int (Int32.ofInt h)), some (.int (Int32.ofInt ((i_7 : Int) + 1)))]) rfl (Nat.le_of_ble_eq_true rfl) rfl rfl ?_
                    refine zW.run 1 (pc' := 61) (ls' := [some (.ref 6), some (.int (Int32.ofInt h)), some (.int (Int32.ofInt ((i_7 : Int) + 1)))]) (st' := []) (σ' := (zN L X (zhi s22) R G nc ns)) (fun n => rfl) ?_
                    exact ih16 (i_7 + 1) t_8 2 s22 (zV_mono V23 (by omega) (by omega)) (by omega) (by omega) (by omega) (by omega)
                  · skip
                    show zW ro 25 84 [some (.ref 6), some (.int (Int32.ofInt h)), some (.int (Int32.ofInt (i_7 : Int)))] [] (zN L X (zhi s24) R G nc ns) Q
                    refine zW.jinc (ls' := [some (.ref 6), some (.int (Int32.ofInt h)), some (.int (Int32.ofInt ((i_7 : Int) + 1)))]) rfl (Nat.le_of_ble_eq_true rfl) rfl rfl ?_
                    refine zW.run 1 (pc' := 61) (ls' := [some (.ref 6), some (.int (Int32.ofInt h)), some (.int (Int32.ofInt ((i_7 : Int) + 1)))]) (st' := []) (σ' := (zN L X (zhi s24) R G nc ns)) (fun n => rfl) ?_
                    exact ih16 (i_7 + 1) (t_8 + 1) 1 s24 (zV_mono V25 (by omega) (by omega)) (by omega) (by omega) (by omega) (by omega)
          exact J15 _ 0 T 1 s (zV_mono V (by omega) (by omega)) (by omega) (by omega) (by omega) (Nat.lt_succ_self _)
        · skip
          exfalso
          omega
    · skip
      exfalso
      omega
set_option maxHeartbeats 4000000 in
theorem t_S_pass_r (S : zSR R) (V : zV g U F T B 2 s) {h : Int} (p0 : 1 ≤ h ∧ h ≤ 48) (hQ0 : Q (.inr 86) (zN L X (zhi s) R G (nc + 1) (ns + 6))) : zW ro 25 0 (zfst [.ref 6, .int (Int32.ofInt h)] 3) [] (zN L X (zhi s) R G nc ns) Q := by
  show zW ro 25 0 [some (.ref 6), some (.int (Int32.ofInt h)), none] [] (zN L X (zhi s) R G nc ns) Q
  have f1 := zA_geo (zV_zA V)
  have hB0 := zV_B V
  have f2 := zV_sie V
  refine zW.run 2 (pc' := 2) (ls' := [some (.ref 6), some (.int (Int32.ofInt h)), none]) (st' := [.int (Int32.ofInt 1), .int (Int32.ofInt h)]) (σ' := (zN L X (zhi s) R G nc ns)) (fun n => rfl) ?_
  refine zW.jcmp_lt rfl (by omega) (fun c3 => ?_) (fun c3 => ?_)
  · skip
    exfalso
    omega
  · skip
    refine zW.run 2 (pc' := 8) (ls' := [some (.ref 6), some (.int (Int32.ofInt h)), none]) (st' := [.int (Int32.ofInt 48), .int (Int32.ofInt h)]) (σ' := (zN L X (zhi s) R G nc ns)) (fun n => rfl) ?_
    refine zW.jcmp_le rfl (by omega) (fun c4 => ?_) (fun c4 => ?_)
    · skip
      refine zW.run 1 (pc' := 23) (ls' := [some (.ref 6), some (.int (Int32.ofInt h)), none]) (st' := [.ref 6]) (σ' := (zN L X (zhi s) R G nc ns)) (fun n => rfl) ?_
      refine zW.getf (v := .ref 7) rfl rfl (zr_6_0 S) ?_
      refine zW.run 2 (pc' := 30) (ls' := [some (.ref 6), some (.int (Int32.ofInt h)), none]) (st' := [.int (Int32.ofInt 1), .int (Int32.ofInt (s 7 11))]) (σ' := (zN L X (zhi s) R G nc ns)) (fun n => rfl) ?_
      refine zW.jcmp_ne rfl (by omega) (fun c5 => ?_) (fun c5 => ?_)
      rotate_left
      · exfalso; omega
      exact zW.thr rfl hQ0
    · skip
      exfalso
      omega
end ZB
